theorem dX9_night_0 : decode cX9_night 0 = .ok (.aload_n 0, 1) := by decide +kernel
theorem dX9_night_1 : decode cX9_night 1 = .ok (.iconst 0, 1) := by decide +kernel
theorem dX9_night_2 : decode cX9_night 2 = .ok (.putfield 143, 3) := by decide +kernel
theorem dX9_night_5 : decode cX9_night 5 = .ok (.aload_n 0, 1) := by decide +kernel
theorem dX9_night_6 : decode cX9_night 6 = .ok (.getfield 81, 3) := by decide +kernel
theorem dX9_night_9 : decode cX9_night 9 = .ok (.iconst 5, 1) := by decide +kernel
theorem dX9_night_10 : decode cX9_night 10 = .ok (.iconst 0, 1) := by decide +kernel
theorem dX9_night_11 : decode cX9_night 11 = .ok (.iastore, 1) := by decide +kernel
theorem dX9_night_12 : decode cX9_night 12 = .ok (.aload_n 0, 1) := by decide +kernel
theorem dX9_night_13 : decode cX9_night 13 = .ok (.invokevirtual 291, 3) := by decide +kernel
theorem dX9_night_16 : decode cX9_night 16 = .ok (.aload_n 0, 1) := by decide +kernel
theorem dX9_night_17 : decode cX9_night 17 = .ok (.getfield 167, 3) := by decide +kernel
theorem dX9_night_20 : decode cX9_night 20 = .ok (.ifCond .eq 15, 3) := by decide +kernel
theorem dX9_night_35 : decode cX9_night 35 = .ok (.aload_n 0, 1) := by decide +kernel
theorem dX9_night_36 : decode cX9_night 36 = .ok (.iconst 5, 1) := by decide +kernel
theorem dX9_night_37 : decode cX9_night 37 = .ok (.iconst 0, 1) := by decide +kernel
theorem dX9_night_38 : decode cX9_night 38 = .ok (.invokevirtual 328, 3) := by decide +kernel
theorem dX9_night_41 : decode cX9_night 41 = .ok (.iconst 0, 1) := by decide +kernel
theorem dX9_night_42 : decode cX9_night 42 = .ok (.ireturn, 1) := by decide +kernel
set_option maxRecDepth 20000 in
theorem ggX9_night_X9_begins : GoodIn wsX9_night wsX9_begins := goodIn_r _ [9, 10, 11, 12, 13, 14, 15, 8, 16, 17, 18, 19, 20, 3, 21, 22, 23, 24, 25, 26, 95, 96, 97, 98, 99, 100, 101, 102, 103, 104, 105, 106, 107, 108, 109, 110, 111, 112, 113, 114, 115, 116, 117, 118, 119, 120, 121, 122, 123, 124, 125, 126, 127, 128, 129, 130, 131, 132, 133, 134, 135, 136, 137, 138, 139, 140, 141, 142, 143, 144, 145, 146, 147, 148, 149, 150, 151, 152] rfl (by decide +kernel)
set_option maxRecDepth 20000 in
theorem gX9_night_X9_begins : GoodIn wsX9_night (wsV RX9 291 RX9 yX9_begins wsX9_begins) := goodIn_app (goodIn_of _ (by decide +kernel)) ggX9_night_X9_begins
set_option maxRecDepth 20000 in
theorem ggX9_night_X9_laysLines : GoodIn wsX9_night wsX9_laysLines := goodIn_r _ [94, 2, 35, 36, 38, 95, 96, 97, 98, 99, 100, 101, 102, 103, 104, 105, 106, 107, 108, 109, 110, 111, 112, 113, 114, 115, 116, 117, 118, 119, 120, 121, 122, 123, 124, 125, 126, 127, 128, 129, 130, 131, 132, 133, 134, 135, 136, 137, 138, 139, 140, 141, 142, 143, 144, 145, 146, 147, 148, 149, 150, 151, 152] rfl (by decide +kernel)
set_option maxRecDepth 20000 in
theorem gX9_night_X9_laysLines : GoodIn wsX9_night (wsV RX9 328 RX9 yX9_laysLines wsX9_laysLines) := goodIn_app (goodIn_of _ (by decide +kernel)) ggX9_night_X9_laysLines
set_option maxHeartbeats 4000000 in
set_option maxRecDepth 100000 in
theorem mX9_night (l : Launch) (D : va_G) (k : Nat → ClassId) (sz : Nat) (y : Nat) (y_thrown : Int32) (y_tape : Value) (y_size : Int32) (y_place : Int32) (y_begin : Int32) (y_token : Int32) (y_word : Int64) (y_told : Int32) (y_wrong : Int32) (y_supper : Value) (y_guestName : Value) (y_kind : Value) (y_offTold : Value) (y_pace : Value) (y_cooks : Value) (y_snow : Value) (y_lineFrom : Value) (y_lineTo : Value) (y_codes : Value) (y_code : Int32) (y_toldLines : Int32) (y_opened : Value) (y_compared : Value) (y_kept : Value) (y_keptBy : Value) (y_ahead : Value) (y_against : Value) (y_sum : Value) (y_sumBy : Value) (y_term : Value) (y_termBy : Value) (y_byNot : Value) (y_valueOf : Value) (y_given : Int32) (b_lines : Nat) (b_lineWhat : Nat) (b_lineA : Nat) (b_lineB : Nat) (y_seens : Value) (y_seenIn : Value) (y_seenYards : Value) (y_seenNear : Value) (y_s : Value) (y_aside : Value) (y_before : Value) (y_marked : Value) (y_undone : Value) (y_isLaid : Value) (y_done : Int32) (y_snowNow : Int32) (y_cameNow : Int32) (y_cookThen : Int32) (y_tasteThen : Int32) (y_places : Value) (y_comesAt : Value) (y_yardsIn : Value) (y_g : Int64) (c_lines : Nat → Int32) (c_lineWhat : Nat → Int32) (c_lineA : Nat → Int32) (c_lineB : Nat → Int32) : Met l yX9_night wsX9_night ({ frames := 2, cells := 0, slots := 0, locals := 140 }) (va_Pc [.ref y] (kz_Pre D k [(y, kO 9 [.int y_thrown, .int 0, y_tape, .int y_size, .int y_place, .int y_begin, .int y_token, .long y_word, .int y_told, .int y_wrong, y_supper, y_guestName, y_kind, y_offTold, y_pace, y_cooks, y_snow, y_lineFrom, y_lineTo, y_codes, .int y_code, .int y_toldLines, y_opened, y_compared, y_kept, y_keptBy, y_ahead, y_against, y_sum, y_sumBy, y_term, y_termBy, y_byNot, y_valueOf, .int y_given, .ref b_lines, .ref b_lineWhat, .ref b_lineA, .ref b_lineB, y_seens, y_seenIn, y_seenYards, y_seenNear, y_s, y_aside, y_before, y_marked, y_undone, y_isLaid, .int y_done, .int y_snowNow, .int y_cameNow, .int y_cookThen, .int y_tasteThen, y_places, y_comesAt, y_yardsIn, .long y_g]), (b_lines, kI k 6 c_lines), (b_lineWhat, kI k 240 c_lineWhat), (b_lineA, kI k 240 c_lineA), (b_lineB, kI k 240 c_lineB)] sz)) (va_Qi (fun (rr : Int32) (uu : Unit) => rr = 0) (fun uu zt => kz_B D (va_A [(y, kO 9 [.int y_thrown, .int 0, y_tape, .int y_size, .int y_place, .int y_begin, .int y_token, .long y_word, .int y_told, .int y_wrong, y_supper, y_guestName, y_kind, y_offTold, y_pace, y_cooks, y_snow, y_lineFrom, y_lineTo, y_codes, .int y_code, .int y_toldLines, y_opened, y_compared, y_kept, y_keptBy, y_ahead, y_against, y_sum, y_sumBy, y_term, y_termBy, y_byNot, y_valueOf, .int y_given, .ref b_lines, .ref b_lineWhat, .ref b_lineA, .ref b_lineB, y_seens, y_seenIn, y_seenYards, y_seenNear, y_s, y_aside, y_before, y_marked, y_undone, y_isLaid, .int y_done, .int y_snowNow, .int y_cameNow, .int y_cookThen, .int y_tasteThen, y_places, y_comesAt, y_yardsIn, .long y_g]), (b_lines, kI k 6 c_lines), (b_lineWhat, kI k 240 c_lineWhat), (b_lineA, kI k 240 c_lineA), (b_lineB, kI k 240 c_lineB)] sz) [] zt) (va_A [(y, kO 9 [.int y_thrown, .int 0, y_tape, .int y_size, .int y_place, .int y_begin, .int y_token, .long y_word, .int y_told, .int y_wrong, y_supper, y_guestName, y_kind, y_offTold, y_pace, y_cooks, y_snow, y_lineFrom, y_lineTo, y_codes, .int y_code, .int y_toldLines, y_opened, y_compared, y_kept, y_keptBy, y_ahead, y_against, y_sum, y_sumBy, y_term, y_termBy, y_byNot, y_valueOf, .int y_given, .ref b_lines, .ref b_lineWhat, .ref b_lineA, .ref b_lineB, y_seens, y_seenIn, y_seenYards, y_seenNear, y_s, y_aside, y_before, y_marked, y_undone, y_isLaid, .int y_done, .int y_snowNow, .int y_cameNow, .int y_cookThen, .int y_tasteThen, y_places, y_comesAt, y_yardsIn, .long y_g]), (b_lines, kI k 6 c_lines), (b_lineWhat, kI k 240 c_lineWhat), (b_lineA, kI k 240 c_lineA), (b_lineB, kI k 240 c_lineB)] sz)) 0 0 (va_A [(y, kO 9 [.int y_thrown, .int 0, y_tape, .int y_size, .int y_place, .int y_begin, .int y_token, .long y_word, .int y_told, .int y_wrong, y_supper, y_guestName, y_kind, y_offTold, y_pace, y_cooks, y_snow, y_lineFrom, y_lineTo, y_codes, .int y_code, .int y_toldLines, y_opened, y_compared, y_kept, y_keptBy, y_ahead, y_against, y_sum, y_sumBy, y_term, y_termBy, y_byNot, y_valueOf, .int y_given, .ref b_lines, .ref b_lineWhat, .ref b_lineA, .ref b_lineB, y_seens, y_seenIn, y_seenYards, y_seenNear, y_s, y_aside, y_before, y_marked, y_undone, y_isLaid, .int y_done, .int y_snowNow, .int y_cameNow, .int y_cookThen, .int y_tasteThen, y_places, y_comesAt, y_yardsIn, .long y_g]), (b_lines, kI k 6 c_lines), (b_lineWhat, kI k 240 c_lineWhat), (b_lineA, kI k 240 c_lineA), (b_lineB, kI k 240 c_lineB)] sz) := by
  refine Met.ofW (cc := cX9_night) (maxL := 1) (ret := (some .int)) (by decide) rfl ?_
  intro p e s m args below meth c s₁ B hml hv
  obtain ⟨hav, hsz, hP, hK, hD0, hE⟩ := hv
  have hx := B.exec
  have hb := B.bytes
  have hr := B.returns
  have hts := atoms_spec (ws := wsX9_night) B.pre
  have hown : s.vm.findClass RX9 = some m.cls := findClass_of_methodNamed B.named
  have hlocks := B.notSynchronized
  have hi9 : ∀ w ∈ u_ws RX9 TX9 58, w ∈ wsX9_night := by decide +kernel
  have lf143 := hts (.fieldLink RX9 143 "LastCookModel" "thrown" "I") (by decide +kernel)
  have lf81 := hts (.fieldLink RX9 81 "LastCookModel" "lines" "[I") (by decide +kernel)
  have lf167 := hts (.fieldLink RX9 167 "LastCookModel" "token" "I") (by decide +kernel)
  subst hsz
  have hD := hD0.self (sz := s.heap.size)
  generalize hAe : va_A [(y, kO 9 [.int y_thrown, .int 0, y_tape, .int y_size, .int y_place, .int y_begin, .int y_token, .long y_word, .int y_told, .int y_wrong, y_supper, y_guestName, y_kind, y_offTold, y_pace, y_cooks, y_snow, y_lineFrom, y_lineTo, y_codes, .int y_code, .int y_toldLines, y_opened, y_compared, y_kept, y_keptBy, y_ahead, y_against, y_sum, y_sumBy, y_term, y_termBy, y_byNot, y_valueOf, .int y_given, .ref b_lines, .ref b_lineWhat, .ref b_lineA, .ref b_lineB, y_seens, y_seenIn, y_seenYards, y_seenNear, y_s, y_aside, y_before, y_marked, y_undone, y_isLaid, .int y_done, .int y_snowNow, .int y_cameNow, .int y_cookThen, .int y_tasteThen, y_places, y_comesAt, y_yardsIn, .long y_g]), (b_lines, kI k 6 c_lines), (b_lineWhat, kI k 240 c_lineWhat), (b_lineA, kI k 240 c_lineA), (b_lineB, kI k 240 c_lineB)] s.heap.size = A at hD ⊢
  have hA : ∀ q : Nat, s.heap.size ≤ q → A q := fun q h => by rw [← hAe]; exact Or.inr h
  have hS : va_S A s.heap s.heap [] := va_S.rf
  have hl := lv_entry ([.ref y]) (n := 1) (Nat.le_of_ble_eq_true rfl)
  rw [show entryFrame m args 1 = entryFrame m ([.ref y] : List Value).toArray 1 by rw [hav], lg_entry_eq]
  generalize (lg_sl ([.ref y]) ++ List.replicate (1 - (lg_sl ([.ref y])).length) Slot.unset).toArray = ls at hl ⊢
  have hl : lv_has ls 1 [(0, .ref y)] := hl
  obtain ⟨R, hR⟩ : ∃ R, R = (headSpec wsX9_night ({ frames := 2, cells := 0, slots := 0, locals := 140 } : Room)).room := ⟨_, rfl⟩
  rw [← hR]
  generalize hQ : MQ below _ args s 0 0 A = Q
  replace hQ := hQ.symm
  obtain ⟨H, hH⟩ : ∃ H, H = s.heap := ⟨_, rfl⟩
  rw [← hH] at hP ⊢
  have hS : va_S A s.heap H [] := by rw [hH]; exact hS
  refine lv_aload_n hx hb dX9_night_0 rfl (lv_at hl 0 rfl) ?_
  refine lv_iconst (v := 0) hx hb dX9_night_1 (by decide) ?_
  refine va_put (D := D) (ci := 9) (v := .int 0) (ty := .int) (C := RX9) (T := TX9) (N := 58) hx hb hts hi9 tyX9 tyX9_ok nmX9 hown hK hP hD hS 0 rfl rfl 0 (by decide) lf143 (fun _ h9 => h9) rfl (by decide +kernel) rfl rfl (Nat.le_of_ble_eq_true rfl) dX9_night_2 (fun H locs hP hD hS => ?_)
  have hP : va_P D vwCl [(y, kO 9 [.int 0, .int 0, y_tape, .int y_size, .int y_place, .int y_begin, .int y_token, .long y_word, .int y_told, .int y_wrong, y_supper, y_guestName, y_kind, y_offTold, y_pace, y_cooks, y_snow, y_lineFrom, y_lineTo, y_codes, .int y_code, .int y_toldLines, y_opened, y_compared, y_kept, y_keptBy, y_ahead, y_against, y_sum, y_sumBy, y_term, y_termBy, y_byNot, y_valueOf, .int y_given, .ref b_lines, .ref b_lineWhat, .ref b_lineA, .ref b_lineB, y_seens, y_seenIn, y_seenYards, y_seenNear, y_s, y_aside, y_before, y_marked, y_undone, y_isLaid, .int y_done, .int y_snowNow, .int y_cameNow, .int y_cookThen, .int y_tasteThen, y_places, y_comesAt, y_yardsIn, .long y_g]), (b_lines, kI k 6 c_lines), (b_lineWhat, kI k 240 c_lineWhat), (b_lineA, kI k 240 c_lineA), (b_lineB, kI k 240 c_lineB)] H := hP
  have hD : va_D A [(y, kO 9 [.int 0, .int 0, y_tape, .int y_size, .int y_place, .int y_begin, .int y_token, .long y_word, .int y_told, .int y_wrong, y_supper, y_guestName, y_kind, y_offTold, y_pace, y_cooks, y_snow, y_lineFrom, y_lineTo, y_codes, .int y_code, .int y_toldLines, y_opened, y_compared, y_kept, y_keptBy, y_ahead, y_against, y_sum, y_sumBy, y_term, y_termBy, y_byNot, y_valueOf, .int y_given, .ref b_lines, .ref b_lineWhat, .ref b_lineA, .ref b_lineB, y_seens, y_seenIn, y_seenYards, y_seenNear, y_s, y_aside, y_before, y_marked, y_undone, y_isLaid, .int y_done, .int y_snowNow, .int y_cameNow, .int y_cookThen, .int y_tasteThen, y_places, y_comesAt, y_yardsIn, .long y_g]), (b_lines, kI k 6 c_lines), (b_lineWhat, kI k 240 c_lineWhat), (b_lineA, kI k 240 c_lineA), (b_lineB, kI k 240 c_lineB)] := hD
  refine lv_aload_n hx hb dX9_night_5 rfl (lv_at hl 0 rfl) ?_
  refine va_get (D := D) (ci := 9) (v := .ref b_lines) (C := RX9) (T := TX9) (N := 58) hx hb hts hi9 hown hK hP 0 rfl rfl 35 (by decide) lf81 (fun _ h9 => h9) rfl dX9_night_6 ?_
  refine lv_iconst (v := 5) hx hb dX9_night_9 (by decide) ?_
  refine lv_iconst (v := 0) hx hb dX9_night_10 (by decide) ?_
  refine va_iast hx hb hK hP hD hS 1 0 rfl rfl (vp_in_iff.mpr (by decide)) dX9_night_11 (fun H locs hP hD hS => ?_)
  have hP : va_P D vwCl [(y, kO 9 [.int 0, .int 0, y_tape, .int y_size, .int y_place, .int y_begin, .int y_token, .long y_word, .int y_told, .int y_wrong, y_supper, y_guestName, y_kind, y_offTold, y_pace, y_cooks, y_snow, y_lineFrom, y_lineTo, y_codes, .int y_code, .int y_toldLines, y_opened, y_compared, y_kept, y_keptBy, y_ahead, y_against, y_sum, y_sumBy, y_term, y_termBy, y_byNot, y_valueOf, .int y_given, .ref b_lines, .ref b_lineWhat, .ref b_lineA, .ref b_lineB, y_seens, y_seenIn, y_seenYards, y_seenNear, y_s, y_aside, y_before, y_marked, y_undone, y_isLaid, .int y_done, .int y_snowNow, .int y_cameNow, .int y_cookThen, .int y_tasteThen, y_places, y_comesAt, y_yardsIn, .long y_g]), (b_lines, kI k 6 (upd c_lines (Int32.toNatClampNeg 5) 0)), (b_lineWhat, kI k 240 c_lineWhat), (b_lineA, kI k 240 c_lineA), (b_lineB, kI k 240 c_lineB)] H := hP
  have hD : va_D A [(y, kO 9 [.int 0, .int 0, y_tape, .int y_size, .int y_place, .int y_begin, .int y_token, .long y_word, .int y_told, .int y_wrong, y_supper, y_guestName, y_kind, y_offTold, y_pace, y_cooks, y_snow, y_lineFrom, y_lineTo, y_codes, .int y_code, .int y_toldLines, y_opened, y_compared, y_kept, y_keptBy, y_ahead, y_against, y_sum, y_sumBy, y_term, y_termBy, y_byNot, y_valueOf, .int y_given, .ref b_lines, .ref b_lineWhat, .ref b_lineA, .ref b_lineB, y_seens, y_seenIn, y_seenYards, y_seenNear, y_s, y_aside, y_before, y_marked, y_undone, y_isLaid, .int y_done, .int y_snowNow, .int y_cameNow, .int y_cookThen, .int y_tasteThen, y_places, y_comesAt, y_yardsIn, .long y_g]), (b_lines, kI k 6 (upd c_lines (Int32.toNatClampNeg 5) 0)), (b_lineWhat, kI k 240 c_lineWhat), (b_lineA, kI k 240 c_lineA), (b_lineB, kI k 240 c_lineB)] := hD
  refine lv_aload_n hx hb dX9_night_12 rfl (lv_at hl 0 rfl) ?_
  refine kz_Vv (As := []) (rest := []) (wc := [(y, kO 9 [.int 0, .int 0, y_tape, .int y_size, .int y_place, .int y_begin, .int y_token, .long y_word, .int y_told, .int y_wrong, y_supper, y_guestName, y_kind, y_offTold, y_pace, y_cooks, y_snow, y_lineFrom, y_lineTo, y_codes, .int y_code, .int y_toldLines, y_opened, y_compared, y_kept, y_keptBy, y_ahead, y_against, y_sum, y_sumBy, y_term, y_termBy, y_byNot, y_valueOf, .int y_given, .ref b_lines, .ref b_lineWhat, .ref b_lineA, .ref b_lineB, y_seens, y_seenIn, y_seenYards, y_seenNear, y_s, y_aside, y_before, y_marked, y_undone, y_isLaid, .int y_done, .int y_snowNow, .int y_cameNow, .int y_cookThen, .int y_tasteThen, y_places, y_comesAt, y_yardsIn, .long y_g])]) (wr := [(b_lines, kI k 6 (upd c_lines (Int32.toNatClampNeg 5) 0)), (b_lineWhat, kI k 240 c_lineWhat), (b_lineA, kI k 240 c_lineA), (b_lineB, kI k 240 c_lineB)]) ⟨hx, hb, hml, hown, hts⟩ hK hE hP hD hS hA (mX9_begins l D k H.size y 0 y_tape y_size y_place y_begin y_token y_word y_told y_wrong y_supper y_guestName y_kind y_offTold y_pace y_cooks y_snow y_lineFrom y_lineTo y_codes y_code y_toldLines y_opened y_compared y_kept y_keptBy y_ahead y_against y_sum y_sumBy y_term y_termBy y_byNot y_valueOf y_given (.ref b_lines) (.ref b_lineWhat) (.ref b_lineA) (.ref b_lineB) y_seens y_seenIn y_seenYards y_seenNear y_s y_aside y_before y_marked y_undone y_isLaid y_done y_snowNow y_cameNow y_cookThen y_tasteThen y_places y_comesAt y_yardsIn y_g) (cwV 0 hts gX9_night_X9_begins rfl rfl rfl (by decide +kernel) (by rw [hR]; exact ⟨Nat.le_of_ble_eq_true rfl, Nat.le_of_ble_eq_true rfl⟩)) [0] [1, 2, 3, 4] rfl rfl (by decide) (by decide) (by decide) 0 rfl rfl rfl hl.1 rfl (Nat.le_of_ble_eq_true rfl) dX9_night_13 (by rw [hR]; exact ⟨Nat.le_of_ble_eq_true rfl, Nat.le_of_ble_eq_true rfl⟩) (fun u1 H locs hw1 hP hD hS => ?_)
  have hP : va_P D vwCl [(b_lines, kI k 6 (upd c_lines (Int32.toNatClampNeg 5) 0)), (b_lineWhat, kI k 240 c_lineWhat), (b_lineA, kI k 240 c_lineA), (b_lineB, kI k 240 c_lineB), (y, kO 9 [.int 0, .int 0, y_tape, .int 0, .int 0, .int 0, .int 0, .long 0, .int 0, .int y_wrong, y_supper, y_guestName, y_kind, y_offTold, y_pace, y_cooks, y_snow, y_lineFrom, y_lineTo, y_codes, .int y_code, .int y_toldLines, y_opened, y_compared, y_kept, y_keptBy, y_ahead, y_against, y_sum, y_sumBy, y_term, y_termBy, y_byNot, y_valueOf, .int y_given, .ref b_lines, .ref b_lineWhat, .ref b_lineA, .ref b_lineB, y_seens, y_seenIn, y_seenYards, y_seenNear, y_s, y_aside, y_before, y_marked, y_undone, y_isLaid, .int y_done, .int y_snowNow, .int y_cameNow, .int y_cookThen, .int y_tasteThen, y_places, y_comesAt, y_yardsIn, .long y_g])] H := hP
  have hD : va_D A [(b_lines, kI k 6 (upd c_lines (Int32.toNatClampNeg 5) 0)), (b_lineWhat, kI k 240 c_lineWhat), (b_lineA, kI k 240 c_lineA), (b_lineB, kI k 240 c_lineB), (y, kO 9 [.int 0, .int 0, y_tape, .int 0, .int 0, .int 0, .int 0, .long 0, .int 0, .int y_wrong, y_supper, y_guestName, y_kind, y_offTold, y_pace, y_cooks, y_snow, y_lineFrom, y_lineTo, y_codes, .int y_code, .int y_toldLines, y_opened, y_compared, y_kept, y_keptBy, y_ahead, y_against, y_sum, y_sumBy, y_term, y_termBy, y_byNot, y_valueOf, .int y_given, .ref b_lines, .ref b_lineWhat, .ref b_lineA, .ref b_lineB, y_seens, y_seenIn, y_seenYards, y_seenNear, y_s, y_aside, y_before, y_marked, y_undone, y_isLaid, .int y_done, .int y_snowNow, .int y_cameNow, .int y_cookThen, .int y_tasteThen, y_places, y_comesAt, y_yardsIn, .long y_g])] := hD
  refine lv_aload_n hx hb dX9_night_16 rfl (lv_at hl 0 rfl) ?_
  refine va_get (D := D) (ci := 9) (v := .int 0) (C := RX9) (T := TX9) (N := 58) hx hb hts hi9 hown hK hP 4 rfl rfl 6 (by decide) lf167 (fun _ h9 => h9) rfl dX9_night_17 ?_
  refine lv_if_eq (tgt := 35) hx hb dX9_night_20 (by decide) (fun c_2 => ?_) (fun c_2 => absurd (by decide) c_2)
  refine lv_aload_n hx hb dX9_night_35 rfl (lv_at hl 0 rfl) ?_
  refine lv_iconst (v := 5) hx hb dX9_night_36 (by decide) ?_
  refine lv_iconst (v := 0) hx hb dX9_night_37 (by decide) ?_
  refine kz_Vv (As := [.int 5, .int 0]) (rest := []) (wc := [(y, kO 9 [.int 0, .int 0, y_tape, .int 0, .int 0, .int 0, .int 0, .long 0, .int 0, .int y_wrong, y_supper, y_guestName, y_kind, y_offTold, y_pace, y_cooks, y_snow, y_lineFrom, y_lineTo, y_codes, .int y_code, .int y_toldLines, y_opened, y_compared, y_kept, y_keptBy, y_ahead, y_against, y_sum, y_sumBy, y_term, y_termBy, y_byNot, y_valueOf, .int y_given, .ref b_lines, .ref b_lineWhat, .ref b_lineA, .ref b_lineB, y_seens, y_seenIn, y_seenYards, y_seenNear, y_s, y_aside, y_before, y_marked, y_undone, y_isLaid, .int y_done, .int y_snowNow, .int y_cameNow, .int y_cookThen, .int y_tasteThen, y_places, y_comesAt, y_yardsIn, .long y_g]), (b_lines, kI k 6 (upd c_lines (Int32.toNatClampNeg 5) 0)), (b_lineWhat, kI k 240 c_lineWhat), (b_lineA, kI k 240 c_lineA), (b_lineB, kI k 240 c_lineB)]) (wr := []) ⟨hx, hb, hml, hown, hts⟩ hK hE hP hD hS hA (mX9_laysLines l D k H.size y 5 0 0 0 y_tape 0 0 0 0 0 0 y_wrong y_supper y_guestName y_kind y_offTold y_pace y_cooks y_snow y_lineFrom y_lineTo y_codes y_code y_toldLines y_opened y_compared y_kept y_keptBy y_ahead y_against y_sum y_sumBy y_term y_termBy y_byNot y_valueOf y_given b_lines b_lineWhat b_lineA b_lineB y_seens y_seenIn y_seenYards y_seenNear y_s y_aside y_before y_marked y_undone y_isLaid y_done y_snowNow y_cameNow y_cookThen y_tasteThen y_places y_comesAt y_yardsIn y_g (upd c_lines (Int32.toNatClampNeg 5) 0) c_lineWhat c_lineA c_lineB (by first | decide | omega) (by first | decide | omega)) (cwV 2 hts gX9_night_X9_laysLines rfl rfl rfl (by decide +kernel) (by rw [hR]; exact ⟨Nat.le_of_ble_eq_true rfl, Nat.le_of_ble_eq_true rfl⟩)) [4, 0, 1, 2, 3] [] rfl rfl (by decide) (by decide) (by decide) 0 rfl rfl rfl hl.1 rfl (Nat.le_of_ble_eq_true rfl) dX9_night_38 (by rw [hR]; exact ⟨Nat.le_of_ble_eq_true rfl, Nat.le_of_ble_eq_true rfl⟩) (fun u3 H locs hw3 hP hD hS => ?_)
  have hP : va_P D vwCl [(y, kO 9 [.int 0, .int 0, y_tape, .int 0, .int 0, .int 0, .int 0, .long 0, .int 0, .int y_wrong, y_supper, y_guestName, y_kind, y_offTold, y_pace, y_cooks, y_snow, y_lineFrom, y_lineTo, y_codes, .int y_code, .int y_toldLines, y_opened, y_compared, y_kept, y_keptBy, y_ahead, y_against, y_sum, y_sumBy, y_term, y_termBy, y_byNot, y_valueOf, .int y_given, .ref b_lines, .ref b_lineWhat, .ref b_lineA, .ref b_lineB, y_seens, y_seenIn, y_seenYards, y_seenNear, y_s, y_aside, y_before, y_marked, y_undone, y_isLaid, .int y_done, .int y_snowNow, .int y_cameNow, .int y_cookThen, .int y_tasteThen, y_places, y_comesAt, y_yardsIn, .long y_g])] H := hP
  have hD : va_D A [(y, kO 9 [.int 0, .int 0, y_tape, .int 0, .int 0, .int 0, .int 0, .long 0, .int 0, .int y_wrong, y_supper, y_guestName, y_kind, y_offTold, y_pace, y_cooks, y_snow, y_lineFrom, y_lineTo, y_codes, .int y_code, .int y_toldLines, y_opened, y_compared, y_kept, y_keptBy, y_ahead, y_against, y_sum, y_sumBy, y_term, y_termBy, y_byNot, y_valueOf, .int y_given, .ref b_lines, .ref b_lineWhat, .ref b_lineA, .ref b_lineB, y_seens, y_seenIn, y_seenYards, y_seenNear, y_s, y_aside, y_before, y_marked, y_undone, y_isLaid, .int y_done, .int y_snowNow, .int y_cameNow, .int y_cookThen, .int y_tasteThen, y_places, y_comesAt, y_yardsIn, .long y_g])] := hD
  refine lv_iconst (v := 0) hx hb dX9_night_41 (by decide) ?_
  rw [hQ]
  have hP9 := hP.sub (ws' := []) [] rfl
  have hD9 := hD.sub (ws' := []) [] (by decide) rfl
  exact W.iret (v := 0) hx hb hr (fun zt ht hW => ⟨⟨0, (), rfl, rfl, by rw [ht]; exact hP9, hD9⟩, hS.F ht⟩) hS.2.2 dX9_night_42
theorem dX9_mark_0 : decode cX9_mark 0 = .ok (.aload_n 0, 1) := by decide +kernel
theorem dX9_mark_1 : decode cX9_mark 1 = .ok (.iconst 0, 1) := by decide +kernel
theorem dX9_mark_2 : decode cX9_mark 2 = .ok (.putfield 143, 3) := by decide +kernel
theorem dX9_mark_5 : decode cX9_mark 5 = .ok (.iload_n 1, 1) := by decide +kernel
theorem dX9_mark_6 : decode cX9_mark 6 = .ok (.iconst 0, 1) := by decide +kernel
theorem dX9_mark_7 : decode cX9_mark 7 = .ok (.iconst 3, 1) := by decide +kernel
theorem dX9_mark_8 : decode cX9_mark 8 = .ok (.invokestatic 260, 3) := by decide +kernel
theorem dX9_mark_11 : decode cX9_mark 11 = .ok (.ifCond .eq 16, 3) := by decide +kernel
theorem dX9_mark_14 : decode cX9_mark 14 = .ok (.iload_n 2, 1) := by decide +kernel
theorem dX9_mark_15 : decode cX9_mark 15 = .ok (.ifCond .eq 14, 3) := by decide +kernel
theorem dX9_mark_18 : decode cX9_mark 18 = .ok (.aload_n 0, 1) := by decide +kernel
theorem dX9_mark_19 : decode cX9_mark 19 = .ok (.getfield 120, 3) := by decide +kernel
theorem dX9_mark_22 : decode cX9_mark 22 = .ok (.iload_n 1, 1) := by decide +kernel
theorem dX9_mark_23 : decode cX9_mark 23 = .ok (.baload, 1) := by decide +kernel
theorem dX9_mark_24 : decode cX9_mark 24 = .ok (.ifCond .ne 5, 3) := by decide +kernel
theorem dX9_mark_27 : decode cX9_mark 27 = .ok (.iconst 0, 1) := by decide +kernel
theorem dX9_mark_28 : decode cX9_mark 28 = .ok (.ireturn, 1) := by decide +kernel
theorem dX9_mark_29 : decode cX9_mark 29 = .ok (.aload_n 0, 1) := by decide +kernel
theorem dX9_mark_30 : decode cX9_mark 30 = .ok (.getfield 120, 3) := by decide +kernel
theorem dX9_mark_33 : decode cX9_mark 33 = .ok (.iload_n 1, 1) := by decide +kernel
theorem dX9_mark_34 : decode cX9_mark 34 = .ok (.iconst 1, 1) := by decide +kernel
theorem dX9_mark_35 : decode cX9_mark 35 = .ok (.bastore, 1) := by decide +kernel
theorem dX9_mark_36 : decode cX9_mark 36 = .ok (.iload_n 2, 1) := by decide +kernel
theorem dX9_mark_37 : decode cX9_mark 37 = .ok (.ifCond .eq 9, 3) := by decide +kernel
theorem dX9_mark_46 : decode cX9_mark 46 = .ok (.iconst 0, 1) := by decide +kernel
theorem dX9_mark_47 : decode cX9_mark 47 = .ok (.istore_n 3, 1) := by decide +kernel
theorem dX9_mark_48 : decode cX9_mark 48 = .ok (.iload_n 2, 1) := by decide +kernel
theorem dX9_mark_49 : decode cX9_mark 49 = .ok (.ifCond .eq 7, 3) := by decide +kernel
theorem dX9_mark_56 : decode cX9_mark 56 = .ok (.iconst 1, 1) := by decide +kernel
theorem dX9_mark_57 : decode cX9_mark 57 = .ok (.iload_n 1, 1) := by decide +kernel
theorem dX9_mark_58 : decode cX9_mark 58 = .ok (.iadd, 1) := by decide +kernel
theorem dX9_mark_59 : decode cX9_mark 59 = .ok (.istore 4, 2) := by decide +kernel
theorem dX9_mark_61 : decode cX9_mark 61 = .ok (.aload_n 0, 1) := by decide +kernel
theorem dX9_mark_62 : decode cX9_mark 62 = .ok (.iload_n 3, 1) := by decide +kernel
theorem dX9_mark_63 : decode cX9_mark 63 = .ok (.iload 4, 2) := by decide +kernel
theorem dX9_mark_65 : decode cX9_mark 65 = .ok (.invokevirtual 328, 3) := by decide +kernel
theorem dX9_mark_68 : decode cX9_mark 68 = .ok (.aload_n 0, 1) := by decide +kernel
theorem dX9_mark_69 : decode cX9_mark 69 = .ok (.iload_n 3, 1) := by decide +kernel
theorem dX9_mark_70 : decode cX9_mark 70 = .ok (.iload 4, 2) := by decide +kernel
theorem dX9_mark_72 : decode cX9_mark 72 = .ok (.invokevirtual 456, 3) := by decide +kernel
theorem dX9_mark_75 : decode cX9_mark 75 = .ok (.iload_n 2, 1) := by decide +kernel
theorem dX9_mark_76 : decode cX9_mark 76 = .ok (.ifCond .eq 27, 3) := by decide +kernel
theorem dX9_mark_103 : decode cX9_mark 103 = .ok (.aload_n 0, 1) := by decide +kernel
theorem dX9_mark_104 : decode cX9_mark 104 = .ok (.getfield 105, 3) := by decide +kernel
theorem dX9_mark_107 : decode cX9_mark 107 = .ok (.iconst 0, 1) := by decide +kernel
theorem dX9_mark_108 : decode cX9_mark 108 = .ok (.aload_n 0, 1) := by decide +kernel
theorem dX9_mark_109 : decode cX9_mark 109 = .ok (.getfield 114, 3) := by decide +kernel
theorem dX9_mark_112 : decode cX9_mark 112 = .ok (.bipush 46, 2) := by decide +kernel
theorem dX9_mark_114 : decode cX9_mark 114 = .ok (.iload_n 1, 1) := by decide +kernel
theorem dX9_mark_115 : decode cX9_mark 115 = .ok (.imul, 1) := by decide +kernel
theorem dX9_mark_116 : decode cX9_mark 116 = .ok (.invokestatic 384, 3) := by decide +kernel
theorem dX9_mark_119 : decode cX9_mark 119 = .ok (.iconst 1, 1) := by decide +kernel
theorem dX9_mark_120 : decode cX9_mark 120 = .ok (.ireturn, 1) := by decide +kernel
set_option maxRecDepth 20000 in
theorem ggX9_mark_X9_within : GoodIn wsX9_mark wsX9_within := goodIn_r _ [9] rfl (by decide +kernel)
set_option maxRecDepth 20000 in
theorem gX9_mark_X9_within : GoodIn wsX9_mark (va_wsS RX9 260 yX9_within wsX9_within) := goodIn_app (goodIn_of _ (by decide +kernel)) ggX9_mark_X9_within
set_option maxRecDepth 20000 in
theorem ggX9_mark_X9_laysLines : GoodIn wsX9_mark wsX9_laysLines := goodIn_r _ [13, 14, 15, 16, 17, 29, 30, 31, 32, 33, 34, 35, 36, 37, 38, 39, 40, 41, 42, 43, 44, 45, 46, 47, 48, 49, 50, 51, 52, 53, 54, 55, 56, 57, 58, 59, 60, 61, 62, 63, 64, 65, 66, 67, 68, 69, 70, 71, 72, 73, 74, 75, 76, 77, 78, 79, 80, 81, 82, 83, 84, 85, 86] rfl (by decide +kernel)
set_option maxRecDepth 20000 in
theorem gX9_mark_X9_laysLines : GoodIn wsX9_mark (wsV RX9 328 RX9 yX9_laysLines wsX9_laysLines) := goodIn_app (goodIn_of _ (by decide +kernel)) ggX9_mark_X9_laysLines
set_option maxRecDepth 20000 in
theorem ggX9_mark_X9_laysSeen : GoodIn wsX9_mark wsX9_laysSeen := goodIn_r _ [21, 22, 23, 24, 25, 29, 30, 31, 32, 33, 34, 35, 36, 37, 38, 39, 40, 41, 42, 43, 44, 45, 46, 47, 48, 49, 50, 51, 52, 53, 54, 55, 56, 57, 58, 59, 60, 61, 62, 63, 64, 65, 66, 67, 68, 69, 70, 71, 72, 73, 74, 75, 76, 77, 78, 79, 80, 81, 82, 83, 84, 85, 86] rfl (by decide +kernel)
set_option maxRecDepth 20000 in
theorem gX9_mark_X9_laysSeen : GoodIn wsX9_mark (wsV RX9 456 RX9 yX9_laysSeen wsX9_laysSeen) := goodIn_app (goodIn_of _ (by decide +kernel)) ggX9_mark_X9_laysSeen
set_option maxRecDepth 20000 in
theorem ggX9_mark_X9_copies : GoodIn wsX9_mark wsX9_copies := goodIn_r _ [28] rfl (by decide +kernel)
set_option maxRecDepth 20000 in
theorem gX9_mark_X9_copies : GoodIn wsX9_mark (va_wsS RX9 384 yX9_copies wsX9_copies) := goodIn_app (goodIn_of _ (by decide +kernel)) ggX9_mark_X9_copies
set_option maxHeartbeats 4000000 in
set_option maxRecDepth 100000 in
theorem mX9_mark (l : Launch) (D : va_G) (k : Nat → ClassId) (sz : Nat) (y : Nat) (t0 : Nat) (q2 : Int32) (y_thrown : Int32) (y_taped : Int32) (y_tape : Value) (y_size : Int32) (y_place : Int32) (y_begin : Int32) (y_token : Int32) (y_word : Int64) (y_told : Int32) (y_wrong : Int32) (y_supper : Value) (y_guestName : Value) (y_kind : Value) (y_offTold : Value) (y_pace : Value) (y_cooks : Value) (y_snow : Value) (y_lineFrom : Value) (y_lineTo : Value) (y_codes : Value) (y_code : Int32) (y_toldLines : Int32) (y_opened : Value) (y_compared : Value) (y_kept : Value) (y_keptBy : Value) (y_ahead : Value) (y_against : Value) (y_sum : Value) (y_sumBy : Value) (y_term : Value) (y_termBy : Value) (y_byNot : Value) (y_valueOf : Value) (y_given : Int32) (b_lines : Nat) (b_lineWhat : Nat) (b_lineA : Nat) (b_lineB : Nat) (b_seens : Nat) (b_seenIn : Nat) (b_seenYards : Nat) (b_seenNear : Nat) (b_s : Nat) (y_aside : Value) (y_before : Value) (b_marked : Nat) (y_undone : Value) (b_isLaid : Nat) (y_done : Int32) (y_snowNow : Int32) (y_cameNow : Int32) (y_cookThen : Int32) (y_tasteThen : Int32) (y_places : Value) (y_comesAt : Value) (y_yardsIn : Value) (y_g : Int64) (c_lines : Nat → Int32) (c_lineWhat : Nat → Int32) (c_lineA : Nat → Int32) (c_lineB : Nat → Int32) (c_seens : Nat → Int32) (c_seenIn : Nat → Int32) (c_seenYards : Nat → Int32) (c_seenNear : Nat → Int32) (c_s : Nat → Int32) (c_marked : Nat → Int32) (hq : 0 ≤ nI t0 ∧ nI t0 ≤ 3) (ht0 : t0 ≤ 3) : Met l yX9_mark wsX9_mark ({ frames := 1, cells := 0, slots := 0, locals := 70 }) (va_Pc [.ref y, .int (nI t0), .int q2] (kz_Pre D k [(y, kO 9 [.int y_thrown, .int y_taped, y_tape, .int y_size, .int y_place, .int y_begin, .int y_token, .long y_word, .int y_told, .int y_wrong, y_supper, y_guestName, y_kind, y_offTold, y_pace, y_cooks, y_snow, y_lineFrom, y_lineTo, y_codes, .int y_code, .int y_toldLines, y_opened, y_compared, y_kept, y_keptBy, y_ahead, y_against, y_sum, y_sumBy, y_term, y_termBy, y_byNot, y_valueOf, .int y_given, .ref b_lines, .ref b_lineWhat, .ref b_lineA, .ref b_lineB, .ref b_seens, .ref b_seenIn, .ref b_seenYards, .ref b_seenNear, .ref b_s, y_aside, y_before, .ref b_marked, y_undone, .ref b_isLaid, .int y_done, .int y_snowNow, .int y_cameNow, .int y_cookThen, .int y_tasteThen, y_places, y_comesAt, y_yardsIn, .long y_g]), (b_lines, kI k 6 c_lines), (b_lineWhat, kI k 240 c_lineWhat), (b_lineA, kI k 240 c_lineA), (b_lineB, kI k 240 c_lineB), (b_seens, kI k 5 c_seens), (b_seenIn, kI k 40 c_seenIn), (b_seenYards, kI k 40 c_seenYards), (b_seenNear, kZ k 40 c_seenNear), (b_isLaid, kZ k 4 (fun _ => 0)), (b_s, kI k 46 c_s), (b_marked, kI k 184 c_marked)] sz)) (va_Qi (fun (rr : Int32) (uu : Unit) => rr = bz (q2 = 0)) (fun uu zt => kz_B D (va_A [(y, kO 9 [.int y_thrown, .int y_taped, y_tape, .int y_size, .int y_place, .int y_begin, .int y_token, .long y_word, .int y_told, .int y_wrong, y_supper, y_guestName, y_kind, y_offTold, y_pace, y_cooks, y_snow, y_lineFrom, y_lineTo, y_codes, .int y_code, .int y_toldLines, y_opened, y_compared, y_kept, y_keptBy, y_ahead, y_against, y_sum, y_sumBy, y_term, y_termBy, y_byNot, y_valueOf, .int y_given, .ref b_lines, .ref b_lineWhat, .ref b_lineA, .ref b_lineB, .ref b_seens, .ref b_seenIn, .ref b_seenYards, .ref b_seenNear, .ref b_s, y_aside, y_before, .ref b_marked, y_undone, .ref b_isLaid, .int y_done, .int y_snowNow, .int y_cameNow, .int y_cookThen, .int y_tasteThen, y_places, y_comesAt, y_yardsIn, .long y_g]), (b_lines, kI k 6 c_lines), (b_lineWhat, kI k 240 c_lineWhat), (b_lineA, kI k 240 c_lineA), (b_lineB, kI k 240 c_lineB), (b_seens, kI k 5 c_seens), (b_seenIn, kI k 40 c_seenIn), (b_seenYards, kI k 40 c_seenYards), (b_seenNear, kZ k 40 c_seenNear), (b_isLaid, kZ k 4 (fun _ => 0)), (b_s, kI k 46 c_s), (b_marked, kI k 184 c_marked)] sz) [] zt) (va_A [(y, kO 9 [.int y_thrown, .int y_taped, y_tape, .int y_size, .int y_place, .int y_begin, .int y_token, .long y_word, .int y_told, .int y_wrong, y_supper, y_guestName, y_kind, y_offTold, y_pace, y_cooks, y_snow, y_lineFrom, y_lineTo, y_codes, .int y_code, .int y_toldLines, y_opened, y_compared, y_kept, y_keptBy, y_ahead, y_against, y_sum, y_sumBy, y_term, y_termBy, y_byNot, y_valueOf, .int y_given, .ref b_lines, .ref b_lineWhat, .ref b_lineA, .ref b_lineB, .ref b_seens, .ref b_seenIn, .ref b_seenYards, .ref b_seenNear, .ref b_s, y_aside, y_before, .ref b_marked, y_undone, .ref b_isLaid, .int y_done, .int y_snowNow, .int y_cameNow, .int y_cookThen, .int y_tasteThen, y_places, y_comesAt, y_yardsIn, .long y_g]), (b_lines, kI k 6 c_lines), (b_lineWhat, kI k 240 c_lineWhat), (b_lineA, kI k 240 c_lineA), (b_lineB, kI k 240 c_lineB), (b_seens, kI k 5 c_seens), (b_seenIn, kI k 40 c_seenIn), (b_seenYards, kI k 40 c_seenYards), (b_seenNear, kZ k 40 c_seenNear), (b_isLaid, kZ k 4 (fun _ => 0)), (b_s, kI k 46 c_s), (b_marked, kI k 184 c_marked)] sz)) 0 0 (va_A [(y, kO 9 [.int y_thrown, .int y_taped, y_tape, .int y_size, .int y_place, .int y_begin, .int y_token, .long y_word, .int y_told, .int y_wrong, y_supper, y_guestName, y_kind, y_offTold, y_pace, y_cooks, y_snow, y_lineFrom, y_lineTo, y_codes, .int y_code, .int y_toldLines, y_opened, y_compared, y_kept, y_keptBy, y_ahead, y_against, y_sum, y_sumBy, y_term, y_termBy, y_byNot, y_valueOf, .int y_given, .ref b_lines, .ref b_lineWhat, .ref b_lineA, .ref b_lineB, .ref b_seens, .ref b_seenIn, .ref b_seenYards, .ref b_seenNear, .ref b_s, y_aside, y_before, .ref b_marked, y_undone, .ref b_isLaid, .int y_done, .int y_snowNow, .int y_cameNow, .int y_cookThen, .int y_tasteThen, y_places, y_comesAt, y_yardsIn, .long y_g]), (b_lines, kI k 6 c_lines), (b_lineWhat, kI k 240 c_lineWhat), (b_lineA, kI k 240 c_lineA), (b_lineB, kI k 240 c_lineB), (b_seens, kI k 5 c_seens), (b_seenIn, kI k 40 c_seenIn), (b_seenYards, kI k 40 c_seenYards), (b_seenNear, kZ k 40 c_seenNear), (b_isLaid, kZ k 4 (fun _ => 0)), (b_s, kI k 46 c_s), (b_marked, kI k 184 c_marked)] sz) := by
  refine Met.ofW (cc := cX9_mark) (maxL := 5) (ret := (some .boolean)) (by decide) rfl ?_
  intro p e s m args below meth c s₁ B hml hv
  obtain ⟨hav, hsz, hP, hK, hD0, hE⟩ := hv
  have hx := B.exec
  have hb := B.bytes
  have hr := B.returns
  have hts := atoms_spec (ws := wsX9_mark) B.pre
  have hown : s.vm.findClass RX9 = some m.cls := findClass_of_methodNamed B.named
  have hlocks := B.notSynchronized
  have hi9 : ∀ w ∈ u_ws RX9 TX9 58, w ∈ wsX9_mark := by decide +kernel
  have lf143 := hts (.fieldLink RX9 143 "LastCookModel" "thrown" "I") (by decide +kernel)
  have lf120 := hts (.fieldLink RX9 120 "LastCookModel" "isLaid" "[Z") (by decide +kernel)
  have lf105 := hts (.fieldLink RX9 105 "LastCookModel" "s" "[I") (by decide +kernel)
  have lf114 := hts (.fieldLink RX9 114 "LastCookModel" "marked" "[I") (by decide +kernel)
  subst hsz
  have hD := hD0.self (sz := s.heap.size)
  generalize hAe : va_A [(y, kO 9 [.int y_thrown, .int y_taped, y_tape, .int y_size, .int y_place, .int y_begin, .int y_token, .long y_word, .int y_told, .int y_wrong, y_supper, y_guestName, y_kind, y_offTold, y_pace, y_cooks, y_snow, y_lineFrom, y_lineTo, y_codes, .int y_code, .int y_toldLines, y_opened, y_compared, y_kept, y_keptBy, y_ahead, y_against, y_sum, y_sumBy, y_term, y_termBy, y_byNot, y_valueOf, .int y_given, .ref b_lines, .ref b_lineWhat, .ref b_lineA, .ref b_lineB, .ref b_seens, .ref b_seenIn, .ref b_seenYards, .ref b_seenNear, .ref b_s, y_aside, y_before, .ref b_marked, y_undone, .ref b_isLaid, .int y_done, .int y_snowNow, .int y_cameNow, .int y_cookThen, .int y_tasteThen, y_places, y_comesAt, y_yardsIn, .long y_g]), (b_lines, kI k 6 c_lines), (b_lineWhat, kI k 240 c_lineWhat), (b_lineA, kI k 240 c_lineA), (b_lineB, kI k 240 c_lineB), (b_seens, kI k 5 c_seens), (b_seenIn, kI k 40 c_seenIn), (b_seenYards, kI k 40 c_seenYards), (b_seenNear, kZ k 40 c_seenNear), (b_isLaid, kZ k 4 (fun _ => 0)), (b_s, kI k 46 c_s), (b_marked, kI k 184 c_marked)] s.heap.size = A at hD ⊢
  have hA : ∀ q : Nat, s.heap.size ≤ q → A q := fun q h => by rw [← hAe]; exact Or.inr h
  have hS : va_S A s.heap s.heap [] := va_S.rf
  have hl := lv_entry ([.ref y, .int (nI t0), .int q2]) (n := 5) (Nat.le_of_ble_eq_true rfl)
  rw [show entryFrame m args 5 = entryFrame m ([.ref y, .int (nI t0), .int q2] : List Value).toArray 5 by rw [hav], lg_entry_eq]
  generalize (lg_sl ([.ref y, .int (nI t0), .int q2]) ++ List.replicate (5 - (lg_sl ([.ref y, .int (nI t0), .int q2])).length) Slot.unset).toArray = ls at hl ⊢
  have hl : lv_has ls 5 [(0, .ref y), (1, .int (nI t0)), (2, .int q2)] := hl
  obtain ⟨R, hR⟩ : ∃ R, R = (headSpec wsX9_mark ({ frames := 1, cells := 0, slots := 0, locals := 70 } : Room)).room := ⟨_, rfl⟩
  rw [← hR]
  generalize hQ : MQ below _ args s 0 0 A = Q
  replace hQ := hQ.symm
  obtain ⟨H, hH⟩ : ∃ H, H = s.heap := ⟨_, rfl⟩
  rw [← hH] at hP ⊢
  have hS : va_S A s.heap H [] := by rw [hH]; exact hS
  refine lv_aload_n hx hb dX9_mark_0 rfl (lv_at hl 0 rfl) ?_
  refine lv_iconst (v := 0) hx hb dX9_mark_1 (by decide) ?_
  refine va_put (D := D) (ci := 9) (v := .int 0) (ty := .int) (C := RX9) (T := TX9) (N := 58) hx hb hts hi9 tyX9 tyX9_ok nmX9 hown hK hP hD hS 0 rfl rfl 0 (by decide) lf143 (fun _ h9 => h9) rfl (by decide +kernel) rfl rfl (Nat.le_of_ble_eq_true rfl) dX9_mark_2 (fun H locs hP hD hS => ?_)
  have hP : va_P D vwCl [(y, kO 9 [.int 0, .int y_taped, y_tape, .int y_size, .int y_place, .int y_begin, .int y_token, .long y_word, .int y_told, .int y_wrong, y_supper, y_guestName, y_kind, y_offTold, y_pace, y_cooks, y_snow, y_lineFrom, y_lineTo, y_codes, .int y_code, .int y_toldLines, y_opened, y_compared, y_kept, y_keptBy, y_ahead, y_against, y_sum, y_sumBy, y_term, y_termBy, y_byNot, y_valueOf, .int y_given, .ref b_lines, .ref b_lineWhat, .ref b_lineA, .ref b_lineB, .ref b_seens, .ref b_seenIn, .ref b_seenYards, .ref b_seenNear, .ref b_s, y_aside, y_before, .ref b_marked, y_undone, .ref b_isLaid, .int y_done, .int y_snowNow, .int y_cameNow, .int y_cookThen, .int y_tasteThen, y_places, y_comesAt, y_yardsIn, .long y_g]), (b_lines, kI k 6 c_lines), (b_lineWhat, kI k 240 c_lineWhat), (b_lineA, kI k 240 c_lineA), (b_lineB, kI k 240 c_lineB), (b_seens, kI k 5 c_seens), (b_seenIn, kI k 40 c_seenIn), (b_seenYards, kI k 40 c_seenYards), (b_seenNear, kZ k 40 c_seenNear), (b_isLaid, kZ k 4 (fun _ => 0)), (b_s, kI k 46 c_s), (b_marked, kI k 184 c_marked)] H := hP
  have hD : va_D A [(y, kO 9 [.int 0, .int y_taped, y_tape, .int y_size, .int y_place, .int y_begin, .int y_token, .long y_word, .int y_told, .int y_wrong, y_supper, y_guestName, y_kind, y_offTold, y_pace, y_cooks, y_snow, y_lineFrom, y_lineTo, y_codes, .int y_code, .int y_toldLines, y_opened, y_compared, y_kept, y_keptBy, y_ahead, y_against, y_sum, y_sumBy, y_term, y_termBy, y_byNot, y_valueOf, .int y_given, .ref b_lines, .ref b_lineWhat, .ref b_lineA, .ref b_lineB, .ref b_seens, .ref b_seenIn, .ref b_seenYards, .ref b_seenNear, .ref b_s, y_aside, y_before, .ref b_marked, y_undone, .ref b_isLaid, .int y_done, .int y_snowNow, .int y_cameNow, .int y_cookThen, .int y_tasteThen, y_places, y_comesAt, y_yardsIn, .long y_g]), (b_lines, kI k 6 c_lines), (b_lineWhat, kI k 240 c_lineWhat), (b_lineA, kI k 240 c_lineA), (b_lineB, kI k 240 c_lineB), (b_seens, kI k 5 c_seens), (b_seenIn, kI k 40 c_seenIn), (b_seenYards, kI k 40 c_seenYards), (b_seenNear, kZ k 40 c_seenNear), (b_isLaid, kZ k 4 (fun _ => 0)), (b_s, kI k 46 c_s), (b_marked, kI k 184 c_marked)] := hD
  refine lv_iload_n hx hb dX9_mark_5 rfl (lv_at hl 1 rfl) ?_
  refine lv_iconst (v := 0) hx hb dX9_mark_6 (by decide) ?_
  refine lv_iconst (v := 3) hx hb dX9_mark_7 (by decide) ?_
  refine kz_Si (As := [.int (nI t0), .int 0, .int 3]) (rest := []) (wc := []) (wr := [(y, kO 9 [.int 0, .int y_taped, y_tape, .int y_size, .int y_place, .int y_begin, .int y_token, .long y_word, .int y_told, .int y_wrong, y_supper, y_guestName, y_kind, y_offTold, y_pace, y_cooks, y_snow, y_lineFrom, y_lineTo, y_codes, .int y_code, .int y_toldLines, y_opened, y_compared, y_kept, y_keptBy, y_ahead, y_against, y_sum, y_sumBy, y_term, y_termBy, y_byNot, y_valueOf, .int y_given, .ref b_lines, .ref b_lineWhat, .ref b_lineA, .ref b_lineB, .ref b_seens, .ref b_seenIn, .ref b_seenYards, .ref b_seenNear, .ref b_s, y_aside, y_before, .ref b_marked, y_undone, .ref b_isLaid, .int y_done, .int y_snowNow, .int y_cameNow, .int y_cookThen, .int y_tasteThen, y_places, y_comesAt, y_yardsIn, .long y_g]), (b_lines, kI k 6 c_lines), (b_lineWhat, kI k 240 c_lineWhat), (b_lineA, kI k 240 c_lineA), (b_lineB, kI k 240 c_lineB), (b_seens, kI k 5 c_seens), (b_seenIn, kI k 40 c_seenIn), (b_seenYards, kI k 40 c_seenYards), (b_seenNear, kZ k 40 c_seenNear), (b_isLaid, kZ k 4 (fun _ => 0)), (b_s, kI k 46 c_s), (b_marked, kI k 184 c_marked)]) ⟨hx, hb, hml, hown, hts⟩ hK hE hP hD hS hA (mX9_within l D k H.size (nI t0) 0 3) (va_cwS 3 hts gX9_mark_X9_within rfl rfl rfl (by decide +kernel) (by rw [hR]; exact ⟨Nat.le_of_ble_eq_true rfl, Nat.le_of_ble_eq_true rfl⟩)) [] [0, 1, 2, 3, 4, 5, 6, 7, 8, 9, 10, 11] rfl rfl (by decide) (by decide) (by decide) rfl hl.1 rfl (Nat.le_of_ble_eq_true rfl) dX9_mark_8 (by rw [hR]; exact ⟨Nat.le_of_ble_eq_true rfl, Nat.le_of_ble_eq_true rfl⟩) (fun r1 u1 H locs hw1 hP hD hS => ?_)
  try dsimp only at hw1
  obtain rfl : r1 = bz (0 ≤ (nI t0) ∧ (nI t0) ≤ 3) := hw1
  have hP : va_P D vwCl [(y, kO 9 [.int 0, .int y_taped, y_tape, .int y_size, .int y_place, .int y_begin, .int y_token, .long y_word, .int y_told, .int y_wrong, y_supper, y_guestName, y_kind, y_offTold, y_pace, y_cooks, y_snow, y_lineFrom, y_lineTo, y_codes, .int y_code, .int y_toldLines, y_opened, y_compared, y_kept, y_keptBy, y_ahead, y_against, y_sum, y_sumBy, y_term, y_termBy, y_byNot, y_valueOf, .int y_given, .ref b_lines, .ref b_lineWhat, .ref b_lineA, .ref b_lineB, .ref b_seens, .ref b_seenIn, .ref b_seenYards, .ref b_seenNear, .ref b_s, y_aside, y_before, .ref b_marked, y_undone, .ref b_isLaid, .int y_done, .int y_snowNow, .int y_cameNow, .int y_cookThen, .int y_tasteThen, y_places, y_comesAt, y_yardsIn, .long y_g]), (b_lines, kI k 6 c_lines), (b_lineWhat, kI k 240 c_lineWhat), (b_lineA, kI k 240 c_lineA), (b_lineB, kI k 240 c_lineB), (b_seens, kI k 5 c_seens), (b_seenIn, kI k 40 c_seenIn), (b_seenYards, kI k 40 c_seenYards), (b_seenNear, kZ k 40 c_seenNear), (b_isLaid, kZ k 4 (fun _ => 0)), (b_s, kI k 46 c_s), (b_marked, kI k 184 c_marked)] H := hP
  have hD : va_D A [(y, kO 9 [.int 0, .int y_taped, y_tape, .int y_size, .int y_place, .int y_begin, .int y_token, .long y_word, .int y_told, .int y_wrong, y_supper, y_guestName, y_kind, y_offTold, y_pace, y_cooks, y_snow, y_lineFrom, y_lineTo, y_codes, .int y_code, .int y_toldLines, y_opened, y_compared, y_kept, y_keptBy, y_ahead, y_against, y_sum, y_sumBy, y_term, y_termBy, y_byNot, y_valueOf, .int y_given, .ref b_lines, .ref b_lineWhat, .ref b_lineA, .ref b_lineB, .ref b_seens, .ref b_seenIn, .ref b_seenYards, .ref b_seenNear, .ref b_s, y_aside, y_before, .ref b_marked, y_undone, .ref b_isLaid, .int y_done, .int y_snowNow, .int y_cameNow, .int y_cookThen, .int y_tasteThen, y_places, y_comesAt, y_yardsIn, .long y_g]), (b_lines, kI k 6 c_lines), (b_lineWhat, kI k 240 c_lineWhat), (b_lineA, kI k 240 c_lineA), (b_lineB, kI k 240 c_lineB), (b_seens, kI k 5 c_seens), (b_seenIn, kI k 40 c_seenIn), (b_seenYards, kI k 40 c_seenYards), (b_seenNear, kZ k 40 c_seenNear), (b_isLaid, kZ k 4 (fun _ => 0)), (b_s, kI k 46 c_s), (b_marked, kI k 184 c_marked)] := hD
  refine lv_if_eq (tgt := 27) hx hb dX9_mark_11 (by decide) (fun c_2 => absurd c_2 (by rw [bz_t hq]; decide)) (fun c_2 => ?_)
  refine lv_iload_n hx hb dX9_mark_14 rfl (lv_at hl 2 rfl) ?_
  refine lv_if_eq (tgt := 29) hx hb dX9_mark_15 (by decide) (fun c_3 => ?_) (fun c_3 => ?_)
  · skip
    refine lv_aload_n hx hb dX9_mark_29 rfl (lv_at hl 0 rfl) ?_
    refine va_get (D := D) (ci := 9) (v := .ref b_isLaid) (C := RX9) (T := TX9) (N := 58) hx hb hts hi9 hown hK hP 0 rfl rfl 48 (by decide) lf120 (fun _ h9 => h9) rfl dX9_mark_30 ?_
    refine lv_iload_n hx hb dX9_mark_33 rfl (lv_at hl 1 rfl) ?_
    refine lv_iconst (v := 1) hx hb dX9_mark_34 (by decide) ?_
    refine va_zast hx hb hK hP hD hS 9 3 rfl rfl (vp_in_nI (n := t0) (by omega) (by omega)) dX9_mark_35 (fun H locs hP hD hS => ?_)
    have hP : va_P D vwCl [(y, kO 9 [.int 0, .int y_taped, y_tape, .int y_size, .int y_place, .int y_begin, .int y_token, .long y_word, .int y_told, .int y_wrong, y_supper, y_guestName, y_kind, y_offTold, y_pace, y_cooks, y_snow, y_lineFrom, y_lineTo, y_codes, .int y_code, .int y_toldLines, y_opened, y_compared, y_kept, y_keptBy, y_ahead, y_against, y_sum, y_sumBy, y_term, y_termBy, y_byNot, y_valueOf, .int y_given, .ref b_lines, .ref b_lineWhat, .ref b_lineA, .ref b_lineB, .ref b_seens, .ref b_seenIn, .ref b_seenYards, .ref b_seenNear, .ref b_s, y_aside, y_before, .ref b_marked, y_undone, .ref b_isLaid, .int y_done, .int y_snowNow, .int y_cameNow, .int y_cookThen, .int y_tasteThen, y_places, y_comesAt, y_yardsIn, .long y_g]), (b_lines, kI k 6 c_lines), (b_lineWhat, kI k 240 c_lineWhat), (b_lineA, kI k 240 c_lineA), (b_lineB, kI k 240 c_lineB), (b_seens, kI k 5 c_seens), (b_seenIn, kI k 40 c_seenIn), (b_seenYards, kI k 40 c_seenYards), (b_seenNear, kZ k 40 c_seenNear), (b_isLaid, kZ k 4 (upd (fun _ => 0) (Int32.toNatClampNeg (nI t0)) (vp_nar .boolean 1))), (b_s, kI k 46 c_s), (b_marked, kI k 184 c_marked)] H := hP
    have hD : va_D A [(y, kO 9 [.int 0, .int y_taped, y_tape, .int y_size, .int y_place, .int y_begin, .int y_token, .long y_word, .int y_told, .int y_wrong, y_supper, y_guestName, y_kind, y_offTold, y_pace, y_cooks, y_snow, y_lineFrom, y_lineTo, y_codes, .int y_code, .int y_toldLines, y_opened, y_compared, y_kept, y_keptBy, y_ahead, y_against, y_sum, y_sumBy, y_term, y_termBy, y_byNot, y_valueOf, .int y_given, .ref b_lines, .ref b_lineWhat, .ref b_lineA, .ref b_lineB, .ref b_seens, .ref b_seenIn, .ref b_seenYards, .ref b_seenNear, .ref b_s, y_aside, y_before, .ref b_marked, y_undone, .ref b_isLaid, .int y_done, .int y_snowNow, .int y_cameNow, .int y_cookThen, .int y_tasteThen, y_places, y_comesAt, y_yardsIn, .long y_g]), (b_lines, kI k 6 c_lines), (b_lineWhat, kI k 240 c_lineWhat), (b_lineA, kI k 240 c_lineA), (b_lineB, kI k 240 c_lineB), (b_seens, kI k 5 c_seens), (b_seenIn, kI k 40 c_seenIn), (b_seenYards, kI k 40 c_seenYards), (b_seenNear, kZ k 40 c_seenNear), (b_isLaid, kZ k 4 (upd (fun _ => 0) (Int32.toNatClampNeg (nI t0)) (vp_nar .boolean 1))), (b_s, kI k 46 c_s), (b_marked, kI k 184 c_marked)] := hD
    refine lv_iload_n hx hb dX9_mark_36 rfl (lv_at hl 2 rfl) ?_
    refine lv_if_eq (tgt := 46) hx hb dX9_mark_37 (by decide) (fun c_4 => ?_) (fun c_4 => absurd c_3 c_4)
    refine lv_iconst (v := 0) hx hb dX9_mark_46 (by decide) ?_
    refine lv_istore_n (lv' := [(3, .int 0), (0, .ref y), (1, .int (nI t0)), (2, .int q2)]) hx hb dX9_mark_47 rfl hl (by decide) rfl (fun ls hl => ?_)
    refine lv_iload_n hx hb dX9_mark_48 rfl (lv_at hl 3 rfl) ?_
    refine lv_if_eq (tgt := 56) hx hb dX9_mark_49 (by decide) (fun c_5 => ?_) (fun c_5 => absurd c_3 c_5)
    refine lv_iconst (v := 1) hx hb dX9_mark_56 (by decide) ?_
    refine lv_iload_n hx hb dX9_mark_57 rfl (lv_at hl 2 rfl) ?_
    refine lv_iadd hx hb dX9_mark_58 ?_
    refine lv_topi (fun x6 ex6 => ?_)
    obtain rfl : x6 = (nI (1 + t0)) := ex6.trans (nI_add 1 t0)
    refine lv_istore (lv' := [(4, .int (nI (1 + t0))), (3, .int 0), (0, .ref y), (1, .int (nI t0)), (2, .int q2)]) hx hb dX9_mark_59 hl (by decide) rfl (fun ls hl => ?_)
    refine lv_aload_n hx hb dX9_mark_61 rfl (lv_at hl 2 rfl) ?_
    refine lv_iload_n hx hb dX9_mark_62 rfl (lv_at hl 1 rfl) ?_
    refine lv_iload hx hb dX9_mark_63 (lv_at hl 0 rfl) ?_
    refine kz_Vv (As := [.int 0, .int (nI (1 + t0))]) (rest := []) (wc := [(y, kO 9 [.int 0, .int y_taped, y_tape, .int y_size, .int y_place, .int y_begin, .int y_token, .long y_word, .int y_told, .int y_wrong, y_supper, y_guestName, y_kind, y_offTold, y_pace, y_cooks, y_snow, y_lineFrom, y_lineTo, y_codes, .int y_code, .int y_toldLines, y_opened, y_compared, y_kept, y_keptBy, y_ahead, y_against, y_sum, y_sumBy, y_term, y_termBy, y_byNot, y_valueOf, .int y_given, .ref b_lines, .ref b_lineWhat, .ref b_lineA, .ref b_lineB, .ref b_seens, .ref b_seenIn, .ref b_seenYards, .ref b_seenNear, .ref b_s, y_aside, y_before, .ref b_marked, y_undone, .ref b_isLaid, .int y_done, .int y_snowNow, .int y_cameNow, .int y_cookThen, .int y_tasteThen, y_places, y_comesAt, y_yardsIn, .long y_g]), (b_lines, kI k 6 c_lines), (b_lineWhat, kI k 240 c_lineWhat), (b_lineA, kI k 240 c_lineA), (b_lineB, kI k 240 c_lineB)]) (wr := [(b_seens, kI k 5 c_seens), (b_seenIn, kI k 40 c_seenIn), (b_seenYards, kI k 40 c_seenYards), (b_seenNear, kZ k 40 c_seenNear), (b_isLaid, kZ k 4 (upd (fun _ => 0) (Int32.toNatClampNeg (nI t0)) (vp_nar .boolean 1))), (b_s, kI k 46 c_s), (b_marked, kI k 184 c_marked)]) ⟨hx, hb, hml, hown, hts⟩ hK hE hP hD hS hA (mX9_laysLines l D k H.size y 0 (1 + t0) 0 y_taped y_tape y_size y_place y_begin y_token y_word y_told y_wrong y_supper y_guestName y_kind y_offTold y_pace y_cooks y_snow y_lineFrom y_lineTo y_codes y_code y_toldLines y_opened y_compared y_kept y_keptBy y_ahead y_against y_sum y_sumBy y_term y_termBy y_byNot y_valueOf y_given b_lines b_lineWhat b_lineA b_lineB (.ref b_seens) (.ref b_seenIn) (.ref b_seenYards) (.ref b_seenNear) (.ref b_s) y_aside y_before (.ref b_marked) y_undone (.ref b_isLaid) y_done y_snowNow y_cameNow y_cookThen y_tasteThen y_places y_comesAt y_yardsIn y_g c_lines c_lineWhat c_lineA c_lineB (by first | decide | omega) (by first | decide | omega)) (cwV 2 hts gX9_mark_X9_laysLines rfl rfl rfl (by decide +kernel) (by rw [hR]; exact ⟨Nat.le_of_ble_eq_true rfl, Nat.le_of_ble_eq_true rfl⟩)) [0, 1, 2, 3, 4] [5, 6, 7, 8, 9, 10, 11] rfl rfl (by decide) (by decide) (by decide) 0 rfl rfl rfl hl.1 rfl (Nat.le_of_ble_eq_true rfl) dX9_mark_65 (by rw [hR]; exact ⟨Nat.le_of_ble_eq_true rfl, Nat.le_of_ble_eq_true rfl⟩) (fun u7 H locs hw7 hP hD hS => ?_)
    have hP : va_P D vwCl [(b_seens, kI k 5 c_seens), (b_seenIn, kI k 40 c_seenIn), (b_seenYards, kI k 40 c_seenYards), (b_seenNear, kZ k 40 c_seenNear), (b_isLaid, kZ k 4 (upd (fun _ => 0) (Int32.toNatClampNeg (nI t0)) (vp_nar .boolean 1))), (b_s, kI k 46 c_s), (b_marked, kI k 184 c_marked), (y, kO 9 [.int 0, .int y_taped, y_tape, .int y_size, .int y_place, .int y_begin, .int y_token, .long y_word, .int y_told, .int y_wrong, y_supper, y_guestName, y_kind, y_offTold, y_pace, y_cooks, y_snow, y_lineFrom, y_lineTo, y_codes, .int y_code, .int y_toldLines, y_opened, y_compared, y_kept, y_keptBy, y_ahead, y_against, y_sum, y_sumBy, y_term, y_termBy, y_byNot, y_valueOf, .int y_given, .ref b_lines, .ref b_lineWhat, .ref b_lineA, .ref b_lineB, .ref b_seens, .ref b_seenIn, .ref b_seenYards, .ref b_seenNear, .ref b_s, y_aside, y_before, .ref b_marked, y_undone, .ref b_isLaid, .int y_done, .int y_snowNow, .int y_cameNow, .int y_cookThen, .int y_tasteThen, y_places, y_comesAt, y_yardsIn, .long y_g])] H := hP
    have hD : va_D A [(b_seens, kI k 5 c_seens), (b_seenIn, kI k 40 c_seenIn), (b_seenYards, kI k 40 c_seenYards), (b_seenNear, kZ k 40 c_seenNear), (b_isLaid, kZ k 4 (upd (fun _ => 0) (Int32.toNatClampNeg (nI t0)) (vp_nar .boolean 1))), (b_s, kI k 46 c_s), (b_marked, kI k 184 c_marked), (y, kO 9 [.int 0, .int y_taped, y_tape, .int y_size, .int y_place, .int y_begin, .int y_token, .long y_word, .int y_told, .int y_wrong, y_supper, y_guestName, y_kind, y_offTold, y_pace, y_cooks, y_snow, y_lineFrom, y_lineTo, y_codes, .int y_code, .int y_toldLines, y_opened, y_compared, y_kept, y_keptBy, y_ahead, y_against, y_sum, y_sumBy, y_term, y_termBy, y_byNot, y_valueOf, .int y_given, .ref b_lines, .ref b_lineWhat, .ref b_lineA, .ref b_lineB, .ref b_seens, .ref b_seenIn, .ref b_seenYards, .ref b_seenNear, .ref b_s, y_aside, y_before, .ref b_marked, y_undone, .ref b_isLaid, .int y_done, .int y_snowNow, .int y_cameNow, .int y_cookThen, .int y_tasteThen, y_places, y_comesAt, y_yardsIn, .long y_g])] := hD
    refine lv_aload_n hx hb dX9_mark_68 rfl (lv_at hl 2 rfl) ?_
    refine lv_iload_n hx hb dX9_mark_69 rfl (lv_at hl 1 rfl) ?_
    refine lv_iload hx hb dX9_mark_70 (lv_at hl 0 rfl) ?_
    refine kz_Vv (As := [.int 0, .int (nI (1 + t0))]) (rest := []) (wc := [(y, kO 9 [.int 0, .int y_taped, y_tape, .int y_size, .int y_place, .int y_begin, .int y_token, .long y_word, .int y_told, .int y_wrong, y_supper, y_guestName, y_kind, y_offTold, y_pace, y_cooks, y_snow, y_lineFrom, y_lineTo, y_codes, .int y_code, .int y_toldLines, y_opened, y_compared, y_kept, y_keptBy, y_ahead, y_against, y_sum, y_sumBy, y_term, y_termBy, y_byNot, y_valueOf, .int y_given, .ref b_lines, .ref b_lineWhat, .ref b_lineA, .ref b_lineB, .ref b_seens, .ref b_seenIn, .ref b_seenYards, .ref b_seenNear, .ref b_s, y_aside, y_before, .ref b_marked, y_undone, .ref b_isLaid, .int y_done, .int y_snowNow, .int y_cameNow, .int y_cookThen, .int y_tasteThen, y_places, y_comesAt, y_yardsIn, .long y_g]), (b_seens, kI k 5 c_seens), (b_seenIn, kI k 40 c_seenIn), (b_seenYards, kI k 40 c_seenYards), (b_seenNear, kZ k 40 c_seenNear)]) (wr := [(b_isLaid, kZ k 4 (upd (fun _ => 0) (Int32.toNatClampNeg (nI t0)) (vp_nar .boolean 1))), (b_s, kI k 46 c_s), (b_marked, kI k 184 c_marked)]) ⟨hx, hb, hml, hown, hts⟩ hK hE hP hD hS hA (mX9_laysSeen l D k H.size y 0 (1 + t0) 0 y_taped y_tape y_size y_place y_begin y_token y_word y_told y_wrong y_supper y_guestName y_kind y_offTold y_pace y_cooks y_snow y_lineFrom y_lineTo y_codes y_code y_toldLines y_opened y_compared y_kept y_keptBy y_ahead y_against y_sum y_sumBy y_term y_termBy y_byNot y_valueOf y_given (.ref b_lines) (.ref b_lineWhat) (.ref b_lineA) (.ref b_lineB) b_seens b_seenIn b_seenYards b_seenNear (.ref b_s) y_aside y_before (.ref b_marked) y_undone (.ref b_isLaid) y_done y_snowNow y_cameNow y_cookThen y_tasteThen y_places y_comesAt y_yardsIn y_g c_seens c_seenIn c_seenYards c_seenNear (by first | decide | omega) (by first | decide | omega)) (cwV 2 hts gX9_mark_X9_laysSeen rfl rfl rfl (by decide +kernel) (by rw [hR]; exact ⟨Nat.le_of_ble_eq_true rfl, Nat.le_of_ble_eq_true rfl⟩)) [7, 0, 1, 2, 3] [4, 5, 6] rfl rfl (by decide) (by decide) (by decide) 0 rfl rfl rfl hl.1 rfl (Nat.le_of_ble_eq_true rfl) dX9_mark_72 (by rw [hR]; exact ⟨Nat.le_of_ble_eq_true rfl, Nat.le_of_ble_eq_true rfl⟩) (fun u8 H locs hw8 hP hD hS => ?_)
    have hP : va_P D vwCl [(b_isLaid, kZ k 4 (upd (fun _ => 0) (Int32.toNatClampNeg (nI t0)) (vp_nar .boolean 1))), (b_s, kI k 46 c_s), (b_marked, kI k 184 c_marked), (y, kO 9 [.int 0, .int y_taped, y_tape, .int y_size, .int y_place, .int y_begin, .int y_token, .long y_word, .int y_told, .int y_wrong, y_supper, y_guestName, y_kind, y_offTold, y_pace, y_cooks, y_snow, y_lineFrom, y_lineTo, y_codes, .int y_code, .int y_toldLines, y_opened, y_compared, y_kept, y_keptBy, y_ahead, y_against, y_sum, y_sumBy, y_term, y_termBy, y_byNot, y_valueOf, .int y_given, .ref b_lines, .ref b_lineWhat, .ref b_lineA, .ref b_lineB, .ref b_seens, .ref b_seenIn, .ref b_seenYards, .ref b_seenNear, .ref b_s, y_aside, y_before, .ref b_marked, y_undone, .ref b_isLaid, .int y_done, .int y_snowNow, .int y_cameNow, .int y_cookThen, .int y_tasteThen, y_places, y_comesAt, y_yardsIn, .long y_g])] H := hP
    have hD : va_D A [(b_isLaid, kZ k 4 (upd (fun _ => 0) (Int32.toNatClampNeg (nI t0)) (vp_nar .boolean 1))), (b_s, kI k 46 c_s), (b_marked, kI k 184 c_marked), (y, kO 9 [.int 0, .int y_taped, y_tape, .int y_size, .int y_place, .int y_begin, .int y_token, .long y_word, .int y_told, .int y_wrong, y_supper, y_guestName, y_kind, y_offTold, y_pace, y_cooks, y_snow, y_lineFrom, y_lineTo, y_codes, .int y_code, .int y_toldLines, y_opened, y_compared, y_kept, y_keptBy, y_ahead, y_against, y_sum, y_sumBy, y_term, y_termBy, y_byNot, y_valueOf, .int y_given, .ref b_lines, .ref b_lineWhat, .ref b_lineA, .ref b_lineB, .ref b_seens, .ref b_seenIn, .ref b_seenYards, .ref b_seenNear, .ref b_s, y_aside, y_before, .ref b_marked, y_undone, .ref b_isLaid, .int y_done, .int y_snowNow, .int y_cameNow, .int y_cookThen, .int y_tasteThen, y_places, y_comesAt, y_yardsIn, .long y_g])] := hD
    refine lv_iload_n hx hb dX9_mark_75 rfl (lv_at hl 4 rfl) ?_
    refine lv_if_eq (tgt := 103) hx hb dX9_mark_76 (by decide) (fun c_9 => ?_) (fun c_9 => absurd c_3 c_9)
    refine lv_aload_n hx hb dX9_mark_103 rfl (lv_at hl 2 rfl) ?_
    refine va_get (D := D) (ci := 9) (v := .ref b_s) (C := RX9) (T := TX9) (N := 58) hx hb hts hi9 hown hK hP 3 rfl rfl 43 (by decide) lf105 (fun _ h9 => h9) rfl dX9_mark_104 ?_
    refine lv_iconst (v := 0) hx hb dX9_mark_107 (by decide) ?_
    refine lv_aload_n hx hb dX9_mark_108 rfl (lv_at hl 2 rfl) ?_
    refine va_get (D := D) (ci := 9) (v := .ref b_marked) (C := RX9) (T := TX9) (N := 58) hx hb hts hi9 hown hK hP 3 rfl rfl 46 (by decide) lf114 (fun _ h9 => h9) rfl dX9_mark_109 ?_
    refine lv_bipush (v := 46) hx hb dX9_mark_112 (by decide) ?_
    refine lv_iload_n hx hb dX9_mark_114 rfl (lv_at hl 3 rfl) ?_
    refine lv_imul hx hb dX9_mark_115 ?_
    refine lv_topi (fun x10 ex10 => ?_)
    obtain rfl : x10 = (nI (46 * t0)) := ex10.trans (pk_mul 46 t0)
    refine kz_Sv (As := [.ref b_s, .int 0, .ref b_marked, .int (nI (46 * t0))]) (rest := []) (wc := [(b_s, kI k 46 c_s), (b_marked, kI k 184 c_marked)]) (wr := [(b_isLaid, kZ k 4 (upd (fun _ => 0) (Int32.toNatClampNeg (nI t0)) (vp_nar .boolean 1))), (y, kO 9 [.int 0, .int y_taped, y_tape, .int y_size, .int y_place, .int y_begin, .int y_token, .long y_word, .int y_told, .int y_wrong, y_supper, y_guestName, y_kind, y_offTold, y_pace, y_cooks, y_snow, y_lineFrom, y_lineTo, y_codes, .int y_code, .int y_toldLines, y_opened, y_compared, y_kept, y_keptBy, y_ahead, y_against, y_sum, y_sumBy, y_term, y_termBy, y_byNot, y_valueOf, .int y_given, .ref b_lines, .ref b_lineWhat, .ref b_lineA, .ref b_lineB, .ref b_seens, .ref b_seenIn, .ref b_seenYards, .ref b_seenNear, .ref b_s, y_aside, y_before, .ref b_marked, y_undone, .ref b_isLaid, .int y_done, .int y_snowNow, .int y_cameNow, .int y_cookThen, .int y_tasteThen, y_places, y_comesAt, y_yardsIn, .long y_g])]) ⟨hx, hb, hml, hown, hts⟩ hK hE hP hD hS hA (mX9_copies l D k H.size b_s b_marked 46 184 0 (46 * t0) c_s c_marked (by first | decide | omega) (by first | decide | omega) (by first | decide | omega) (by first | decide | omega)) (va_cwS 4 hts gX9_mark_X9_copies rfl rfl rfl (by decide +kernel) (by rw [hR]; exact ⟨Nat.le_of_ble_eq_true rfl, Nat.le_of_ble_eq_true rfl⟩)) [1, 2] [0, 3] rfl rfl (by decide) (by decide) (by decide) rfl hl.1 rfl (Nat.le_of_ble_eq_true rfl) dX9_mark_116 (by rw [hR]; exact ⟨Nat.le_of_ble_eq_true rfl, Nat.le_of_ble_eq_true rfl⟩) (fun u11 H locs hw11 hP hD hS => ?_)
    have hP : va_P D vwCl [(b_isLaid, kZ k 4 (upd (fun _ => 0) (Int32.toNatClampNeg (nI t0)) (vp_nar .boolean 1))), (y, kO 9 [.int 0, .int y_taped, y_tape, .int y_size, .int y_place, .int y_begin, .int y_token, .long y_word, .int y_told, .int y_wrong, y_supper, y_guestName, y_kind, y_offTold, y_pace, y_cooks, y_snow, y_lineFrom, y_lineTo, y_codes, .int y_code, .int y_toldLines, y_opened, y_compared, y_kept, y_keptBy, y_ahead, y_against, y_sum, y_sumBy, y_term, y_termBy, y_byNot, y_valueOf, .int y_given, .ref b_lines, .ref b_lineWhat, .ref b_lineA, .ref b_lineB, .ref b_seens, .ref b_seenIn, .ref b_seenYards, .ref b_seenNear, .ref b_s, y_aside, y_before, .ref b_marked, y_undone, .ref b_isLaid, .int y_done, .int y_snowNow, .int y_cameNow, .int y_cookThen, .int y_tasteThen, y_places, y_comesAt, y_yardsIn, .long y_g]), (b_s, kI k 46 c_s), (b_marked, kI k 184 (va_cpy c_s c_marked 0 (46 * t0) 46))] H := hP
    have hD : va_D A [(b_isLaid, kZ k 4 (upd (fun _ => 0) (Int32.toNatClampNeg (nI t0)) (vp_nar .boolean 1))), (y, kO 9 [.int 0, .int y_taped, y_tape, .int y_size, .int y_place, .int y_begin, .int y_token, .long y_word, .int y_told, .int y_wrong, y_supper, y_guestName, y_kind, y_offTold, y_pace, y_cooks, y_snow, y_lineFrom, y_lineTo, y_codes, .int y_code, .int y_toldLines, y_opened, y_compared, y_kept, y_keptBy, y_ahead, y_against, y_sum, y_sumBy, y_term, y_termBy, y_byNot, y_valueOf, .int y_given, .ref b_lines, .ref b_lineWhat, .ref b_lineA, .ref b_lineB, .ref b_seens, .ref b_seenIn, .ref b_seenYards, .ref b_seenNear, .ref b_s, y_aside, y_before, .ref b_marked, y_undone, .ref b_isLaid, .int y_done, .int y_snowNow, .int y_cameNow, .int y_cookThen, .int y_tasteThen, y_places, y_comesAt, y_yardsIn, .long y_g]), (b_s, kI k 46 c_s), (b_marked, kI k 184 (va_cpy c_s c_marked 0 (46 * t0) 46))] := hD
    refine lv_iconst (v := 1) hx hb dX9_mark_119 (by decide) ?_
    rw [hQ]
    have hP9 := hP.sub (ws' := []) [] rfl
    have hD9 := hD.sub (ws' := []) [] (by decide) rfl
    exact W.zret (v := 1) hx hb hr rfl (fun zt ht hW => ⟨⟨1, (), rfl, (bz_t c_3).symm, by rw [ht]; exact hP9, hD9⟩, hS.F ht⟩) hS.2.2 dX9_mark_120
  · skip
    refine lv_aload_n hx hb dX9_mark_18 rfl (lv_at hl 0 rfl) ?_
    refine va_get (D := D) (ci := 9) (v := .ref b_isLaid) (C := RX9) (T := TX9) (N := 58) hx hb hts hi9 hown hK hP 0 rfl rfl 48 (by decide) lf120 (fun _ h9 => h9) rfl dX9_mark_19 ?_
    refine lv_iload_n hx hb dX9_mark_22 rfl (lv_at hl 1 rfl) ?_
    refine va_zald hx hb hK hP 9 3 rfl rfl (vp_in_nI (n := t0) (by omega) (by omega)) dX9_mark_23 ?_
    refine lv_topi (fun x12 ex12 => ?_)
    obtain rfl : x12 = 0 := ex12
    refine lv_if_ne (tgt := 29) hx hb dX9_mark_24 (by decide) (fun c_13 => absurd (by decide) c_13) (fun c_13 => ?_)
    refine lv_iconst (v := 0) hx hb dX9_mark_27 (by decide) ?_
    rw [hQ]
    have hP9 := hP.sub (ws' := []) [] rfl
    have hD9 := hD.sub (ws' := []) [] (by decide) rfl
    exact W.zret (v := 0) hx hb hr rfl (fun zt ht hW => ⟨⟨0, (), rfl, (bz_f c_3).symm, by rw [ht]; exact hP9, hD9⟩, hS.F ht⟩) hS.2.2 dX9_mark_28
set_option maxHeartbeats 4000000 in
set_option maxRecDepth 100000 in
theorem mX9_markOut (l : Launch) (D : va_G) (k : Nat → ClassId) (sz : Nat) (y : Nat) (q1 : Int32) (q2 : Int32) (y_thrown : Int32) (y_taped : Int32) (y_tape : Value) (y_size : Int32) (y_place : Int32) (y_begin : Int32) (y_token : Int32) (y_word : Int64) (y_told : Int32) (y_wrong : Int32) (y_supper : Value) (y_guestName : Value) (y_kind : Value) (y_offTold : Value) (y_pace : Value) (y_cooks : Value) (y_snow : Value) (y_lineFrom : Value) (y_lineTo : Value) (y_codes : Value) (y_code : Int32) (y_toldLines : Int32) (y_opened : Value) (y_compared : Value) (y_kept : Value) (y_keptBy : Value) (y_ahead : Value) (y_against : Value) (y_sum : Value) (y_sumBy : Value) (y_term : Value) (y_termBy : Value) (y_byNot : Value) (y_valueOf : Value) (y_given : Int32) (y_lines : Value) (y_lineWhat : Value) (y_lineA : Value) (y_lineB : Value) (y_seens : Value) (y_seenIn : Value) (y_seenYards : Value) (y_seenNear : Value) (y_s : Value) (y_aside : Value) (y_before : Value) (y_marked : Value) (y_undone : Value) (y_isLaid : Value) (y_done : Int32) (y_snowNow : Int32) (y_cameNow : Int32) (y_cookThen : Int32) (y_tasteThen : Int32) (y_places : Value) (y_comesAt : Value) (y_yardsIn : Value) (y_g : Int64) (hq : ¬ (0 ≤ q1 ∧ q1 ≤ 3)) : Met l yX9_mark wsX9_mark ({ frames := 1, cells := 0, slots := 0, locals := 70 }) (va_Pc [.ref y, .int q1, .int q2] (kz_Pre D k [(y, kO 9 [.int y_thrown, .int y_taped, y_tape, .int y_size, .int y_place, .int y_begin, .int y_token, .long y_word, .int y_told, .int y_wrong, y_supper, y_guestName, y_kind, y_offTold, y_pace, y_cooks, y_snow, y_lineFrom, y_lineTo, y_codes, .int y_code, .int y_toldLines, y_opened, y_compared, y_kept, y_keptBy, y_ahead, y_against, y_sum, y_sumBy, y_term, y_termBy, y_byNot, y_valueOf, .int y_given, y_lines, y_lineWhat, y_lineA, y_lineB, y_seens, y_seenIn, y_seenYards, y_seenNear, y_s, y_aside, y_before, y_marked, y_undone, y_isLaid, .int y_done, .int y_snowNow, .int y_cameNow, .int y_cookThen, .int y_tasteThen, y_places, y_comesAt, y_yardsIn, .long y_g])] sz)) (va_Qi (fun (rr : Int32) (uu : Unit) => rr = 0) (fun uu zt => kz_B D (va_A [(y, kO 9 [.int y_thrown, .int y_taped, y_tape, .int y_size, .int y_place, .int y_begin, .int y_token, .long y_word, .int y_told, .int y_wrong, y_supper, y_guestName, y_kind, y_offTold, y_pace, y_cooks, y_snow, y_lineFrom, y_lineTo, y_codes, .int y_code, .int y_toldLines, y_opened, y_compared, y_kept, y_keptBy, y_ahead, y_against, y_sum, y_sumBy, y_term, y_termBy, y_byNot, y_valueOf, .int y_given, y_lines, y_lineWhat, y_lineA, y_lineB, y_seens, y_seenIn, y_seenYards, y_seenNear, y_s, y_aside, y_before, y_marked, y_undone, y_isLaid, .int y_done, .int y_snowNow, .int y_cameNow, .int y_cookThen, .int y_tasteThen, y_places, y_comesAt, y_yardsIn, .long y_g])] sz) [] zt) (va_A [(y, kO 9 [.int y_thrown, .int y_taped, y_tape, .int y_size, .int y_place, .int y_begin, .int y_token, .long y_word, .int y_told, .int y_wrong, y_supper, y_guestName, y_kind, y_offTold, y_pace, y_cooks, y_snow, y_lineFrom, y_lineTo, y_codes, .int y_code, .int y_toldLines, y_opened, y_compared, y_kept, y_keptBy, y_ahead, y_against, y_sum, y_sumBy, y_term, y_termBy, y_byNot, y_valueOf, .int y_given, y_lines, y_lineWhat, y_lineA, y_lineB, y_seens, y_seenIn, y_seenYards, y_seenNear, y_s, y_aside, y_before, y_marked, y_undone, y_isLaid, .int y_done, .int y_snowNow, .int y_cameNow, .int y_cookThen, .int y_tasteThen, y_places, y_comesAt, y_yardsIn, .long y_g])] sz)) 0 0 (va_A [(y, kO 9 [.int y_thrown, .int y_taped, y_tape, .int y_size, .int y_place, .int y_begin, .int y_token, .long y_word, .int y_told, .int y_wrong, y_supper, y_guestName, y_kind, y_offTold, y_pace, y_cooks, y_snow, y_lineFrom, y_lineTo, y_codes, .int y_code, .int y_toldLines, y_opened, y_compared, y_kept, y_keptBy, y_ahead, y_against, y_sum, y_sumBy, y_term, y_termBy, y_byNot, y_valueOf, .int y_given, y_lines, y_lineWhat, y_lineA, y_lineB, y_seens, y_seenIn, y_seenYards, y_seenNear, y_s, y_aside, y_before, y_marked, y_undone, y_isLaid, .int y_done, .int y_snowNow, .int y_cameNow, .int y_cookThen, .int y_tasteThen, y_places, y_comesAt, y_yardsIn, .long y_g])] sz) := by
  refine Met.ofW (cc := cX9_mark) (maxL := 5) (ret := (some .boolean)) (by decide) rfl ?_
  intro p e s m args below meth c s₁ B hml hv
  obtain ⟨hav, hsz, hP, hK, hD0, hE⟩ := hv
  have hx := B.exec
  have hb := B.bytes
  have hr := B.returns
  have hts := atoms_spec (ws := wsX9_mark) B.pre
  have hown : s.vm.findClass RX9 = some m.cls := findClass_of_methodNamed B.named
  have hlocks := B.notSynchronized
  have hi9 : ∀ w ∈ u_ws RX9 TX9 58, w ∈ wsX9_mark := by decide +kernel
  have lf143 := hts (.fieldLink RX9 143 "LastCookModel" "thrown" "I") (by decide +kernel)
  subst hsz
  have hD := hD0.self (sz := s.heap.size)
  generalize hAe : va_A [(y, kO 9 [.int y_thrown, .int y_taped, y_tape, .int y_size, .int y_place, .int y_begin, .int y_token, .long y_word, .int y_told, .int y_wrong, y_supper, y_guestName, y_kind, y_offTold, y_pace, y_cooks, y_snow, y_lineFrom, y_lineTo, y_codes, .int y_code, .int y_toldLines, y_opened, y_compared, y_kept, y_keptBy, y_ahead, y_against, y_sum, y_sumBy, y_term, y_termBy, y_byNot, y_valueOf, .int y_given, y_lines, y_lineWhat, y_lineA, y_lineB, y_seens, y_seenIn, y_seenYards, y_seenNear, y_s, y_aside, y_before, y_marked, y_undone, y_isLaid, .int y_done, .int y_snowNow, .int y_cameNow, .int y_cookThen, .int y_tasteThen, y_places, y_comesAt, y_yardsIn, .long y_g])] s.heap.size = A at hD ⊢
  have hA : ∀ q : Nat, s.heap.size ≤ q → A q := fun q h => by rw [← hAe]; exact Or.inr h
  have hS : va_S A s.heap s.heap [] := va_S.rf
  have hl := lv_entry ([.ref y, .int q1, .int q2]) (n := 5) (Nat.le_of_ble_eq_true rfl)
  rw [show entryFrame m args 5 = entryFrame m ([.ref y, .int q1, .int q2] : List Value).toArray 5 by rw [hav], lg_entry_eq]
  generalize (lg_sl ([.ref y, .int q1, .int q2]) ++ List.replicate (5 - (lg_sl ([.ref y, .int q1, .int q2])).length) Slot.unset).toArray = ls at hl ⊢
  have hl : lv_has ls 5 [(0, .ref y), (1, .int q1), (2, .int q2)] := hl
  obtain ⟨R, hR⟩ : ∃ R, R = (headSpec wsX9_mark ({ frames := 1, cells := 0, slots := 0, locals := 70 } : Room)).room := ⟨_, rfl⟩
  rw [← hR]
  generalize hQ : MQ below _ args s 0 0 A = Q
  replace hQ := hQ.symm
  obtain ⟨H, hH⟩ : ∃ H, H = s.heap := ⟨_, rfl⟩
  rw [← hH] at hP ⊢
  have hS : va_S A s.heap H [] := by rw [hH]; exact hS
  refine lv_aload_n hx hb dX9_mark_0 rfl (lv_at hl 0 rfl) ?_
  refine lv_iconst (v := 0) hx hb dX9_mark_1 (by decide) ?_
  refine va_put (D := D) (ci := 9) (v := .int 0) (ty := .int) (C := RX9) (T := TX9) (N := 58) hx hb hts hi9 tyX9 tyX9_ok nmX9 hown hK hP hD hS 0 rfl rfl 0 (by decide) lf143 (fun _ h9 => h9) rfl (by decide +kernel) rfl rfl (Nat.le_of_ble_eq_true rfl) dX9_mark_2 (fun H locs hP hD hS => ?_)
  have hP : va_P D vwCl [(y, kO 9 [.int 0, .int y_taped, y_tape, .int y_size, .int y_place, .int y_begin, .int y_token, .long y_word, .int y_told, .int y_wrong, y_supper, y_guestName, y_kind, y_offTold, y_pace, y_cooks, y_snow, y_lineFrom, y_lineTo, y_codes, .int y_code, .int y_toldLines, y_opened, y_compared, y_kept, y_keptBy, y_ahead, y_against, y_sum, y_sumBy, y_term, y_termBy, y_byNot, y_valueOf, .int y_given, y_lines, y_lineWhat, y_lineA, y_lineB, y_seens, y_seenIn, y_seenYards, y_seenNear, y_s, y_aside, y_before, y_marked, y_undone, y_isLaid, .int y_done, .int y_snowNow, .int y_cameNow, .int y_cookThen, .int y_tasteThen, y_places, y_comesAt, y_yardsIn, .long y_g])] H := hP
  have hD : va_D A [(y, kO 9 [.int 0, .int y_taped, y_tape, .int y_size, .int y_place, .int y_begin, .int y_token, .long y_word, .int y_told, .int y_wrong, y_supper, y_guestName, y_kind, y_offTold, y_pace, y_cooks, y_snow, y_lineFrom, y_lineTo, y_codes, .int y_code, .int y_toldLines, y_opened, y_compared, y_kept, y_keptBy, y_ahead, y_against, y_sum, y_sumBy, y_term, y_termBy, y_byNot, y_valueOf, .int y_given, y_lines, y_lineWhat, y_lineA, y_lineB, y_seens, y_seenIn, y_seenYards, y_seenNear, y_s, y_aside, y_before, y_marked, y_undone, y_isLaid, .int y_done, .int y_snowNow, .int y_cameNow, .int y_cookThen, .int y_tasteThen, y_places, y_comesAt, y_yardsIn, .long y_g])] := hD
  refine lv_iload_n hx hb dX9_mark_5 rfl (lv_at hl 1 rfl) ?_
  refine lv_iconst (v := 0) hx hb dX9_mark_6 (by decide) ?_
  refine lv_iconst (v := 3) hx hb dX9_mark_7 (by decide) ?_
  refine kz_Si (As := [.int q1, .int 0, .int 3]) (rest := []) (wc := []) (wr := [(y, kO 9 [.int 0, .int y_taped, y_tape, .int y_size, .int y_place, .int y_begin, .int y_token, .long y_word, .int y_told, .int y_wrong, y_supper, y_guestName, y_kind, y_offTold, y_pace, y_cooks, y_snow, y_lineFrom, y_lineTo, y_codes, .int y_code, .int y_toldLines, y_opened, y_compared, y_kept, y_keptBy, y_ahead, y_against, y_sum, y_sumBy, y_term, y_termBy, y_byNot, y_valueOf, .int y_given, y_lines, y_lineWhat, y_lineA, y_lineB, y_seens, y_seenIn, y_seenYards, y_seenNear, y_s, y_aside, y_before, y_marked, y_undone, y_isLaid, .int y_done, .int y_snowNow, .int y_cameNow, .int y_cookThen, .int y_tasteThen, y_places, y_comesAt, y_yardsIn, .long y_g])]) ⟨hx, hb, hml, hown, hts⟩ hK hE hP hD hS hA (mX9_within l D k H.size q1 0 3) (va_cwS 3 hts gX9_mark_X9_within rfl rfl rfl (by decide +kernel) (by rw [hR]; exact ⟨Nat.le_of_ble_eq_true rfl, Nat.le_of_ble_eq_true rfl⟩)) [] [0] rfl rfl (by decide) (by decide) (by decide) rfl hl.1 rfl (Nat.le_of_ble_eq_true rfl) dX9_mark_8 (by rw [hR]; exact ⟨Nat.le_of_ble_eq_true rfl, Nat.le_of_ble_eq_true rfl⟩) (fun r1 u1 H locs hw1 hP hD hS => ?_)
  try dsimp only at hw1
  obtain rfl : r1 = bz (0 ≤ q1 ∧ q1 ≤ 3) := hw1
  have hP : va_P D vwCl [(y, kO 9 [.int 0, .int y_taped, y_tape, .int y_size, .int y_place, .int y_begin, .int y_token, .long y_word, .int y_told, .int y_wrong, y_supper, y_guestName, y_kind, y_offTold, y_pace, y_cooks, y_snow, y_lineFrom, y_lineTo, y_codes, .int y_code, .int y_toldLines, y_opened, y_compared, y_kept, y_keptBy, y_ahead, y_against, y_sum, y_sumBy, y_term, y_termBy, y_byNot, y_valueOf, .int y_given, y_lines, y_lineWhat, y_lineA, y_lineB, y_seens, y_seenIn, y_seenYards, y_seenNear, y_s, y_aside, y_before, y_marked, y_undone, y_isLaid, .int y_done, .int y_snowNow, .int y_cameNow, .int y_cookThen, .int y_tasteThen, y_places, y_comesAt, y_yardsIn, .long y_g])] H := hP
  have hD : va_D A [(y, kO 9 [.int 0, .int y_taped, y_tape, .int y_size, .int y_place, .int y_begin, .int y_token, .long y_word, .int y_told, .int y_wrong, y_supper, y_guestName, y_kind, y_offTold, y_pace, y_cooks, y_snow, y_lineFrom, y_lineTo, y_codes, .int y_code, .int y_toldLines, y_opened, y_compared, y_kept, y_keptBy, y_ahead, y_against, y_sum, y_sumBy, y_term, y_termBy, y_byNot, y_valueOf, .int y_given, y_lines, y_lineWhat, y_lineA, y_lineB, y_seens, y_seenIn, y_seenYards, y_seenNear, y_s, y_aside, y_before, y_marked, y_undone, y_isLaid, .int y_done, .int y_snowNow, .int y_cameNow, .int y_cookThen, .int y_tasteThen, y_places, y_comesAt, y_yardsIn, .long y_g])] := hD
  refine lv_if_eq (tgt := 27) hx hb dX9_mark_11 (by decide) (fun c_2 => ?_) (fun c_2 => absurd (bz_f hq) c_2)
  refine lv_iconst (v := 0) hx hb dX9_mark_27 (by decide) ?_
  rw [hQ]
  have hP9 := hP.sub (ws' := []) [] rfl
  have hD9 := hD.sub (ws' := []) [] (by decide) rfl
  exact W.zret (v := 0) hx hb hr rfl (fun zt ht hW => ⟨⟨0, (), rfl, rfl, by rw [ht]; exact hP9, hD9⟩, hS.F ht⟩) hS.2.2 dX9_mark_28
theorem dX9_snowOf_0 : decode cX9_snowOf 0 = .ok (.aload_n 0, 1) := by decide +kernel
theorem dX9_snowOf_1 : decode cX9_snowOf 1 = .ok (.getfield 13, 3) := by decide +kernel
theorem dX9_snowOf_4 : decode cX9_snowOf 4 = .ok (.iconst 3, 1) := by decide +kernel
theorem dX9_snowOf_5 : decode cX9_snowOf 5 = .ok (.iaload, 1) := by decide +kernel
theorem dX9_snowOf_6 : decode cX9_snowOf 6 = .ok (.ifCond .ne 7, 3) := by decide +kernel
theorem dX9_snowOf_9 : decode cX9_snowOf 9 = .ok (.iconst 0, 1) := by decide +kernel
theorem dX9_snowOf_10 : decode cX9_snowOf 10 = .ok (.goto 16, 3) := by decide +kernel
theorem dX9_snowOf_26 : decode cX9_snowOf 26 = .ok (.ireturn, 1) := by decide +kernel
set_option maxHeartbeats 4000000 in
set_option maxRecDepth 100000 in
theorem mX9_snowOf (l : Launch) (D : va_G) (k : Nat → ClassId) (sz : Nat) (y : Nat) (q : Int32) (y_thrown : Int32) (y_taped : Int32) (y_tape : Value) (y_size : Int32) (y_place : Int32) (y_begin : Int32) (y_token : Int32) (y_word : Int64) (y_told : Int32) (y_wrong : Int32) (b_supper : Nat) (y_guestName : Value) (y_kind : Value) (y_offTold : Value) (y_pace : Value) (y_cooks : Value) (y_snow : Value) (y_lineFrom : Value) (y_lineTo : Value) (y_codes : Value) (y_code : Int32) (y_toldLines : Int32) (y_opened : Value) (y_compared : Value) (y_kept : Value) (y_keptBy : Value) (y_ahead : Value) (y_against : Value) (y_sum : Value) (y_sumBy : Value) (y_term : Value) (y_termBy : Value) (y_byNot : Value) (y_valueOf : Value) (y_given : Int32) (y_lines : Value) (y_lineWhat : Value) (y_lineA : Value) (y_lineB : Value) (y_seens : Value) (y_seenIn : Value) (y_seenYards : Value) (y_seenNear : Value) (y_s : Value) (y_aside : Value) (y_before : Value) (y_marked : Value) (y_undone : Value) (y_isLaid : Value) (y_done : Int32) (y_snowNow : Int32) (y_cameNow : Int32) (y_cookThen : Int32) (y_tasteThen : Int32) (y_places : Value) (y_comesAt : Value) (y_yardsIn : Value) (y_g : Int64) (c_supper : Nat → Int32) (hs3 : c_supper 3 = 0) : Met l yX9_snowOf wsX9_snowOf ({ frames := 0, cells := 0, slots := 0, locals := 0 }) (va_Pc [.ref y, .int q] (kz_Pre D k [(y, kO 9 [.int y_thrown, .int y_taped, y_tape, .int y_size, .int y_place, .int y_begin, .int y_token, .long y_word, .int y_told, .int y_wrong, .ref b_supper, y_guestName, y_kind, y_offTold, y_pace, y_cooks, y_snow, y_lineFrom, y_lineTo, y_codes, .int y_code, .int y_toldLines, y_opened, y_compared, y_kept, y_keptBy, y_ahead, y_against, y_sum, y_sumBy, y_term, y_termBy, y_byNot, y_valueOf, .int y_given, y_lines, y_lineWhat, y_lineA, y_lineB, y_seens, y_seenIn, y_seenYards, y_seenNear, y_s, y_aside, y_before, y_marked, y_undone, y_isLaid, .int y_done, .int y_snowNow, .int y_cameNow, .int y_cookThen, .int y_tasteThen, y_places, y_comesAt, y_yardsIn, .long y_g]), (b_supper, kI k 8 c_supper)] sz)) (va_Qi (fun (rr : Int32) (uu : Unit) => rr = 0) (fun uu zt => kz_B D (va_A [(y, kO 9 [.int y_thrown, .int y_taped, y_tape, .int y_size, .int y_place, .int y_begin, .int y_token, .long y_word, .int y_told, .int y_wrong, .ref b_supper, y_guestName, y_kind, y_offTold, y_pace, y_cooks, y_snow, y_lineFrom, y_lineTo, y_codes, .int y_code, .int y_toldLines, y_opened, y_compared, y_kept, y_keptBy, y_ahead, y_against, y_sum, y_sumBy, y_term, y_termBy, y_byNot, y_valueOf, .int y_given, y_lines, y_lineWhat, y_lineA, y_lineB, y_seens, y_seenIn, y_seenYards, y_seenNear, y_s, y_aside, y_before, y_marked, y_undone, y_isLaid, .int y_done, .int y_snowNow, .int y_cameNow, .int y_cookThen, .int y_tasteThen, y_places, y_comesAt, y_yardsIn, .long y_g]), (b_supper, kI k 8 c_supper)] sz) [(y, kO 9 [.int y_thrown, .int y_taped, y_tape, .int y_size, .int y_place, .int y_begin, .int y_token, .long y_word, .int y_told, .int y_wrong, .ref b_supper, y_guestName, y_kind, y_offTold, y_pace, y_cooks, y_snow, y_lineFrom, y_lineTo, y_codes, .int y_code, .int y_toldLines, y_opened, y_compared, y_kept, y_keptBy, y_ahead, y_against, y_sum, y_sumBy, y_term, y_termBy, y_byNot, y_valueOf, .int y_given, y_lines, y_lineWhat, y_lineA, y_lineB, y_seens, y_seenIn, y_seenYards, y_seenNear, y_s, y_aside, y_before, y_marked, y_undone, y_isLaid, .int y_done, .int y_snowNow, .int y_cameNow, .int y_cookThen, .int y_tasteThen, y_places, y_comesAt, y_yardsIn, .long y_g]), (b_supper, kI k 8 c_supper)] zt) (va_A [(y, kO 9 [.int y_thrown, .int y_taped, y_tape, .int y_size, .int y_place, .int y_begin, .int y_token, .long y_word, .int y_told, .int y_wrong, .ref b_supper, y_guestName, y_kind, y_offTold, y_pace, y_cooks, y_snow, y_lineFrom, y_lineTo, y_codes, .int y_code, .int y_toldLines, y_opened, y_compared, y_kept, y_keptBy, y_ahead, y_against, y_sum, y_sumBy, y_term, y_termBy, y_byNot, y_valueOf, .int y_given, y_lines, y_lineWhat, y_lineA, y_lineB, y_seens, y_seenIn, y_seenYards, y_seenNear, y_s, y_aside, y_before, y_marked, y_undone, y_isLaid, .int y_done, .int y_snowNow, .int y_cameNow, .int y_cookThen, .int y_tasteThen, y_places, y_comesAt, y_yardsIn, .long y_g]), (b_supper, kI k 8 c_supper)] sz)) 0 0 (va_A [(y, kO 9 [.int y_thrown, .int y_taped, y_tape, .int y_size, .int y_place, .int y_begin, .int y_token, .long y_word, .int y_told, .int y_wrong, .ref b_supper, y_guestName, y_kind, y_offTold, y_pace, y_cooks, y_snow, y_lineFrom, y_lineTo, y_codes, .int y_code, .int y_toldLines, y_opened, y_compared, y_kept, y_keptBy, y_ahead, y_against, y_sum, y_sumBy, y_term, y_termBy, y_byNot, y_valueOf, .int y_given, y_lines, y_lineWhat, y_lineA, y_lineB, y_seens, y_seenIn, y_seenYards, y_seenNear, y_s, y_aside, y_before, y_marked, y_undone, y_isLaid, .int y_done, .int y_snowNow, .int y_cameNow, .int y_cookThen, .int y_tasteThen, y_places, y_comesAt, y_yardsIn, .long y_g]), (b_supper, kI k 8 c_supper)] sz) := by
  refine Met.ofW (cc := cX9_snowOf) (maxL := 2) (ret := (some .int)) (by decide) rfl ?_
  intro p e s m args below meth c s₁ B hml hv
  obtain ⟨hav, hsz, hP, hK, hD0, hE⟩ := hv
  have hx := B.exec
  have hb := B.bytes
  have hr := B.returns
  have hts := atoms_spec (ws := wsX9_snowOf) B.pre
  have hown : s.vm.findClass RX9 = some m.cls := findClass_of_methodNamed B.named
  have hlocks := B.notSynchronized
  have hi9 : ∀ w ∈ u_ws RX9 TX9 58, w ∈ wsX9_snowOf := by decide +kernel
  have lf13 := hts (.fieldLink RX9 13 "LastCookModel" "supper" "[I") (by decide +kernel)
  subst hsz
  have hD := hD0.self (sz := s.heap.size)
  generalize hAe : va_A [(y, kO 9 [.int y_thrown, .int y_taped, y_tape, .int y_size, .int y_place, .int y_begin, .int y_token, .long y_word, .int y_told, .int y_wrong, .ref b_supper, y_guestName, y_kind, y_offTold, y_pace, y_cooks, y_snow, y_lineFrom, y_lineTo, y_codes, .int y_code, .int y_toldLines, y_opened, y_compared, y_kept, y_keptBy, y_ahead, y_against, y_sum, y_sumBy, y_term, y_termBy, y_byNot, y_valueOf, .int y_given, y_lines, y_lineWhat, y_lineA, y_lineB, y_seens, y_seenIn, y_seenYards, y_seenNear, y_s, y_aside, y_before, y_marked, y_undone, y_isLaid, .int y_done, .int y_snowNow, .int y_cameNow, .int y_cookThen, .int y_tasteThen, y_places, y_comesAt, y_yardsIn, .long y_g]), (b_supper, kI k 8 c_supper)] s.heap.size = A at hD ⊢
  have hA : ∀ q : Nat, s.heap.size ≤ q → A q := fun q h => by rw [← hAe]; exact Or.inr h
  have hS : va_S A s.heap s.heap [] := va_S.rf
  have hl := lv_entry ([.ref y, .int q]) (n := 2) (Nat.le_of_ble_eq_true rfl)
  rw [show entryFrame m args 2 = entryFrame m ([.ref y, .int q] : List Value).toArray 2 by rw [hav], lg_entry_eq]
  generalize (lg_sl ([.ref y, .int q]) ++ List.replicate (2 - (lg_sl ([.ref y, .int q])).length) Slot.unset).toArray = ls at hl ⊢
  have hl : lv_has ls 2 [(0, .ref y), (1, .int q)] := hl
  obtain ⟨R, hR⟩ : ∃ R, R = (headSpec wsX9_snowOf ({ frames := 0, cells := 0, slots := 0, locals := 0 } : Room)).room := ⟨_, rfl⟩
  rw [← hR]
  generalize hQ : MQ below _ args s 0 0 A = Q
  replace hQ := hQ.symm
  obtain ⟨H, hH⟩ : ∃ H, H = s.heap := ⟨_, rfl⟩
  rw [← hH] at hP ⊢
  have hS : va_S A s.heap H [] := by rw [hH]; exact hS
  refine lv_aload_n hx hb dX9_snowOf_0 rfl (lv_at hl 0 rfl) ?_
  refine va_get (D := D) (ci := 9) (v := .ref b_supper) (C := RX9) (T := TX9) (N := 58) hx hb hts hi9 hown hK hP 0 rfl rfl 10 (by decide) lf13 (fun _ h9 => h9) rfl dX9_snowOf_1 ?_
  refine lv_iconst (v := 3) hx hb dX9_snowOf_4 (by decide) ?_
  refine va_iald hx hb hK hP 1 0 rfl rfl (vp_in_iff.mpr (by decide)) dX9_snowOf_5 ?_
  refine lv_topi (fun x1 ex1 => ?_)
  obtain rfl : x1 = 0 := ex1.trans (show _ = _ from hs3)
  refine lv_if_ne (tgt := 13) hx hb dX9_snowOf_6 (by decide) (fun c_2 => absurd (by decide) c_2) (fun c_2 => ?_)
  refine lv_iconst (v := 0) hx hb dX9_snowOf_9 (by decide) ?_
  refine lv_goto (tgt := 26) hx hb dX9_snowOf_10 (by decide) ?_
  rw [hQ]
  have hP9 := hP.sub (ws' := [(y, kO 9 [.int y_thrown, .int y_taped, y_tape, .int y_size, .int y_place, .int y_begin, .int y_token, .long y_word, .int y_told, .int y_wrong, .ref b_supper, y_guestName, y_kind, y_offTold, y_pace, y_cooks, y_snow, y_lineFrom, y_lineTo, y_codes, .int y_code, .int y_toldLines, y_opened, y_compared, y_kept, y_keptBy, y_ahead, y_against, y_sum, y_sumBy, y_term, y_termBy, y_byNot, y_valueOf, .int y_given, y_lines, y_lineWhat, y_lineA, y_lineB, y_seens, y_seenIn, y_seenYards, y_seenNear, y_s, y_aside, y_before, y_marked, y_undone, y_isLaid, .int y_done, .int y_snowNow, .int y_cameNow, .int y_cookThen, .int y_tasteThen, y_places, y_comesAt, y_yardsIn, .long y_g]), (b_supper, kI k 8 c_supper)]) [0, 1] rfl
  have hD9 := hD.sub (ws' := [(y, kO 9 [.int y_thrown, .int y_taped, y_tape, .int y_size, .int y_place, .int y_begin, .int y_token, .long y_word, .int y_told, .int y_wrong, .ref b_supper, y_guestName, y_kind, y_offTold, y_pace, y_cooks, y_snow, y_lineFrom, y_lineTo, y_codes, .int y_code, .int y_toldLines, y_opened, y_compared, y_kept, y_keptBy, y_ahead, y_against, y_sum, y_sumBy, y_term, y_termBy, y_byNot, y_valueOf, .int y_given, y_lines, y_lineWhat, y_lineA, y_lineB, y_seens, y_seenIn, y_seenYards, y_seenNear, y_s, y_aside, y_before, y_marked, y_undone, y_isLaid, .int y_done, .int y_snowNow, .int y_cameNow, .int y_cookThen, .int y_tasteThen, y_places, y_comesAt, y_yardsIn, .long y_g]), (b_supper, kI k 8 c_supper)]) [0, 1] (by decide) rfl
  exact W.iret (v := 0) hx hb hr (fun zt ht hW => ⟨⟨0, (), rfl, rfl, by rw [ht]; exact hP9, hD9⟩, hS.F ht⟩) hS.2.2 dX9_snowOf_26
theorem dX9_count_0 : decode cX9_count 0 = .ok (.aload_n 0, 1) := by decide +kernel
theorem dX9_count_1 : decode cX9_count 1 = .ok (.iconst 0, 1) := by decide +kernel
theorem dX9_count_2 : decode cX9_count 2 = .ok (.putfield 143, 3) := by decide +kernel
theorem dX9_count_5 : decode cX9_count 5 = .ok (.iload_n 1, 1) := by decide +kernel
theorem dX9_count_6 : decode cX9_count 6 = .ok (.iconst 0, 1) := by decide +kernel
theorem dX9_count_7 : decode cX9_count 7 = .ok (.bipush 12, 2) := by decide +kernel
theorem dX9_count_9 : decode cX9_count 9 = .ok (.invokestatic 260, 3) := by decide +kernel
theorem dX9_count_12 : decode cX9_count 12 = .ok (.ifCond .ne 7, 3) := by decide +kernel
theorem dX9_count_15 : decode cX9_count 15 = .ok (.sipush (-1000), 3) := by decide +kernel
theorem dX9_count_18 : decode cX9_count 18 = .ok (.ireturn, 1) := by decide +kernel
theorem dX9_count_19 : decode cX9_count 19 = .ok (.iload_n 1, 1) := by decide +kernel
theorem dX9_count_20 : decode cX9_count 20 = .ok (.iconst 3, 1) := by decide +kernel
theorem dX9_count_21 : decode cX9_count 21 = .ok (.if_icmp .ge 10, 3) := by decide +kernel
theorem dX9_count_24 : decode cX9_count 24 = .ok (.aload_n 0, 1) := by decide +kernel
theorem dX9_count_25 : decode cX9_count 25 = .ok (.getfield 13, 3) := by decide +kernel
theorem dX9_count_28 : decode cX9_count 28 = .ok (.iload_n 1, 1) := by decide +kernel
theorem dX9_count_29 : decode cX9_count 29 = .ok (.iaload, 1) := by decide +kernel
theorem dX9_count_30 : decode cX9_count 30 = .ok (.ireturn, 1) := by decide +kernel
theorem dX9_count_31 : decode cX9_count 31 = .ok (.iload_n 1, 1) := by decide +kernel
theorem dX9_count_32 : decode cX9_count 32 = .ok (.bipush 6, 2) := by decide +kernel
theorem dX9_count_34 : decode cX9_count 34 = .ok (.if_icmp .ge 42, 3) := by decide +kernel
theorem dX9_count_37 : decode cX9_count 37 = .ok (.iload_n 1, 1) := by decide +kernel
theorem dX9_count_38 : decode cX9_count 38 = .ok (.iconst 3, 1) := by decide +kernel
theorem dX9_count_39 : decode cX9_count 39 = .ok (.if_icmp .ne 12, 3) := by decide +kernel
theorem dX9_count_42 : decode cX9_count 42 = .ok (.aload_n 0, 1) := by decide +kernel
theorem dX9_count_43 : decode cX9_count 43 = .ok (.getfield 105, 3) := by decide +kernel
theorem dX9_count_46 : decode cX9_count 46 = .ok (.iconst 0, 1) := by decide +kernel
theorem dX9_count_47 : decode cX9_count 47 = .ok (.iaload, 1) := by decide +kernel
theorem dX9_count_48 : decode cX9_count 48 = .ok (.goto 27, 3) := by decide +kernel
theorem dX9_count_51 : decode cX9_count 51 = .ok (.iload_n 1, 1) := by decide +kernel
theorem dX9_count_52 : decode cX9_count 52 = .ok (.iconst 4, 1) := by decide +kernel
theorem dX9_count_53 : decode cX9_count 53 = .ok (.if_icmp .ne 12, 3) := by decide +kernel
theorem dX9_count_56 : decode cX9_count 56 = .ok (.aload_n 0, 1) := by decide +kernel
theorem dX9_count_57 : decode cX9_count 57 = .ok (.getfield 105, 3) := by decide +kernel
theorem dX9_count_60 : decode cX9_count 60 = .ok (.iconst 1, 1) := by decide +kernel
theorem dX9_count_61 : decode cX9_count 61 = .ok (.iaload, 1) := by decide +kernel
theorem dX9_count_62 : decode cX9_count 62 = .ok (.goto 13, 3) := by decide +kernel
theorem dX9_count_65 : decode cX9_count 65 = .ok (.aload_n 0, 1) := by decide +kernel
theorem dX9_count_66 : decode cX9_count 66 = .ok (.aload_n 0, 1) := by decide +kernel
theorem dX9_count_67 : decode cX9_count 67 = .ok (.getfield 105, 3) := by decide +kernel
theorem dX9_count_70 : decode cX9_count 70 = .ok (.iconst 1, 1) := by decide +kernel
theorem dX9_count_71 : decode cX9_count 71 = .ok (.iaload, 1) := by decide +kernel
theorem dX9_count_72 : decode cX9_count 72 = .ok (.invokevirtual 347, 3) := by decide +kernel
theorem dX9_count_75 : decode cX9_count 75 = .ok (.ireturn, 1) := by decide +kernel
theorem dX9_count_76 : decode cX9_count 76 = .ok (.iload_n 1, 1) := by decide +kernel
theorem dX9_count_77 : decode cX9_count 77 = .ok (.bipush 9, 2) := by decide +kernel
theorem dX9_count_79 : decode cX9_count 79 = .ok (.if_icmp .ge 38, 3) := by decide +kernel
theorem dX9_count_82 : decode cX9_count 82 = .ok (.iload_n 1, 1) := by decide +kernel
theorem dX9_count_83 : decode cX9_count 83 = .ok (.bipush 6, 2) := by decide +kernel
theorem dX9_count_85 : decode cX9_count 85 = .ok (.if_icmp .ne 10, 3) := by decide +kernel
theorem dX9_count_88 : decode cX9_count 88 = .ok (.aload_n 0, 1) := by decide +kernel
theorem dX9_count_89 : decode cX9_count 89 = .ok (.invokevirtual 363, 3) := by decide +kernel
theorem dX9_count_92 : decode cX9_count 92 = .ok (.goto 24, 3) := by decide +kernel
theorem dX9_count_95 : decode cX9_count 95 = .ok (.iload_n 1, 1) := by decide +kernel
theorem dX9_count_96 : decode cX9_count 96 = .ok (.bipush 7, 2) := by decide +kernel
theorem dX9_count_98 : decode cX9_count 98 = .ok (.if_icmp .ne 12, 3) := by decide +kernel
theorem dX9_count_101 : decode cX9_count 101 = .ok (.aload_n 0, 1) := by decide +kernel
theorem dX9_count_102 : decode cX9_count 102 = .ok (.getfield 105, 3) := by decide +kernel
theorem dX9_count_105 : decode cX9_count 105 = .ok (.iconst 2, 1) := by decide +kernel
theorem dX9_count_106 : decode cX9_count 106 = .ok (.iaload, 1) := by decide +kernel
theorem dX9_count_107 : decode cX9_count 107 = .ok (.goto 9, 3) := by decide +kernel
theorem dX9_count_110 : decode cX9_count 110 = .ok (.aload_n 0, 1) := by decide +kernel
theorem dX9_count_111 : decode cX9_count 111 = .ok (.getfield 105, 3) := by decide +kernel
theorem dX9_count_114 : decode cX9_count 114 = .ok (.iconst 3, 1) := by decide +kernel
theorem dX9_count_115 : decode cX9_count 115 = .ok (.iaload, 1) := by decide +kernel
theorem dX9_count_116 : decode cX9_count 116 = .ok (.ireturn, 1) := by decide +kernel
theorem dX9_count_117 : decode cX9_count 117 = .ok (.iload_n 1, 1) := by decide +kernel
theorem dX9_count_118 : decode cX9_count 118 = .ok (.bipush 11, 2) := by decide +kernel
theorem dX9_count_120 : decode cX9_count 120 = .ok (.if_icmp .ge 25, 3) := by decide +kernel
theorem dX9_count_123 : decode cX9_count 123 = .ok (.iload_n 1, 1) := by decide +kernel
theorem dX9_count_124 : decode cX9_count 124 = .ok (.bipush 9, 2) := by decide +kernel
theorem dX9_count_126 : decode cX9_count 126 = .ok (.if_icmp .ne 12, 3) := by decide +kernel
theorem dX9_count_129 : decode cX9_count 129 = .ok (.aload_n 0, 1) := by decide +kernel
theorem dX9_count_130 : decode cX9_count 130 = .ok (.getfield 81, 3) := by decide +kernel
theorem dX9_count_133 : decode cX9_count 133 = .ok (.iconst 0, 1) := by decide +kernel
theorem dX9_count_134 : decode cX9_count 134 = .ok (.iaload, 1) := by decide +kernel
theorem dX9_count_135 : decode cX9_count 135 = .ok (.goto 9, 3) := by decide +kernel
theorem dX9_count_138 : decode cX9_count 138 = .ok (.aload_n 0, 1) := by decide +kernel
theorem dX9_count_139 : decode cX9_count 139 = .ok (.getfield 93, 3) := by decide +kernel
theorem dX9_count_142 : decode cX9_count 142 = .ok (.iconst 0, 1) := by decide +kernel
theorem dX9_count_143 : decode cX9_count 143 = .ok (.iaload, 1) := by decide +kernel
theorem dX9_count_144 : decode cX9_count 144 = .ok (.ireturn, 1) := by decide +kernel
theorem dX9_count_145 : decode cX9_count 145 = .ok (.iload_n 1, 1) := by decide +kernel
theorem dX9_count_146 : decode cX9_count 146 = .ok (.bipush 11, 2) := by decide +kernel
theorem dX9_count_148 : decode cX9_count 148 = .ok (.if_icmp .ne 10, 3) := by decide +kernel
theorem dX9_count_151 : decode cX9_count 151 = .ok (.aload_n 0, 1) := by decide +kernel
theorem dX9_count_152 : decode cX9_count 152 = .ok (.getfield 322, 3) := by decide +kernel
theorem dX9_count_155 : decode cX9_count 155 = .ok (.goto 7, 3) := by decide +kernel
theorem dX9_count_158 : decode cX9_count 158 = .ok (.aload_n 0, 1) := by decide +kernel
theorem dX9_count_159 : decode cX9_count 159 = .ok (.getfield 148, 3) := by decide +kernel
theorem dX9_count_162 : decode cX9_count 162 = .ok (.ireturn, 1) := by decide +kernel
set_option maxRecDepth 20000 in
theorem ggX9_count_X9_within : GoodIn wsX9_count wsX9_within := goodIn_r _ [11] rfl (by decide +kernel)
set_option maxRecDepth 20000 in
theorem gX9_count_X9_within : GoodIn wsX9_count (va_wsS RX9 260 yX9_within wsX9_within) := goodIn_app (goodIn_of _ (by decide +kernel)) ggX9_count_X9_within
set_option maxRecDepth 20000 in
theorem ggX9_count_X9_snowOf : GoodIn wsX9_count wsX9_snowOf := goodIn_r _ [15, 2, 16, 25, 26, 27, 28, 29, 30, 31, 32, 33, 34, 35, 36, 37, 38, 39, 40, 41, 42, 43, 44, 45, 46, 47, 48, 49, 50, 51, 52, 53, 54, 55, 56, 57, 58, 59, 60, 61, 62, 63, 64, 65, 66, 67, 68, 69, 70, 71, 72, 73, 74, 75, 76, 77, 78, 79, 80, 81, 82] rfl (by decide +kernel)
set_option maxRecDepth 20000 in
theorem gX9_count_X9_snowOf : GoodIn wsX9_count (wsV RX9 347 RX9 yX9_snowOf wsX9_snowOf) := goodIn_app (goodIn_of _ (by decide +kernel)) ggX9_count_X9_snowOf
set_option maxRecDepth 20000 in
theorem ggX9_count_X9_onRoad : GoodIn wsX9_count wsX9_onRoad := goodIn_r _ [20, 2, 21, 22, 23, 10, 24, 3, 25, 26, 27, 28, 29, 30, 31, 32, 33, 34, 35, 36, 37, 38, 39, 40, 41, 42, 43, 44, 45, 46, 47, 48, 49, 50, 51, 52, 53, 54, 55, 56, 57, 58, 59, 60, 61, 62, 63, 64, 65, 66, 67, 68, 69, 70, 71, 72, 73, 74, 75, 76, 77, 78, 79, 80, 81, 82] rfl (by decide +kernel)
set_option maxRecDepth 20000 in
theorem gX9_count_X9_onRoad : GoodIn wsX9_count (wsV RX9 363 RX9 yX9_onRoad wsX9_onRoad) := goodIn_app (goodIn_of _ (by decide +kernel)) ggX9_count_X9_onRoad
set_option maxHeartbeats 4000000 in
set_option maxRecDepth 100000 in
theorem mX9_count (l : Launch) (D : va_G) (k : Nat → ClassId) (sz : Nat) (y : Nat) (q : Int32) (y_thrown : Int32) (y_tape : Value) (y_size : Int32) (y_place : Int32) (y_begin : Int32) (y_token : Int32) (y_word : Int64) (y_told : Int32) (y_wrong : Int32) (b_supper : Nat) (y_guestName : Value) (y_kind : Value) (y_offTold : Value) (y_pace : Value) (y_cooks : Value) (y_snow : Value) (y_lineFrom : Value) (y_lineTo : Value) (y_codes : Value) (y_code : Int32) (y_toldLines : Int32) (y_opened : Value) (y_compared : Value) (y_kept : Value) (y_keptBy : Value) (y_ahead : Value) (y_against : Value) (y_sum : Value) (y_sumBy : Value) (y_term : Value) (y_termBy : Value) (y_byNot : Value) (y_valueOf : Value) (y_given : Int32) (b_lines : Nat) (y_lineWhat : Value) (y_lineA : Value) (y_lineB : Value) (b_seens : Nat) (y_seenIn : Value) (y_seenYards : Value) (y_seenNear : Value) (b_s : Nat) (y_aside : Value) (y_before : Value) (y_marked : Value) (y_undone : Value) (y_isLaid : Value) (y_snowNow : Int32) (y_cameNow : Int32) (y_cookThen : Int32) (y_tasteThen : Int32) (y_places : Value) (y_comesAt : Value) (y_yardsIn : Value) (y_g : Int64) (c_supper : Nat → Int32) (c_s : Nat → Int32) (c_lines : Nat → Int32) (c_seens : Nat → Int32) (hs0 : c_supper 0 = 0) (hs1 : c_supper 1 = 10) (hs2 : c_supper 2 = 30) (hs3 : c_supper 3 = 0) (hz0 : c_s 0 = 0) (hz1 : c_s 1 = 0) (hz2 : c_s 2 = 0) (hz3 : c_s 3 = 0) (hl0 : c_lines 0 = 0) (he0 : c_seens 0 = 0) : Met l yX9_count wsX9_count ({ frames := 1, cells := 0, slots := 0, locals := 70 }) (va_Pc [.ref y, .int q] (kz_Pre D k [(y, kO 9 [.int y_thrown, .int 0, y_tape, .int y_size, .int y_place, .int y_begin, .int y_token, .long y_word, .int y_told, .int y_wrong, .ref b_supper, y_guestName, y_kind, y_offTold, y_pace, y_cooks, y_snow, y_lineFrom, y_lineTo, y_codes, .int y_code, .int y_toldLines, y_opened, y_compared, y_kept, y_keptBy, y_ahead, y_against, y_sum, y_sumBy, y_term, y_termBy, y_byNot, y_valueOf, .int y_given, .ref b_lines, y_lineWhat, y_lineA, y_lineB, .ref b_seens, y_seenIn, y_seenYards, y_seenNear, .ref b_s, y_aside, y_before, y_marked, y_undone, y_isLaid, .int 0, .int y_snowNow, .int y_cameNow, .int y_cookThen, .int y_tasteThen, y_places, y_comesAt, y_yardsIn, .long y_g]), (b_supper, kI k 8 c_supper), (b_s, kI k 46 c_s), (b_lines, kI k 6 c_lines), (b_seens, kI k 5 c_seens)] sz)) (va_Qi (fun (rr : Int32) (uu : Unit) => rr = aC q) (fun uu zt => kz_B D (va_A [(y, kO 9 [.int y_thrown, .int 0, y_tape, .int y_size, .int y_place, .int y_begin, .int y_token, .long y_word, .int y_told, .int y_wrong, .ref b_supper, y_guestName, y_kind, y_offTold, y_pace, y_cooks, y_snow, y_lineFrom, y_lineTo, y_codes, .int y_code, .int y_toldLines, y_opened, y_compared, y_kept, y_keptBy, y_ahead, y_against, y_sum, y_sumBy, y_term, y_termBy, y_byNot, y_valueOf, .int y_given, .ref b_lines, y_lineWhat, y_lineA, y_lineB, .ref b_seens, y_seenIn, y_seenYards, y_seenNear, .ref b_s, y_aside, y_before, y_marked, y_undone, y_isLaid, .int 0, .int y_snowNow, .int y_cameNow, .int y_cookThen, .int y_tasteThen, y_places, y_comesAt, y_yardsIn, .long y_g]), (b_supper, kI k 8 c_supper), (b_s, kI k 46 c_s), (b_lines, kI k 6 c_lines), (b_seens, kI k 5 c_seens)] sz) [] zt) (va_A [(y, kO 9 [.int y_thrown, .int 0, y_tape, .int y_size, .int y_place, .int y_begin, .int y_token, .long y_word, .int y_told, .int y_wrong, .ref b_supper, y_guestName, y_kind, y_offTold, y_pace, y_cooks, y_snow, y_lineFrom, y_lineTo, y_codes, .int y_code, .int y_toldLines, y_opened, y_compared, y_kept, y_keptBy, y_ahead, y_against, y_sum, y_sumBy, y_term, y_termBy, y_byNot, y_valueOf, .int y_given, .ref b_lines, y_lineWhat, y_lineA, y_lineB, .ref b_seens, y_seenIn, y_seenYards, y_seenNear, .ref b_s, y_aside, y_before, y_marked, y_undone, y_isLaid, .int 0, .int y_snowNow, .int y_cameNow, .int y_cookThen, .int y_tasteThen, y_places, y_comesAt, y_yardsIn, .long y_g]), (b_supper, kI k 8 c_supper), (b_s, kI k 46 c_s), (b_lines, kI k 6 c_lines), (b_seens, kI k 5 c_seens)] sz)) 0 0 (va_A [(y, kO 9 [.int y_thrown, .int 0, y_tape, .int y_size, .int y_place, .int y_begin, .int y_token, .long y_word, .int y_told, .int y_wrong, .ref b_supper, y_guestName, y_kind, y_offTold, y_pace, y_cooks, y_snow, y_lineFrom, y_lineTo, y_codes, .int y_code, .int y_toldLines, y_opened, y_compared, y_kept, y_keptBy, y_ahead, y_against, y_sum, y_sumBy, y_term, y_termBy, y_byNot, y_valueOf, .int y_given, .ref b_lines, y_lineWhat, y_lineA, y_lineB, .ref b_seens, y_seenIn, y_seenYards, y_seenNear, .ref b_s, y_aside, y_before, y_marked, y_undone, y_isLaid, .int 0, .int y_snowNow, .int y_cameNow, .int y_cookThen, .int y_tasteThen, y_places, y_comesAt, y_yardsIn, .long y_g]), (b_supper, kI k 8 c_supper), (b_s, kI k 46 c_s), (b_lines, kI k 6 c_lines), (b_seens, kI k 5 c_seens)] sz) := by
  refine Met.ofW (cc := cX9_count) (maxL := 2) (ret := (some .int)) (by decide) rfl ?_
  intro p e s m args below meth c s₁ B hml hv
  obtain ⟨hav, hsz, hP, hK, hD0, hE⟩ := hv
  have hx := B.exec
  have hb := B.bytes
  have hr := B.returns
  have hts := atoms_spec (ws := wsX9_count) B.pre
  have hown : s.vm.findClass RX9 = some m.cls := findClass_of_methodNamed B.named
  have hlocks := B.notSynchronized
  have hi9 : ∀ w ∈ u_ws RX9 TX9 58, w ∈ wsX9_count := by decide +kernel
  have lf143 := hts (.fieldLink RX9 143 "LastCookModel" "thrown" "I") (by decide +kernel)
  have lf13 := hts (.fieldLink RX9 13 "LastCookModel" "supper" "[I") (by decide +kernel)
  have lf105 := hts (.fieldLink RX9 105 "LastCookModel" "s" "[I") (by decide +kernel)
  have lf81 := hts (.fieldLink RX9 81 "LastCookModel" "lines" "[I") (by decide +kernel)
  have lf93 := hts (.fieldLink RX9 93 "LastCookModel" "seens" "[I") (by decide +kernel)
  have lf322 := hts (.fieldLink RX9 322 "LastCookModel" "done" "I") (by decide +kernel)
  have lf148 := hts (.fieldLink RX9 148 "LastCookModel" "taped" "I") (by decide +kernel)
  subst hsz
  have hD := hD0.self (sz := s.heap.size)
  generalize hAe : va_A [(y, kO 9 [.int y_thrown, .int 0, y_tape, .int y_size, .int y_place, .int y_begin, .int y_token, .long y_word, .int y_told, .int y_wrong, .ref b_supper, y_guestName, y_kind, y_offTold, y_pace, y_cooks, y_snow, y_lineFrom, y_lineTo, y_codes, .int y_code, .int y_toldLines, y_opened, y_compared, y_kept, y_keptBy, y_ahead, y_against, y_sum, y_sumBy, y_term, y_termBy, y_byNot, y_valueOf, .int y_given, .ref b_lines, y_lineWhat, y_lineA, y_lineB, .ref b_seens, y_seenIn, y_seenYards, y_seenNear, .ref b_s, y_aside, y_before, y_marked, y_undone, y_isLaid, .int 0, .int y_snowNow, .int y_cameNow, .int y_cookThen, .int y_tasteThen, y_places, y_comesAt, y_yardsIn, .long y_g]), (b_supper, kI k 8 c_supper), (b_s, kI k 46 c_s), (b_lines, kI k 6 c_lines), (b_seens, kI k 5 c_seens)] s.heap.size = A at hD ⊢
  have hA : ∀ q : Nat, s.heap.size ≤ q → A q := fun q h => by rw [← hAe]; exact Or.inr h
  have hS : va_S A s.heap s.heap [] := va_S.rf
  have hl := lv_entry ([.ref y, .int q]) (n := 2) (Nat.le_of_ble_eq_true rfl)
  rw [show entryFrame m args 2 = entryFrame m ([.ref y, .int q] : List Value).toArray 2 by rw [hav], lg_entry_eq]
  generalize (lg_sl ([.ref y, .int q]) ++ List.replicate (2 - (lg_sl ([.ref y, .int q])).length) Slot.unset).toArray = ls at hl ⊢
  have hl : lv_has ls 2 [(0, .ref y), (1, .int q)] := hl
  obtain ⟨R, hR⟩ : ∃ R, R = (headSpec wsX9_count ({ frames := 1, cells := 0, slots := 0, locals := 70 } : Room)).room := ⟨_, rfl⟩
  rw [← hR]
  generalize hQ : MQ below _ args s 0 0 A = Q
  replace hQ := hQ.symm
  obtain ⟨H, hH⟩ : ∃ H, H = s.heap := ⟨_, rfl⟩
  rw [← hH] at hP ⊢
  have hS : va_S A s.heap H [] := by rw [hH]; exact hS
  by_cases w0_0 : q = 0
  · subst w0_0
    refine lv_aload_n hx hb dX9_count_0 rfl (lv_at hl 0 rfl) ?_
    refine lv_iconst (v := 0) hx hb dX9_count_1 (by decide) ?_
    refine va_put (D := D) (ci := 9) (v := .int 0) (ty := .int) (C := RX9) (T := TX9) (N := 58) hx hb hts hi9 tyX9 tyX9_ok nmX9 hown hK hP hD hS 0 rfl rfl 0 (by decide) lf143 (fun _ h9 => h9) rfl (by decide +kernel) rfl rfl (Nat.le_of_ble_eq_true rfl) dX9_count_2 (fun H locs hP hD hS => ?_)
    have hP : va_P D vwCl [(y, kO 9 [.int 0, .int 0, y_tape, .int y_size, .int y_place, .int y_begin, .int y_token, .long y_word, .int y_told, .int y_wrong, .ref b_supper, y_guestName, y_kind, y_offTold, y_pace, y_cooks, y_snow, y_lineFrom, y_lineTo, y_codes, .int y_code, .int y_toldLines, y_opened, y_compared, y_kept, y_keptBy, y_ahead, y_against, y_sum, y_sumBy, y_term, y_termBy, y_byNot, y_valueOf, .int y_given, .ref b_lines, y_lineWhat, y_lineA, y_lineB, .ref b_seens, y_seenIn, y_seenYards, y_seenNear, .ref b_s, y_aside, y_before, y_marked, y_undone, y_isLaid, .int 0, .int y_snowNow, .int y_cameNow, .int y_cookThen, .int y_tasteThen, y_places, y_comesAt, y_yardsIn, .long y_g]), (b_supper, kI k 8 c_supper), (b_s, kI k 46 c_s), (b_lines, kI k 6 c_lines), (b_seens, kI k 5 c_seens)] H := hP
    have hD : va_D A [(y, kO 9 [.int 0, .int 0, y_tape, .int y_size, .int y_place, .int y_begin, .int y_token, .long y_word, .int y_told, .int y_wrong, .ref b_supper, y_guestName, y_kind, y_offTold, y_pace, y_cooks, y_snow, y_lineFrom, y_lineTo, y_codes, .int y_code, .int y_toldLines, y_opened, y_compared, y_kept, y_keptBy, y_ahead, y_against, y_sum, y_sumBy, y_term, y_termBy, y_byNot, y_valueOf, .int y_given, .ref b_lines, y_lineWhat, y_lineA, y_lineB, .ref b_seens, y_seenIn, y_seenYards, y_seenNear, .ref b_s, y_aside, y_before, y_marked, y_undone, y_isLaid, .int 0, .int y_snowNow, .int y_cameNow, .int y_cookThen, .int y_tasteThen, y_places, y_comesAt, y_yardsIn, .long y_g]), (b_supper, kI k 8 c_supper), (b_s, kI k 46 c_s), (b_lines, kI k 6 c_lines), (b_seens, kI k 5 c_seens)] := hD
    refine lv_iload_n hx hb dX9_count_5 rfl (lv_at hl 1 rfl) ?_
    refine lv_iconst (v := 0) hx hb dX9_count_6 (by decide) ?_
    refine lv_bipush (v := 12) hx hb dX9_count_7 (by decide) ?_
    refine kz_Si (As := [.int 0, .int 0, .int 12]) (rest := []) (wc := []) (wr := [(y, kO 9 [.int 0, .int 0, y_tape, .int y_size, .int y_place, .int y_begin, .int y_token, .long y_word, .int y_told, .int y_wrong, .ref b_supper, y_guestName, y_kind, y_offTold, y_pace, y_cooks, y_snow, y_lineFrom, y_lineTo, y_codes, .int y_code, .int y_toldLines, y_opened, y_compared, y_kept, y_keptBy, y_ahead, y_against, y_sum, y_sumBy, y_term, y_termBy, y_byNot, y_valueOf, .int y_given, .ref b_lines, y_lineWhat, y_lineA, y_lineB, .ref b_seens, y_seenIn, y_seenYards, y_seenNear, .ref b_s, y_aside, y_before, y_marked, y_undone, y_isLaid, .int 0, .int y_snowNow, .int y_cameNow, .int y_cookThen, .int y_tasteThen, y_places, y_comesAt, y_yardsIn, .long y_g]), (b_supper, kI k 8 c_supper), (b_s, kI k 46 c_s), (b_lines, kI k 6 c_lines), (b_seens, kI k 5 c_seens)]) ⟨hx, hb, hml, hown, hts⟩ hK hE hP hD hS hA (mX9_within l D k H.size 0 0 12) (va_cwS 3 hts gX9_count_X9_within rfl rfl rfl (by decide +kernel) (by rw [hR]; exact ⟨Nat.le_of_ble_eq_true rfl, Nat.le_of_ble_eq_true rfl⟩)) [] [0, 1, 2, 3, 4] rfl rfl (by decide) (by decide) (by decide) rfl hl.1 rfl (Nat.le_of_ble_eq_true rfl) dX9_count_9 (by rw [hR]; exact ⟨Nat.le_of_ble_eq_true rfl, Nat.le_of_ble_eq_true rfl⟩) (fun r1 u1 H locs hw1 hP hD hS => ?_)
    try dsimp only at hw1
    obtain rfl : r1 = bz (0 ≤ 0 ∧ 0 ≤ 12) := hw1
    have hP : va_P D vwCl [(y, kO 9 [.int 0, .int 0, y_tape, .int y_size, .int y_place, .int y_begin, .int y_token, .long y_word, .int y_told, .int y_wrong, .ref b_supper, y_guestName, y_kind, y_offTold, y_pace, y_cooks, y_snow, y_lineFrom, y_lineTo, y_codes, .int y_code, .int y_toldLines, y_opened, y_compared, y_kept, y_keptBy, y_ahead, y_against, y_sum, y_sumBy, y_term, y_termBy, y_byNot, y_valueOf, .int y_given, .ref b_lines, y_lineWhat, y_lineA, y_lineB, .ref b_seens, y_seenIn, y_seenYards, y_seenNear, .ref b_s, y_aside, y_before, y_marked, y_undone, y_isLaid, .int 0, .int y_snowNow, .int y_cameNow, .int y_cookThen, .int y_tasteThen, y_places, y_comesAt, y_yardsIn, .long y_g]), (b_supper, kI k 8 c_supper), (b_s, kI k 46 c_s), (b_lines, kI k 6 c_lines), (b_seens, kI k 5 c_seens)] H := hP
    have hD : va_D A [(y, kO 9 [.int 0, .int 0, y_tape, .int y_size, .int y_place, .int y_begin, .int y_token, .long y_word, .int y_told, .int y_wrong, .ref b_supper, y_guestName, y_kind, y_offTold, y_pace, y_cooks, y_snow, y_lineFrom, y_lineTo, y_codes, .int y_code, .int y_toldLines, y_opened, y_compared, y_kept, y_keptBy, y_ahead, y_against, y_sum, y_sumBy, y_term, y_termBy, y_byNot, y_valueOf, .int y_given, .ref b_lines, y_lineWhat, y_lineA, y_lineB, .ref b_seens, y_seenIn, y_seenYards, y_seenNear, .ref b_s, y_aside, y_before, y_marked, y_undone, y_isLaid, .int 0, .int y_snowNow, .int y_cameNow, .int y_cookThen, .int y_tasteThen, y_places, y_comesAt, y_yardsIn, .long y_g]), (b_supper, kI k 8 c_supper), (b_s, kI k 46 c_s), (b_lines, kI k 6 c_lines), (b_seens, kI k 5 c_seens)] := hD
    refine lv_if_ne (tgt := 19) hx hb dX9_count_12 (by decide) (fun c_2 => ?_) (fun c_2 => absurd c_2 (by decide))
    refine lv_iload_n hx hb dX9_count_19 rfl (lv_at hl 1 rfl) ?_
    refine lv_iconst (v := 3) hx hb dX9_count_20 (by decide) ?_
    refine lv_icmp_ge (tgt := 31) hx hb dX9_count_21 (by decide) (fun c_3 => absurd c_3 (by decide)) (fun c_3 => ?_)
    refine lv_aload_n hx hb dX9_count_24 rfl (lv_at hl 0 rfl) ?_
    refine va_get (D := D) (ci := 9) (v := .ref b_supper) (C := RX9) (T := TX9) (N := 58) hx hb hts hi9 hown hK hP 0 rfl rfl 10 (by decide) lf13 (fun _ h9 => h9) rfl dX9_count_25 ?_
    refine lv_iload_n hx hb dX9_count_28 rfl (lv_at hl 1 rfl) ?_
    refine va_iald hx hb hK hP 1 0 rfl rfl (vp_in_iff.mpr (by decide)) dX9_count_29 ?_
    refine lv_topi (fun x4 ex4 => ?_)
    obtain rfl : x4 = 0 := ex4.trans (show _ = _ from hs0)
    rw [hQ]
    have hP9 := hP.sub (ws' := []) [] rfl
    have hD9 := hD.sub (ws' := []) [] (by decide) rfl
    exact W.iret (v := 0) hx hb hr (fun zt ht hW => ⟨⟨0, (), rfl, (by decide), by rw [ht]; exact hP9, hD9⟩, hS.F ht⟩) hS.2.2 dX9_count_30
  by_cases w0_1 : q = 1
  · subst w0_1
    refine lv_aload_n hx hb dX9_count_0 rfl (lv_at hl 0 rfl) ?_
    refine lv_iconst (v := 0) hx hb dX9_count_1 (by decide) ?_
    refine va_put (D := D) (ci := 9) (v := .int 0) (ty := .int) (C := RX9) (T := TX9) (N := 58) hx hb hts hi9 tyX9 tyX9_ok nmX9 hown hK hP hD hS 0 rfl rfl 0 (by decide) lf143 (fun _ h9 => h9) rfl (by decide +kernel) rfl rfl (Nat.le_of_ble_eq_true rfl) dX9_count_2 (fun H locs hP hD hS => ?_)
    have hP : va_P D vwCl [(y, kO 9 [.int 0, .int 0, y_tape, .int y_size, .int y_place, .int y_begin, .int y_token, .long y_word, .int y_told, .int y_wrong, .ref b_supper, y_guestName, y_kind, y_offTold, y_pace, y_cooks, y_snow, y_lineFrom, y_lineTo, y_codes, .int y_code, .int y_toldLines, y_opened, y_compared, y_kept, y_keptBy, y_ahead, y_against, y_sum, y_sumBy, y_term, y_termBy, y_byNot, y_valueOf, .int y_given, .ref b_lines, y_lineWhat, y_lineA, y_lineB, .ref b_seens, y_seenIn, y_seenYards, y_seenNear, .ref b_s, y_aside, y_before, y_marked, y_undone, y_isLaid, .int 0, .int y_snowNow, .int y_cameNow, .int y_cookThen, .int y_tasteThen, y_places, y_comesAt, y_yardsIn, .long y_g]), (b_supper, kI k 8 c_supper), (b_s, kI k 46 c_s), (b_lines, kI k 6 c_lines), (b_seens, kI k 5 c_seens)] H := hP
    have hD : va_D A [(y, kO 9 [.int 0, .int 0, y_tape, .int y_size, .int y_place, .int y_begin, .int y_token, .long y_word, .int y_told, .int y_wrong, .ref b_supper, y_guestName, y_kind, y_offTold, y_pace, y_cooks, y_snow, y_lineFrom, y_lineTo, y_codes, .int y_code, .int y_toldLines, y_opened, y_compared, y_kept, y_keptBy, y_ahead, y_against, y_sum, y_sumBy, y_term, y_termBy, y_byNot, y_valueOf, .int y_given, .ref b_lines, y_lineWhat, y_lineA, y_lineB, .ref b_seens, y_seenIn, y_seenYards, y_seenNear, .ref b_s, y_aside, y_before, y_marked, y_undone, y_isLaid, .int 0, .int y_snowNow, .int y_cameNow, .int y_cookThen, .int y_tasteThen, y_places, y_comesAt, y_yardsIn, .long y_g]), (b_supper, kI k 8 c_supper), (b_s, kI k 46 c_s), (b_lines, kI k 6 c_lines), (b_seens, kI k 5 c_seens)] := hD
    refine lv_iload_n hx hb dX9_count_5 rfl (lv_at hl 1 rfl) ?_
    refine lv_iconst (v := 0) hx hb dX9_count_6 (by decide) ?_
    refine lv_bipush (v := 12) hx hb dX9_count_7 (by decide) ?_
    refine kz_Si (As := [.int 1, .int 0, .int 12]) (rest := []) (wc := []) (wr := [(y, kO 9 [.int 0, .int 0, y_tape, .int y_size, .int y_place, .int y_begin, .int y_token, .long y_word, .int y_told, .int y_wrong, .ref b_supper, y_guestName, y_kind, y_offTold, y_pace, y_cooks, y_snow, y_lineFrom, y_lineTo, y_codes, .int y_code, .int y_toldLines, y_opened, y_compared, y_kept, y_keptBy, y_ahead, y_against, y_sum, y_sumBy, y_term, y_termBy, y_byNot, y_valueOf, .int y_given, .ref b_lines, y_lineWhat, y_lineA, y_lineB, .ref b_seens, y_seenIn, y_seenYards, y_seenNear, .ref b_s, y_aside, y_before, y_marked, y_undone, y_isLaid, .int 0, .int y_snowNow, .int y_cameNow, .int y_cookThen, .int y_tasteThen, y_places, y_comesAt, y_yardsIn, .long y_g]), (b_supper, kI k 8 c_supper), (b_s, kI k 46 c_s), (b_lines, kI k 6 c_lines), (b_seens, kI k 5 c_seens)]) ⟨hx, hb, hml, hown, hts⟩ hK hE hP hD hS hA (mX9_within l D k H.size 1 0 12) (va_cwS 3 hts gX9_count_X9_within rfl rfl rfl (by decide +kernel) (by rw [hR]; exact ⟨Nat.le_of_ble_eq_true rfl, Nat.le_of_ble_eq_true rfl⟩)) [] [0, 1, 2, 3, 4] rfl rfl (by decide) (by decide) (by decide) rfl hl.1 rfl (Nat.le_of_ble_eq_true rfl) dX9_count_9 (by rw [hR]; exact ⟨Nat.le_of_ble_eq_true rfl, Nat.le_of_ble_eq_true rfl⟩) (fun r5 u5 H locs hw5 hP hD hS => ?_)
    try dsimp only at hw5
    obtain rfl : r5 = bz (0 ≤ 1 ∧ 1 ≤ 12) := hw5
    have hP : va_P D vwCl [(y, kO 9 [.int 0, .int 0, y_tape, .int y_size, .int y_place, .int y_begin, .int y_token, .long y_word, .int y_told, .int y_wrong, .ref b_supper, y_guestName, y_kind, y_offTold, y_pace, y_cooks, y_snow, y_lineFrom, y_lineTo, y_codes, .int y_code, .int y_toldLines, y_opened, y_compared, y_kept, y_keptBy, y_ahead, y_against, y_sum, y_sumBy, y_term, y_termBy, y_byNot, y_valueOf, .int y_given, .ref b_lines, y_lineWhat, y_lineA, y_lineB, .ref b_seens, y_seenIn, y_seenYards, y_seenNear, .ref b_s, y_aside, y_before, y_marked, y_undone, y_isLaid, .int 0, .int y_snowNow, .int y_cameNow, .int y_cookThen, .int y_tasteThen, y_places, y_comesAt, y_yardsIn, .long y_g]), (b_supper, kI k 8 c_supper), (b_s, kI k 46 c_s), (b_lines, kI k 6 c_lines), (b_seens, kI k 5 c_seens)] H := hP
    have hD : va_D A [(y, kO 9 [.int 0, .int 0, y_tape, .int y_size, .int y_place, .int y_begin, .int y_token, .long y_word, .int y_told, .int y_wrong, .ref b_supper, y_guestName, y_kind, y_offTold, y_pace, y_cooks, y_snow, y_lineFrom, y_lineTo, y_codes, .int y_code, .int y_toldLines, y_opened, y_compared, y_kept, y_keptBy, y_ahead, y_against, y_sum, y_sumBy, y_term, y_termBy, y_byNot, y_valueOf, .int y_given, .ref b_lines, y_lineWhat, y_lineA, y_lineB, .ref b_seens, y_seenIn, y_seenYards, y_seenNear, .ref b_s, y_aside, y_before, y_marked, y_undone, y_isLaid, .int 0, .int y_snowNow, .int y_cameNow, .int y_cookThen, .int y_tasteThen, y_places, y_comesAt, y_yardsIn, .long y_g]), (b_supper, kI k 8 c_supper), (b_s, kI k 46 c_s), (b_lines, kI k 6 c_lines), (b_seens, kI k 5 c_seens)] := hD
    refine lv_if_ne (tgt := 19) hx hb dX9_count_12 (by decide) (fun c_6 => ?_) (fun c_6 => absurd c_6 (by decide))
    refine lv_iload_n hx hb dX9_count_19 rfl (lv_at hl 1 rfl) ?_
    refine lv_iconst (v := 3) hx hb dX9_count_20 (by decide) ?_
    refine lv_icmp_ge (tgt := 31) hx hb dX9_count_21 (by decide) (fun c_7 => absurd c_7 (by decide)) (fun c_7 => ?_)
    refine lv_aload_n hx hb dX9_count_24 rfl (lv_at hl 0 rfl) ?_
    refine va_get (D := D) (ci := 9) (v := .ref b_supper) (C := RX9) (T := TX9) (N := 58) hx hb hts hi9 hown hK hP 0 rfl rfl 10 (by decide) lf13 (fun _ h9 => h9) rfl dX9_count_25 ?_
    refine lv_iload_n hx hb dX9_count_28 rfl (lv_at hl 1 rfl) ?_
    refine va_iald hx hb hK hP 1 0 rfl rfl (vp_in_iff.mpr (by decide)) dX9_count_29 ?_
    refine lv_topi (fun x8 ex8 => ?_)
    obtain rfl : x8 = 10 := ex8.trans (show _ = _ from hs1)
    rw [hQ]
    have hP9 := hP.sub (ws' := []) [] rfl
    have hD9 := hD.sub (ws' := []) [] (by decide) rfl
    exact W.iret (v := 10) hx hb hr (fun zt ht hW => ⟨⟨10, (), rfl, (by decide), by rw [ht]; exact hP9, hD9⟩, hS.F ht⟩) hS.2.2 dX9_count_30
  by_cases w0_2 : q = 2
  · subst w0_2
    refine lv_aload_n hx hb dX9_count_0 rfl (lv_at hl 0 rfl) ?_
    refine lv_iconst (v := 0) hx hb dX9_count_1 (by decide) ?_
    refine va_put (D := D) (ci := 9) (v := .int 0) (ty := .int) (C := RX9) (T := TX9) (N := 58) hx hb hts hi9 tyX9 tyX9_ok nmX9 hown hK hP hD hS 0 rfl rfl 0 (by decide) lf143 (fun _ h9 => h9) rfl (by decide +kernel) rfl rfl (Nat.le_of_ble_eq_true rfl) dX9_count_2 (fun H locs hP hD hS => ?_)
    have hP : va_P D vwCl [(y, kO 9 [.int 0, .int 0, y_tape, .int y_size, .int y_place, .int y_begin, .int y_token, .long y_word, .int y_told, .int y_wrong, .ref b_supper, y_guestName, y_kind, y_offTold, y_pace, y_cooks, y_snow, y_lineFrom, y_lineTo, y_codes, .int y_code, .int y_toldLines, y_opened, y_compared, y_kept, y_keptBy, y_ahead, y_against, y_sum, y_sumBy, y_term, y_termBy, y_byNot, y_valueOf, .int y_given, .ref b_lines, y_lineWhat, y_lineA, y_lineB, .ref b_seens, y_seenIn, y_seenYards, y_seenNear, .ref b_s, y_aside, y_before, y_marked, y_undone, y_isLaid, .int 0, .int y_snowNow, .int y_cameNow, .int y_cookThen, .int y_tasteThen, y_places, y_comesAt, y_yardsIn, .long y_g]), (b_supper, kI k 8 c_supper), (b_s, kI k 46 c_s), (b_lines, kI k 6 c_lines), (b_seens, kI k 5 c_seens)] H := hP
    have hD : va_D A [(y, kO 9 [.int 0, .int 0, y_tape, .int y_size, .int y_place, .int y_begin, .int y_token, .long y_word, .int y_told, .int y_wrong, .ref b_supper, y_guestName, y_kind, y_offTold, y_pace, y_cooks, y_snow, y_lineFrom, y_lineTo, y_codes, .int y_code, .int y_toldLines, y_opened, y_compared, y_kept, y_keptBy, y_ahead, y_against, y_sum, y_sumBy, y_term, y_termBy, y_byNot, y_valueOf, .int y_given, .ref b_lines, y_lineWhat, y_lineA, y_lineB, .ref b_seens, y_seenIn, y_seenYards, y_seenNear, .ref b_s, y_aside, y_before, y_marked, y_undone, y_isLaid, .int 0, .int y_snowNow, .int y_cameNow, .int y_cookThen, .int y_tasteThen, y_places, y_comesAt, y_yardsIn, .long y_g]), (b_supper, kI k 8 c_supper), (b_s, kI k 46 c_s), (b_lines, kI k 6 c_lines), (b_seens, kI k 5 c_seens)] := hD
    refine lv_iload_n hx hb dX9_count_5 rfl (lv_at hl 1 rfl) ?_
    refine lv_iconst (v := 0) hx hb dX9_count_6 (by decide) ?_
    refine lv_bipush (v := 12) hx hb dX9_count_7 (by decide) ?_
    refine kz_Si (As := [.int 2, .int 0, .int 12]) (rest := []) (wc := []) (wr := [(y, kO 9 [.int 0, .int 0, y_tape, .int y_size, .int y_place, .int y_begin, .int y_token, .long y_word, .int y_told, .int y_wrong, .ref b_supper, y_guestName, y_kind, y_offTold, y_pace, y_cooks, y_snow, y_lineFrom, y_lineTo, y_codes, .int y_code, .int y_toldLines, y_opened, y_compared, y_kept, y_keptBy, y_ahead, y_against, y_sum, y_sumBy, y_term, y_termBy, y_byNot, y_valueOf, .int y_given, .ref b_lines, y_lineWhat, y_lineA, y_lineB, .ref b_seens, y_seenIn, y_seenYards, y_seenNear, .ref b_s, y_aside, y_before, y_marked, y_undone, y_isLaid, .int 0, .int y_snowNow, .int y_cameNow, .int y_cookThen, .int y_tasteThen, y_places, y_comesAt, y_yardsIn, .long y_g]), (b_supper, kI k 8 c_supper), (b_s, kI k 46 c_s), (b_lines, kI k 6 c_lines), (b_seens, kI k 5 c_seens)]) ⟨hx, hb, hml, hown, hts⟩ hK hE hP hD hS hA (mX9_within l D k H.size 2 0 12) (va_cwS 3 hts gX9_count_X9_within rfl rfl rfl (by decide +kernel) (by rw [hR]; exact ⟨Nat.le_of_ble_eq_true rfl, Nat.le_of_ble_eq_true rfl⟩)) [] [0, 1, 2, 3, 4] rfl rfl (by decide) (by decide) (by decide) rfl hl.1 rfl (Nat.le_of_ble_eq_true rfl) dX9_count_9 (by rw [hR]; exact ⟨Nat.le_of_ble_eq_true rfl, Nat.le_of_ble_eq_true rfl⟩) (fun r9 u9 H locs hw9 hP hD hS => ?_)
    try dsimp only at hw9
    obtain rfl : r9 = bz (0 ≤ 2 ∧ 2 ≤ 12) := hw9
    have hP : va_P D vwCl [(y, kO 9 [.int 0, .int 0, y_tape, .int y_size, .int y_place, .int y_begin, .int y_token, .long y_word, .int y_told, .int y_wrong, .ref b_supper, y_guestName, y_kind, y_offTold, y_pace, y_cooks, y_snow, y_lineFrom, y_lineTo, y_codes, .int y_code, .int y_toldLines, y_opened, y_compared, y_kept, y_keptBy, y_ahead, y_against, y_sum, y_sumBy, y_term, y_termBy, y_byNot, y_valueOf, .int y_given, .ref b_lines, y_lineWhat, y_lineA, y_lineB, .ref b_seens, y_seenIn, y_seenYards, y_seenNear, .ref b_s, y_aside, y_before, y_marked, y_undone, y_isLaid, .int 0, .int y_snowNow, .int y_cameNow, .int y_cookThen, .int y_tasteThen, y_places, y_comesAt, y_yardsIn, .long y_g]), (b_supper, kI k 8 c_supper), (b_s, kI k 46 c_s), (b_lines, kI k 6 c_lines), (b_seens, kI k 5 c_seens)] H := hP
    have hD : va_D A [(y, kO 9 [.int 0, .int 0, y_tape, .int y_size, .int y_place, .int y_begin, .int y_token, .long y_word, .int y_told, .int y_wrong, .ref b_supper, y_guestName, y_kind, y_offTold, y_pace, y_cooks, y_snow, y_lineFrom, y_lineTo, y_codes, .int y_code, .int y_toldLines, y_opened, y_compared, y_kept, y_keptBy, y_ahead, y_against, y_sum, y_sumBy, y_term, y_termBy, y_byNot, y_valueOf, .int y_given, .ref b_lines, y_lineWhat, y_lineA, y_lineB, .ref b_seens, y_seenIn, y_seenYards, y_seenNear, .ref b_s, y_aside, y_before, y_marked, y_undone, y_isLaid, .int 0, .int y_snowNow, .int y_cameNow, .int y_cookThen, .int y_tasteThen, y_places, y_comesAt, y_yardsIn, .long y_g]), (b_supper, kI k 8 c_supper), (b_s, kI k 46 c_s), (b_lines, kI k 6 c_lines), (b_seens, kI k 5 c_seens)] := hD
    refine lv_if_ne (tgt := 19) hx hb dX9_count_12 (by decide) (fun c_10 => ?_) (fun c_10 => absurd c_10 (by decide))
    refine lv_iload_n hx hb dX9_count_19 rfl (lv_at hl 1 rfl) ?_
    refine lv_iconst (v := 3) hx hb dX9_count_20 (by decide) ?_
    refine lv_icmp_ge (tgt := 31) hx hb dX9_count_21 (by decide) (fun c_11 => absurd c_11 (by decide)) (fun c_11 => ?_)
    refine lv_aload_n hx hb dX9_count_24 rfl (lv_at hl 0 rfl) ?_
    refine va_get (D := D) (ci := 9) (v := .ref b_supper) (C := RX9) (T := TX9) (N := 58) hx hb hts hi9 hown hK hP 0 rfl rfl 10 (by decide) lf13 (fun _ h9 => h9) rfl dX9_count_25 ?_
    refine lv_iload_n hx hb dX9_count_28 rfl (lv_at hl 1 rfl) ?_
    refine va_iald hx hb hK hP 1 0 rfl rfl (vp_in_iff.mpr (by decide)) dX9_count_29 ?_
    refine lv_topi (fun x12 ex12 => ?_)
    obtain rfl : x12 = 30 := ex12.trans (show _ = _ from hs2)
    rw [hQ]
    have hP9 := hP.sub (ws' := []) [] rfl
    have hD9 := hD.sub (ws' := []) [] (by decide) rfl
    exact W.iret (v := 30) hx hb hr (fun zt ht hW => ⟨⟨30, (), rfl, (by decide), by rw [ht]; exact hP9, hD9⟩, hS.F ht⟩) hS.2.2 dX9_count_30
  by_cases w0_3 : q = 3
  · subst w0_3
    refine lv_aload_n hx hb dX9_count_0 rfl (lv_at hl 0 rfl) ?_
    refine lv_iconst (v := 0) hx hb dX9_count_1 (by decide) ?_
    refine va_put (D := D) (ci := 9) (v := .int 0) (ty := .int) (C := RX9) (T := TX9) (N := 58) hx hb hts hi9 tyX9 tyX9_ok nmX9 hown hK hP hD hS 0 rfl rfl 0 (by decide) lf143 (fun _ h9 => h9) rfl (by decide +kernel) rfl rfl (Nat.le_of_ble_eq_true rfl) dX9_count_2 (fun H locs hP hD hS => ?_)
    have hP : va_P D vwCl [(y, kO 9 [.int 0, .int 0, y_tape, .int y_size, .int y_place, .int y_begin, .int y_token, .long y_word, .int y_told, .int y_wrong, .ref b_supper, y_guestName, y_kind, y_offTold, y_pace, y_cooks, y_snow, y_lineFrom, y_lineTo, y_codes, .int y_code, .int y_toldLines, y_opened, y_compared, y_kept, y_keptBy, y_ahead, y_against, y_sum, y_sumBy, y_term, y_termBy, y_byNot, y_valueOf, .int y_given, .ref b_lines, y_lineWhat, y_lineA, y_lineB, .ref b_seens, y_seenIn, y_seenYards, y_seenNear, .ref b_s, y_aside, y_before, y_marked, y_undone, y_isLaid, .int 0, .int y_snowNow, .int y_cameNow, .int y_cookThen, .int y_tasteThen, y_places, y_comesAt, y_yardsIn, .long y_g]), (b_supper, kI k 8 c_supper), (b_s, kI k 46 c_s), (b_lines, kI k 6 c_lines), (b_seens, kI k 5 c_seens)] H := hP
    have hD : va_D A [(y, kO 9 [.int 0, .int 0, y_tape, .int y_size, .int y_place, .int y_begin, .int y_token, .long y_word, .int y_told, .int y_wrong, .ref b_supper, y_guestName, y_kind, y_offTold, y_pace, y_cooks, y_snow, y_lineFrom, y_lineTo, y_codes, .int y_code, .int y_toldLines, y_opened, y_compared, y_kept, y_keptBy, y_ahead, y_against, y_sum, y_sumBy, y_term, y_termBy, y_byNot, y_valueOf, .int y_given, .ref b_lines, y_lineWhat, y_lineA, y_lineB, .ref b_seens, y_seenIn, y_seenYards, y_seenNear, .ref b_s, y_aside, y_before, y_marked, y_undone, y_isLaid, .int 0, .int y_snowNow, .int y_cameNow, .int y_cookThen, .int y_tasteThen, y_places, y_comesAt, y_yardsIn, .long y_g]), (b_supper, kI k 8 c_supper), (b_s, kI k 46 c_s), (b_lines, kI k 6 c_lines), (b_seens, kI k 5 c_seens)] := hD
    refine lv_iload_n hx hb dX9_count_5 rfl (lv_at hl 1 rfl) ?_
    refine lv_iconst (v := 0) hx hb dX9_count_6 (by decide) ?_
    refine lv_bipush (v := 12) hx hb dX9_count_7 (by decide) ?_
    refine kz_Si (As := [.int 3, .int 0, .int 12]) (rest := []) (wc := []) (wr := [(y, kO 9 [.int 0, .int 0, y_tape, .int y_size, .int y_place, .int y_begin, .int y_token, .long y_word, .int y_told, .int y_wrong, .ref b_supper, y_guestName, y_kind, y_offTold, y_pace, y_cooks, y_snow, y_lineFrom, y_lineTo, y_codes, .int y_code, .int y_toldLines, y_opened, y_compared, y_kept, y_keptBy, y_ahead, y_against, y_sum, y_sumBy, y_term, y_termBy, y_byNot, y_valueOf, .int y_given, .ref b_lines, y_lineWhat, y_lineA, y_lineB, .ref b_seens, y_seenIn, y_seenYards, y_seenNear, .ref b_s, y_aside, y_before, y_marked, y_undone, y_isLaid, .int 0, .int y_snowNow, .int y_cameNow, .int y_cookThen, .int y_tasteThen, y_places, y_comesAt, y_yardsIn, .long y_g]), (b_supper, kI k 8 c_supper), (b_s, kI k 46 c_s), (b_lines, kI k 6 c_lines), (b_seens, kI k 5 c_seens)]) ⟨hx, hb, hml, hown, hts⟩ hK hE hP hD hS hA (mX9_within l D k H.size 3 0 12) (va_cwS 3 hts gX9_count_X9_within rfl rfl rfl (by decide +kernel) (by rw [hR]; exact ⟨Nat.le_of_ble_eq_true rfl, Nat.le_of_ble_eq_true rfl⟩)) [] [0, 1, 2, 3, 4] rfl rfl (by decide) (by decide) (by decide) rfl hl.1 rfl (Nat.le_of_ble_eq_true rfl) dX9_count_9 (by rw [hR]; exact ⟨Nat.le_of_ble_eq_true rfl, Nat.le_of_ble_eq_true rfl⟩) (fun r13 u13 H locs hw13 hP hD hS => ?_)
    try dsimp only at hw13
    obtain rfl : r13 = bz (0 ≤ 3 ∧ 3 ≤ 12) := hw13
    have hP : va_P D vwCl [(y, kO 9 [.int 0, .int 0, y_tape, .int y_size, .int y_place, .int y_begin, .int y_token, .long y_word, .int y_told, .int y_wrong, .ref b_supper, y_guestName, y_kind, y_offTold, y_pace, y_cooks, y_snow, y_lineFrom, y_lineTo, y_codes, .int y_code, .int y_toldLines, y_opened, y_compared, y_kept, y_keptBy, y_ahead, y_against, y_sum, y_sumBy, y_term, y_termBy, y_byNot, y_valueOf, .int y_given, .ref b_lines, y_lineWhat, y_lineA, y_lineB, .ref b_seens, y_seenIn, y_seenYards, y_seenNear, .ref b_s, y_aside, y_before, y_marked, y_undone, y_isLaid, .int 0, .int y_snowNow, .int y_cameNow, .int y_cookThen, .int y_tasteThen, y_places, y_comesAt, y_yardsIn, .long y_g]), (b_supper, kI k 8 c_supper), (b_s, kI k 46 c_s), (b_lines, kI k 6 c_lines), (b_seens, kI k 5 c_seens)] H := hP
    have hD : va_D A [(y, kO 9 [.int 0, .int 0, y_tape, .int y_size, .int y_place, .int y_begin, .int y_token, .long y_word, .int y_told, .int y_wrong, .ref b_supper, y_guestName, y_kind, y_offTold, y_pace, y_cooks, y_snow, y_lineFrom, y_lineTo, y_codes, .int y_code, .int y_toldLines, y_opened, y_compared, y_kept, y_keptBy, y_ahead, y_against, y_sum, y_sumBy, y_term, y_termBy, y_byNot, y_valueOf, .int y_given, .ref b_lines, y_lineWhat, y_lineA, y_lineB, .ref b_seens, y_seenIn, y_seenYards, y_seenNear, .ref b_s, y_aside, y_before, y_marked, y_undone, y_isLaid, .int 0, .int y_snowNow, .int y_cameNow, .int y_cookThen, .int y_tasteThen, y_places, y_comesAt, y_yardsIn, .long y_g]), (b_supper, kI k 8 c_supper), (b_s, kI k 46 c_s), (b_lines, kI k 6 c_lines), (b_seens, kI k 5 c_seens)] := hD
    refine lv_if_ne (tgt := 19) hx hb dX9_count_12 (by decide) (fun c_14 => ?_) (fun c_14 => absurd c_14 (by decide))
    refine lv_iload_n hx hb dX9_count_19 rfl (lv_at hl 1 rfl) ?_
    refine lv_iconst (v := 3) hx hb dX9_count_20 (by decide) ?_
    refine lv_icmp_ge (tgt := 31) hx hb dX9_count_21 (by decide) (fun c_15 => ?_) (fun c_15 => absurd (by decide) c_15)
    refine lv_iload_n hx hb dX9_count_31 rfl (lv_at hl 1 rfl) ?_
    refine lv_bipush (v := 6) hx hb dX9_count_32 (by decide) ?_
    refine lv_icmp_ge (tgt := 76) hx hb dX9_count_34 (by decide) (fun c_16 => absurd c_16 (by decide)) (fun c_16 => ?_)
    refine lv_iload_n hx hb dX9_count_37 rfl (lv_at hl 1 rfl) ?_
    refine lv_iconst (v := 3) hx hb dX9_count_38 (by decide) ?_
    refine lv_icmp_ne (tgt := 51) hx hb dX9_count_39 (by decide) (fun c_17 => absurd (by decide) c_17) (fun c_17 => ?_)
    refine lv_aload_n hx hb dX9_count_42 rfl (lv_at hl 0 rfl) ?_
    refine va_get (D := D) (ci := 9) (v := .ref b_s) (C := RX9) (T := TX9) (N := 58) hx hb hts hi9 hown hK hP 0 rfl rfl 43 (by decide) lf105 (fun _ h9 => h9) rfl dX9_count_43 ?_
    refine lv_iconst (v := 0) hx hb dX9_count_46 (by decide) ?_
    refine va_iald hx hb hK hP 2 0 rfl rfl (vp_in_iff.mpr (by decide)) dX9_count_47 ?_
    refine lv_topi (fun x18 ex18 => ?_)
    obtain rfl : x18 = 0 := ex18.trans (show _ = _ from hz0)
    refine lv_goto (tgt := 75) hx hb dX9_count_48 (by decide) ?_
    rw [hQ]
    have hP9 := hP.sub (ws' := []) [] rfl
    have hD9 := hD.sub (ws' := []) [] (by decide) rfl
    exact W.iret (v := 0) hx hb hr (fun zt ht hW => ⟨⟨0, (), rfl, (by decide), by rw [ht]; exact hP9, hD9⟩, hS.F ht⟩) hS.2.2 dX9_count_75
  by_cases w0_4 : q = 4
  · subst w0_4
    refine lv_aload_n hx hb dX9_count_0 rfl (lv_at hl 0 rfl) ?_
    refine lv_iconst (v := 0) hx hb dX9_count_1 (by decide) ?_
    refine va_put (D := D) (ci := 9) (v := .int 0) (ty := .int) (C := RX9) (T := TX9) (N := 58) hx hb hts hi9 tyX9 tyX9_ok nmX9 hown hK hP hD hS 0 rfl rfl 0 (by decide) lf143 (fun _ h9 => h9) rfl (by decide +kernel) rfl rfl (Nat.le_of_ble_eq_true rfl) dX9_count_2 (fun H locs hP hD hS => ?_)
    have hP : va_P D vwCl [(y, kO 9 [.int 0, .int 0, y_tape, .int y_size, .int y_place, .int y_begin, .int y_token, .long y_word, .int y_told, .int y_wrong, .ref b_supper, y_guestName, y_kind, y_offTold, y_pace, y_cooks, y_snow, y_lineFrom, y_lineTo, y_codes, .int y_code, .int y_toldLines, y_opened, y_compared, y_kept, y_keptBy, y_ahead, y_against, y_sum, y_sumBy, y_term, y_termBy, y_byNot, y_valueOf, .int y_given, .ref b_lines, y_lineWhat, y_lineA, y_lineB, .ref b_seens, y_seenIn, y_seenYards, y_seenNear, .ref b_s, y_aside, y_before, y_marked, y_undone, y_isLaid, .int 0, .int y_snowNow, .int y_cameNow, .int y_cookThen, .int y_tasteThen, y_places, y_comesAt, y_yardsIn, .long y_g]), (b_supper, kI k 8 c_supper), (b_s, kI k 46 c_s), (b_lines, kI k 6 c_lines), (b_seens, kI k 5 c_seens)] H := hP
    have hD : va_D A [(y, kO 9 [.int 0, .int 0, y_tape, .int y_size, .int y_place, .int y_begin, .int y_token, .long y_word, .int y_told, .int y_wrong, .ref b_supper, y_guestName, y_kind, y_offTold, y_pace, y_cooks, y_snow, y_lineFrom, y_lineTo, y_codes, .int y_code, .int y_toldLines, y_opened, y_compared, y_kept, y_keptBy, y_ahead, y_against, y_sum, y_sumBy, y_term, y_termBy, y_byNot, y_valueOf, .int y_given, .ref b_lines, y_lineWhat, y_lineA, y_lineB, .ref b_seens, y_seenIn, y_seenYards, y_seenNear, .ref b_s, y_aside, y_before, y_marked, y_undone, y_isLaid, .int 0, .int y_snowNow, .int y_cameNow, .int y_cookThen, .int y_tasteThen, y_places, y_comesAt, y_yardsIn, .long y_g]), (b_supper, kI k 8 c_supper), (b_s, kI k 46 c_s), (b_lines, kI k 6 c_lines), (b_seens, kI k 5 c_seens)] := hD
    refine lv_iload_n hx hb dX9_count_5 rfl (lv_at hl 1 rfl) ?_
    refine lv_iconst (v := 0) hx hb dX9_count_6 (by decide) ?_
    refine lv_bipush (v := 12) hx hb dX9_count_7 (by decide) ?_
    refine kz_Si (As := [.int 4, .int 0, .int 12]) (rest := []) (wc := []) (wr := [(y, kO 9 [.int 0, .int 0, y_tape, .int y_size, .int y_place, .int y_begin, .int y_token, .long y_word, .int y_told, .int y_wrong, .ref b_supper, y_guestName, y_kind, y_offTold, y_pace, y_cooks, y_snow, y_lineFrom, y_lineTo, y_codes, .int y_code, .int y_toldLines, y_opened, y_compared, y_kept, y_keptBy, y_ahead, y_against, y_sum, y_sumBy, y_term, y_termBy, y_byNot, y_valueOf, .int y_given, .ref b_lines, y_lineWhat, y_lineA, y_lineB, .ref b_seens, y_seenIn, y_seenYards, y_seenNear, .ref b_s, y_aside, y_before, y_marked, y_undone, y_isLaid, .int 0, .int y_snowNow, .int y_cameNow, .int y_cookThen, .int y_tasteThen, y_places, y_comesAt, y_yardsIn, .long y_g]), (b_supper, kI k 8 c_supper), (b_s, kI k 46 c_s), (b_lines, kI k 6 c_lines), (b_seens, kI k 5 c_seens)]) ⟨hx, hb, hml, hown, hts⟩ hK hE hP hD hS hA (mX9_within l D k H.size 4 0 12) (va_cwS 3 hts gX9_count_X9_within rfl rfl rfl (by decide +kernel) (by rw [hR]; exact ⟨Nat.le_of_ble_eq_true rfl, Nat.le_of_ble_eq_true rfl⟩)) [] [0, 1, 2, 3, 4] rfl rfl (by decide) (by decide) (by decide) rfl hl.1 rfl (Nat.le_of_ble_eq_true rfl) dX9_count_9 (by rw [hR]; exact ⟨Nat.le_of_ble_eq_true rfl, Nat.le_of_ble_eq_true rfl⟩) (fun r19 u19 H locs hw19 hP hD hS => ?_)
    try dsimp only at hw19
    obtain rfl : r19 = bz (0 ≤ 4 ∧ 4 ≤ 12) := hw19
    have hP : va_P D vwCl [(y, kO 9 [.int 0, .int 0, y_tape, .int y_size, .int y_place, .int y_begin, .int y_token, .long y_word, .int y_told, .int y_wrong, .ref b_supper, y_guestName, y_kind, y_offTold, y_pace, y_cooks, y_snow, y_lineFrom, y_lineTo, y_codes, .int y_code, .int y_toldLines, y_opened, y_compared, y_kept, y_keptBy, y_ahead, y_against, y_sum, y_sumBy, y_term, y_termBy, y_byNot, y_valueOf, .int y_given, .ref b_lines, y_lineWhat, y_lineA, y_lineB, .ref b_seens, y_seenIn, y_seenYards, y_seenNear, .ref b_s, y_aside, y_before, y_marked, y_undone, y_isLaid, .int 0, .int y_snowNow, .int y_cameNow, .int y_cookThen, .int y_tasteThen, y_places, y_comesAt, y_yardsIn, .long y_g]), (b_supper, kI k 8 c_supper), (b_s, kI k 46 c_s), (b_lines, kI k 6 c_lines), (b_seens, kI k 5 c_seens)] H := hP
    have hD : va_D A [(y, kO 9 [.int 0, .int 0, y_tape, .int y_size, .int y_place, .int y_begin, .int y_token, .long y_word, .int y_told, .int y_wrong, .ref b_supper, y_guestName, y_kind, y_offTold, y_pace, y_cooks, y_snow, y_lineFrom, y_lineTo, y_codes, .int y_code, .int y_toldLines, y_opened, y_compared, y_kept, y_keptBy, y_ahead, y_against, y_sum, y_sumBy, y_term, y_termBy, y_byNot, y_valueOf, .int y_given, .ref b_lines, y_lineWhat, y_lineA, y_lineB, .ref b_seens, y_seenIn, y_seenYards, y_seenNear, .ref b_s, y_aside, y_before, y_marked, y_undone, y_isLaid, .int 0, .int y_snowNow, .int y_cameNow, .int y_cookThen, .int y_tasteThen, y_places, y_comesAt, y_yardsIn, .long y_g]), (b_supper, kI k 8 c_supper), (b_s, kI k 46 c_s), (b_lines, kI k 6 c_lines), (b_seens, kI k 5 c_seens)] := hD
    refine lv_if_ne (tgt := 19) hx hb dX9_count_12 (by decide) (fun c_20 => ?_) (fun c_20 => absurd c_20 (by decide))
    refine lv_iload_n hx hb dX9_count_19 rfl (lv_at hl 1 rfl) ?_
    refine lv_iconst (v := 3) hx hb dX9_count_20 (by decide) ?_
    refine lv_icmp_ge (tgt := 31) hx hb dX9_count_21 (by decide) (fun c_21 => ?_) (fun c_21 => absurd (by decide) c_21)
    refine lv_iload_n hx hb dX9_count_31 rfl (lv_at hl 1 rfl) ?_
    refine lv_bipush (v := 6) hx hb dX9_count_32 (by decide) ?_
    refine lv_icmp_ge (tgt := 76) hx hb dX9_count_34 (by decide) (fun c_22 => absurd c_22 (by decide)) (fun c_22 => ?_)
    refine lv_iload_n hx hb dX9_count_37 rfl (lv_at hl 1 rfl) ?_
    refine lv_iconst (v := 3) hx hb dX9_count_38 (by decide) ?_
    refine lv_icmp_ne (tgt := 51) hx hb dX9_count_39 (by decide) (fun c_23 => ?_) (fun c_23 => absurd c_23 (by decide))
    refine lv_iload_n hx hb dX9_count_51 rfl (lv_at hl 1 rfl) ?_
    refine lv_iconst (v := 4) hx hb dX9_count_52 (by decide) ?_
    refine lv_icmp_ne (tgt := 65) hx hb dX9_count_53 (by decide) (fun c_24 => absurd (by decide) c_24) (fun c_24 => ?_)
    refine lv_aload_n hx hb dX9_count_56 rfl (lv_at hl 0 rfl) ?_
    refine va_get (D := D) (ci := 9) (v := .ref b_s) (C := RX9) (T := TX9) (N := 58) hx hb hts hi9 hown hK hP 0 rfl rfl 43 (by decide) lf105 (fun _ h9 => h9) rfl dX9_count_57 ?_
    refine lv_iconst (v := 1) hx hb dX9_count_60 (by decide) ?_
    refine va_iald hx hb hK hP 2 0 rfl rfl (vp_in_iff.mpr (by decide)) dX9_count_61 ?_
    refine lv_topi (fun x25 ex25 => ?_)
    obtain rfl : x25 = 0 := ex25.trans (show _ = _ from hz1)
    refine lv_goto (tgt := 75) hx hb dX9_count_62 (by decide) ?_
    rw [hQ]
    have hP9 := hP.sub (ws' := []) [] rfl
    have hD9 := hD.sub (ws' := []) [] (by decide) rfl
    exact W.iret (v := 0) hx hb hr (fun zt ht hW => ⟨⟨0, (), rfl, (by decide), by rw [ht]; exact hP9, hD9⟩, hS.F ht⟩) hS.2.2 dX9_count_75
  by_cases w0_5 : q = 5
  · subst w0_5
    refine lv_aload_n hx hb dX9_count_0 rfl (lv_at hl 0 rfl) ?_
    refine lv_iconst (v := 0) hx hb dX9_count_1 (by decide) ?_
    refine va_put (D := D) (ci := 9) (v := .int 0) (ty := .int) (C := RX9) (T := TX9) (N := 58) hx hb hts hi9 tyX9 tyX9_ok nmX9 hown hK hP hD hS 0 rfl rfl 0 (by decide) lf143 (fun _ h9 => h9) rfl (by decide +kernel) rfl rfl (Nat.le_of_ble_eq_true rfl) dX9_count_2 (fun H locs hP hD hS => ?_)
    have hP : va_P D vwCl [(y, kO 9 [.int 0, .int 0, y_tape, .int y_size, .int y_place, .int y_begin, .int y_token, .long y_word, .int y_told, .int y_wrong, .ref b_supper, y_guestName, y_kind, y_offTold, y_pace, y_cooks, y_snow, y_lineFrom, y_lineTo, y_codes, .int y_code, .int y_toldLines, y_opened, y_compared, y_kept, y_keptBy, y_ahead, y_against, y_sum, y_sumBy, y_term, y_termBy, y_byNot, y_valueOf, .int y_given, .ref b_lines, y_lineWhat, y_lineA, y_lineB, .ref b_seens, y_seenIn, y_seenYards, y_seenNear, .ref b_s, y_aside, y_before, y_marked, y_undone, y_isLaid, .int 0, .int y_snowNow, .int y_cameNow, .int y_cookThen, .int y_tasteThen, y_places, y_comesAt, y_yardsIn, .long y_g]), (b_supper, kI k 8 c_supper), (b_s, kI k 46 c_s), (b_lines, kI k 6 c_lines), (b_seens, kI k 5 c_seens)] H := hP
    have hD : va_D A [(y, kO 9 [.int 0, .int 0, y_tape, .int y_size, .int y_place, .int y_begin, .int y_token, .long y_word, .int y_told, .int y_wrong, .ref b_supper, y_guestName, y_kind, y_offTold, y_pace, y_cooks, y_snow, y_lineFrom, y_lineTo, y_codes, .int y_code, .int y_toldLines, y_opened, y_compared, y_kept, y_keptBy, y_ahead, y_against, y_sum, y_sumBy, y_term, y_termBy, y_byNot, y_valueOf, .int y_given, .ref b_lines, y_lineWhat, y_lineA, y_lineB, .ref b_seens, y_seenIn, y_seenYards, y_seenNear, .ref b_s, y_aside, y_before, y_marked, y_undone, y_isLaid, .int 0, .int y_snowNow, .int y_cameNow, .int y_cookThen, .int y_tasteThen, y_places, y_comesAt, y_yardsIn, .long y_g]), (b_supper, kI k 8 c_supper), (b_s, kI k 46 c_s), (b_lines, kI k 6 c_lines), (b_seens, kI k 5 c_seens)] := hD
    refine lv_iload_n hx hb dX9_count_5 rfl (lv_at hl 1 rfl) ?_
    refine lv_iconst (v := 0) hx hb dX9_count_6 (by decide) ?_
    refine lv_bipush (v := 12) hx hb dX9_count_7 (by decide) ?_
    refine kz_Si (As := [.int 5, .int 0, .int 12]) (rest := []) (wc := []) (wr := [(y, kO 9 [.int 0, .int 0, y_tape, .int y_size, .int y_place, .int y_begin, .int y_token, .long y_word, .int y_told, .int y_wrong, .ref b_supper, y_guestName, y_kind, y_offTold, y_pace, y_cooks, y_snow, y_lineFrom, y_lineTo, y_codes, .int y_code, .int y_toldLines, y_opened, y_compared, y_kept, y_keptBy, y_ahead, y_against, y_sum, y_sumBy, y_term, y_termBy, y_byNot, y_valueOf, .int y_given, .ref b_lines, y_lineWhat, y_lineA, y_lineB, .ref b_seens, y_seenIn, y_seenYards, y_seenNear, .ref b_s, y_aside, y_before, y_marked, y_undone, y_isLaid, .int 0, .int y_snowNow, .int y_cameNow, .int y_cookThen, .int y_tasteThen, y_places, y_comesAt, y_yardsIn, .long y_g]), (b_supper, kI k 8 c_supper), (b_s, kI k 46 c_s), (b_lines, kI k 6 c_lines), (b_seens, kI k 5 c_seens)]) ⟨hx, hb, hml, hown, hts⟩ hK hE hP hD hS hA (mX9_within l D k H.size 5 0 12) (va_cwS 3 hts gX9_count_X9_within rfl rfl rfl (by decide +kernel) (by rw [hR]; exact ⟨Nat.le_of_ble_eq_true rfl, Nat.le_of_ble_eq_true rfl⟩)) [] [0, 1, 2, 3, 4] rfl rfl (by decide) (by decide) (by decide) rfl hl.1 rfl (Nat.le_of_ble_eq_true rfl) dX9_count_9 (by rw [hR]; exact ⟨Nat.le_of_ble_eq_true rfl, Nat.le_of_ble_eq_true rfl⟩) (fun r26 u26 H locs hw26 hP hD hS => ?_)
    try dsimp only at hw26
    obtain rfl : r26 = bz (0 ≤ 5 ∧ 5 ≤ 12) := hw26
    have hP : va_P D vwCl [(y, kO 9 [.int 0, .int 0, y_tape, .int y_size, .int y_place, .int y_begin, .int y_token, .long y_word, .int y_told, .int y_wrong, .ref b_supper, y_guestName, y_kind, y_offTold, y_pace, y_cooks, y_snow, y_lineFrom, y_lineTo, y_codes, .int y_code, .int y_toldLines, y_opened, y_compared, y_kept, y_keptBy, y_ahead, y_against, y_sum, y_sumBy, y_term, y_termBy, y_byNot, y_valueOf, .int y_given, .ref b_lines, y_lineWhat, y_lineA, y_lineB, .ref b_seens, y_seenIn, y_seenYards, y_seenNear, .ref b_s, y_aside, y_before, y_marked, y_undone, y_isLaid, .int 0, .int y_snowNow, .int y_cameNow, .int y_cookThen, .int y_tasteThen, y_places, y_comesAt, y_yardsIn, .long y_g]), (b_supper, kI k 8 c_supper), (b_s, kI k 46 c_s), (b_lines, kI k 6 c_lines), (b_seens, kI k 5 c_seens)] H := hP
    have hD : va_D A [(y, kO 9 [.int 0, .int 0, y_tape, .int y_size, .int y_place, .int y_begin, .int y_token, .long y_word, .int y_told, .int y_wrong, .ref b_supper, y_guestName, y_kind, y_offTold, y_pace, y_cooks, y_snow, y_lineFrom, y_lineTo, y_codes, .int y_code, .int y_toldLines, y_opened, y_compared, y_kept, y_keptBy, y_ahead, y_against, y_sum, y_sumBy, y_term, y_termBy, y_byNot, y_valueOf, .int y_given, .ref b_lines, y_lineWhat, y_lineA, y_lineB, .ref b_seens, y_seenIn, y_seenYards, y_seenNear, .ref b_s, y_aside, y_before, y_marked, y_undone, y_isLaid, .int 0, .int y_snowNow, .int y_cameNow, .int y_cookThen, .int y_tasteThen, y_places, y_comesAt, y_yardsIn, .long y_g]), (b_supper, kI k 8 c_supper), (b_s, kI k 46 c_s), (b_lines, kI k 6 c_lines), (b_seens, kI k 5 c_seens)] := hD
    refine lv_if_ne (tgt := 19) hx hb dX9_count_12 (by decide) (fun c_27 => ?_) (fun c_27 => absurd c_27 (by decide))
    refine lv_iload_n hx hb dX9_count_19 rfl (lv_at hl 1 rfl) ?_
    refine lv_iconst (v := 3) hx hb dX9_count_20 (by decide) ?_
    refine lv_icmp_ge (tgt := 31) hx hb dX9_count_21 (by decide) (fun c_28 => ?_) (fun c_28 => absurd (by decide) c_28)
    refine lv_iload_n hx hb dX9_count_31 rfl (lv_at hl 1 rfl) ?_
    refine lv_bipush (v := 6) hx hb dX9_count_32 (by decide) ?_
    refine lv_icmp_ge (tgt := 76) hx hb dX9_count_34 (by decide) (fun c_29 => absurd c_29 (by decide)) (fun c_29 => ?_)
    refine lv_iload_n hx hb dX9_count_37 rfl (lv_at hl 1 rfl) ?_
    refine lv_iconst (v := 3) hx hb dX9_count_38 (by decide) ?_
    refine lv_icmp_ne (tgt := 51) hx hb dX9_count_39 (by decide) (fun c_30 => ?_) (fun c_30 => absurd c_30 (by decide))
    refine lv_iload_n hx hb dX9_count_51 rfl (lv_at hl 1 rfl) ?_
    refine lv_iconst (v := 4) hx hb dX9_count_52 (by decide) ?_
    refine lv_icmp_ne (tgt := 65) hx hb dX9_count_53 (by decide) (fun c_31 => ?_) (fun c_31 => absurd c_31 (by decide))
    refine lv_aload_n hx hb dX9_count_65 rfl (lv_at hl 0 rfl) ?_
    refine lv_aload_n hx hb dX9_count_66 rfl (lv_at hl 0 rfl) ?_
    refine va_get (D := D) (ci := 9) (v := .ref b_s) (C := RX9) (T := TX9) (N := 58) hx hb hts hi9 hown hK hP 0 rfl rfl 43 (by decide) lf105 (fun _ h9 => h9) rfl dX9_count_67 ?_
    refine lv_iconst (v := 1) hx hb dX9_count_70 (by decide) ?_
    refine va_iald hx hb hK hP 2 0 rfl rfl (vp_in_iff.mpr (by decide)) dX9_count_71 ?_
    refine lv_topi (fun x32 ex32 => ?_)
    obtain rfl : x32 = 0 := ex32.trans (show _ = _ from hz1)
    refine kz_Vi (As := [.int 0]) (rest := []) (wc := [(y, kO 9 [.int 0, .int 0, y_tape, .int y_size, .int y_place, .int y_begin, .int y_token, .long y_word, .int y_told, .int y_wrong, .ref b_supper, y_guestName, y_kind, y_offTold, y_pace, y_cooks, y_snow, y_lineFrom, y_lineTo, y_codes, .int y_code, .int y_toldLines, y_opened, y_compared, y_kept, y_keptBy, y_ahead, y_against, y_sum, y_sumBy, y_term, y_termBy, y_byNot, y_valueOf, .int y_given, .ref b_lines, y_lineWhat, y_lineA, y_lineB, .ref b_seens, y_seenIn, y_seenYards, y_seenNear, .ref b_s, y_aside, y_before, y_marked, y_undone, y_isLaid, .int 0, .int y_snowNow, .int y_cameNow, .int y_cookThen, .int y_tasteThen, y_places, y_comesAt, y_yardsIn, .long y_g]), (b_supper, kI k 8 c_supper)]) (wr := [(b_s, kI k 46 c_s), (b_lines, kI k 6 c_lines), (b_seens, kI k 5 c_seens)]) ⟨hx, hb, hml, hown, hts⟩ hK hE hP hD hS hA (mX9_snowOf l D k H.size y 0 0 0 y_tape y_size y_place y_begin y_token y_word y_told y_wrong b_supper y_guestName y_kind y_offTold y_pace y_cooks y_snow y_lineFrom y_lineTo y_codes y_code y_toldLines y_opened y_compared y_kept y_keptBy y_ahead y_against y_sum y_sumBy y_term y_termBy y_byNot y_valueOf y_given (.ref b_lines) y_lineWhat y_lineA y_lineB (.ref b_seens) y_seenIn y_seenYards y_seenNear (.ref b_s) y_aside y_before y_marked y_undone y_isLaid 0 y_snowNow y_cameNow y_cookThen y_tasteThen y_places y_comesAt y_yardsIn y_g c_supper hs3) (cwV 1 hts gX9_count_X9_snowOf rfl rfl rfl (by decide +kernel) (by rw [hR]; exact ⟨Nat.le_of_ble_eq_true rfl, Nat.le_of_ble_eq_true rfl⟩)) [0, 1] [2, 3, 4] rfl rfl (by decide) (by decide) (by decide) 0 rfl rfl rfl hl.1 rfl (Nat.le_of_ble_eq_true rfl) dX9_count_72 (by rw [hR]; exact ⟨Nat.le_of_ble_eq_true rfl, Nat.le_of_ble_eq_true rfl⟩) (fun r33 u33 H locs hw33 hP hD hS => ?_)
    try dsimp only at hw33
    obtain rfl : r33 = 0 := hw33
    have hP : va_P D vwCl [(b_s, kI k 46 c_s), (b_lines, kI k 6 c_lines), (b_seens, kI k 5 c_seens), (y, kO 9 [.int 0, .int 0, y_tape, .int y_size, .int y_place, .int y_begin, .int y_token, .long y_word, .int y_told, .int y_wrong, .ref b_supper, y_guestName, y_kind, y_offTold, y_pace, y_cooks, y_snow, y_lineFrom, y_lineTo, y_codes, .int y_code, .int y_toldLines, y_opened, y_compared, y_kept, y_keptBy, y_ahead, y_against, y_sum, y_sumBy, y_term, y_termBy, y_byNot, y_valueOf, .int y_given, .ref b_lines, y_lineWhat, y_lineA, y_lineB, .ref b_seens, y_seenIn, y_seenYards, y_seenNear, .ref b_s, y_aside, y_before, y_marked, y_undone, y_isLaid, .int 0, .int y_snowNow, .int y_cameNow, .int y_cookThen, .int y_tasteThen, y_places, y_comesAt, y_yardsIn, .long y_g]), (b_supper, kI k 8 c_supper)] H := hP
    have hD : va_D A [(b_s, kI k 46 c_s), (b_lines, kI k 6 c_lines), (b_seens, kI k 5 c_seens), (y, kO 9 [.int 0, .int 0, y_tape, .int y_size, .int y_place, .int y_begin, .int y_token, .long y_word, .int y_told, .int y_wrong, .ref b_supper, y_guestName, y_kind, y_offTold, y_pace, y_cooks, y_snow, y_lineFrom, y_lineTo, y_codes, .int y_code, .int y_toldLines, y_opened, y_compared, y_kept, y_keptBy, y_ahead, y_against, y_sum, y_sumBy, y_term, y_termBy, y_byNot, y_valueOf, .int y_given, .ref b_lines, y_lineWhat, y_lineA, y_lineB, .ref b_seens, y_seenIn, y_seenYards, y_seenNear, .ref b_s, y_aside, y_before, y_marked, y_undone, y_isLaid, .int 0, .int y_snowNow, .int y_cameNow, .int y_cookThen, .int y_tasteThen, y_places, y_comesAt, y_yardsIn, .long y_g]), (b_supper, kI k 8 c_supper)] := hD
    rw [hQ]
    have hP9 := hP.sub (ws' := []) [] rfl
    have hD9 := hD.sub (ws' := []) [] (by decide) rfl
    exact W.iret (v := 0) hx hb hr (fun zt ht hW => ⟨⟨0, (), rfl, (by decide), by rw [ht]; exact hP9, hD9⟩, hS.F ht⟩) hS.2.2 dX9_count_75
  by_cases w0_6 : q = 6
  · subst w0_6
    refine lv_aload_n hx hb dX9_count_0 rfl (lv_at hl 0 rfl) ?_
    refine lv_iconst (v := 0) hx hb dX9_count_1 (by decide) ?_
    refine va_put (D := D) (ci := 9) (v := .int 0) (ty := .int) (C := RX9) (T := TX9) (N := 58) hx hb hts hi9 tyX9 tyX9_ok nmX9 hown hK hP hD hS 0 rfl rfl 0 (by decide) lf143 (fun _ h9 => h9) rfl (by decide +kernel) rfl rfl (Nat.le_of_ble_eq_true rfl) dX9_count_2 (fun H locs hP hD hS => ?_)
    have hP : va_P D vwCl [(y, kO 9 [.int 0, .int 0, y_tape, .int y_size, .int y_place, .int y_begin, .int y_token, .long y_word, .int y_told, .int y_wrong, .ref b_supper, y_guestName, y_kind, y_offTold, y_pace, y_cooks, y_snow, y_lineFrom, y_lineTo, y_codes, .int y_code, .int y_toldLines, y_opened, y_compared, y_kept, y_keptBy, y_ahead, y_against, y_sum, y_sumBy, y_term, y_termBy, y_byNot, y_valueOf, .int y_given, .ref b_lines, y_lineWhat, y_lineA, y_lineB, .ref b_seens, y_seenIn, y_seenYards, y_seenNear, .ref b_s, y_aside, y_before, y_marked, y_undone, y_isLaid, .int 0, .int y_snowNow, .int y_cameNow, .int y_cookThen, .int y_tasteThen, y_places, y_comesAt, y_yardsIn, .long y_g]), (b_supper, kI k 8 c_supper), (b_s, kI k 46 c_s), (b_lines, kI k 6 c_lines), (b_seens, kI k 5 c_seens)] H := hP
    have hD : va_D A [(y, kO 9 [.int 0, .int 0, y_tape, .int y_size, .int y_place, .int y_begin, .int y_token, .long y_word, .int y_told, .int y_wrong, .ref b_supper, y_guestName, y_kind, y_offTold, y_pace, y_cooks, y_snow, y_lineFrom, y_lineTo, y_codes, .int y_code, .int y_toldLines, y_opened, y_compared, y_kept, y_keptBy, y_ahead, y_against, y_sum, y_sumBy, y_term, y_termBy, y_byNot, y_valueOf, .int y_given, .ref b_lines, y_lineWhat, y_lineA, y_lineB, .ref b_seens, y_seenIn, y_seenYards, y_seenNear, .ref b_s, y_aside, y_before, y_marked, y_undone, y_isLaid, .int 0, .int y_snowNow, .int y_cameNow, .int y_cookThen, .int y_tasteThen, y_places, y_comesAt, y_yardsIn, .long y_g]), (b_supper, kI k 8 c_supper), (b_s, kI k 46 c_s), (b_lines, kI k 6 c_lines), (b_seens, kI k 5 c_seens)] := hD
    refine lv_iload_n hx hb dX9_count_5 rfl (lv_at hl 1 rfl) ?_
    refine lv_iconst (v := 0) hx hb dX9_count_6 (by decide) ?_
    refine lv_bipush (v := 12) hx hb dX9_count_7 (by decide) ?_
    refine kz_Si (As := [.int 6, .int 0, .int 12]) (rest := []) (wc := []) (wr := [(y, kO 9 [.int 0, .int 0, y_tape, .int y_size, .int y_place, .int y_begin, .int y_token, .long y_word, .int y_told, .int y_wrong, .ref b_supper, y_guestName, y_kind, y_offTold, y_pace, y_cooks, y_snow, y_lineFrom, y_lineTo, y_codes, .int y_code, .int y_toldLines, y_opened, y_compared, y_kept, y_keptBy, y_ahead, y_against, y_sum, y_sumBy, y_term, y_termBy, y_byNot, y_valueOf, .int y_given, .ref b_lines, y_lineWhat, y_lineA, y_lineB, .ref b_seens, y_seenIn, y_seenYards, y_seenNear, .ref b_s, y_aside, y_before, y_marked, y_undone, y_isLaid, .int 0, .int y_snowNow, .int y_cameNow, .int y_cookThen, .int y_tasteThen, y_places, y_comesAt, y_yardsIn, .long y_g]), (b_supper, kI k 8 c_supper), (b_s, kI k 46 c_s), (b_lines, kI k 6 c_lines), (b_seens, kI k 5 c_seens)]) ⟨hx, hb, hml, hown, hts⟩ hK hE hP hD hS hA (mX9_within l D k H.size 6 0 12) (va_cwS 3 hts gX9_count_X9_within rfl rfl rfl (by decide +kernel) (by rw [hR]; exact ⟨Nat.le_of_ble_eq_true rfl, Nat.le_of_ble_eq_true rfl⟩)) [] [0, 1, 2, 3, 4] rfl rfl (by decide) (by decide) (by decide) rfl hl.1 rfl (Nat.le_of_ble_eq_true rfl) dX9_count_9 (by rw [hR]; exact ⟨Nat.le_of_ble_eq_true rfl, Nat.le_of_ble_eq_true rfl⟩) (fun r34 u34 H locs hw34 hP hD hS => ?_)
    try dsimp only at hw34
    obtain rfl : r34 = bz (0 ≤ 6 ∧ 6 ≤ 12) := hw34
    have hP : va_P D vwCl [(y, kO 9 [.int 0, .int 0, y_tape, .int y_size, .int y_place, .int y_begin, .int y_token, .long y_word, .int y_told, .int y_wrong, .ref b_supper, y_guestName, y_kind, y_offTold, y_pace, y_cooks, y_snow, y_lineFrom, y_lineTo, y_codes, .int y_code, .int y_toldLines, y_opened, y_compared, y_kept, y_keptBy, y_ahead, y_against, y_sum, y_sumBy, y_term, y_termBy, y_byNot, y_valueOf, .int y_given, .ref b_lines, y_lineWhat, y_lineA, y_lineB, .ref b_seens, y_seenIn, y_seenYards, y_seenNear, .ref b_s, y_aside, y_before, y_marked, y_undone, y_isLaid, .int 0, .int y_snowNow, .int y_cameNow, .int y_cookThen, .int y_tasteThen, y_places, y_comesAt, y_yardsIn, .long y_g]), (b_supper, kI k 8 c_supper), (b_s, kI k 46 c_s), (b_lines, kI k 6 c_lines), (b_seens, kI k 5 c_seens)] H := hP
    have hD : va_D A [(y, kO 9 [.int 0, .int 0, y_tape, .int y_size, .int y_place, .int y_begin, .int y_token, .long y_word, .int y_told, .int y_wrong, .ref b_supper, y_guestName, y_kind, y_offTold, y_pace, y_cooks, y_snow, y_lineFrom, y_lineTo, y_codes, .int y_code, .int y_toldLines, y_opened, y_compared, y_kept, y_keptBy, y_ahead, y_against, y_sum, y_sumBy, y_term, y_termBy, y_byNot, y_valueOf, .int y_given, .ref b_lines, y_lineWhat, y_lineA, y_lineB, .ref b_seens, y_seenIn, y_seenYards, y_seenNear, .ref b_s, y_aside, y_before, y_marked, y_undone, y_isLaid, .int 0, .int y_snowNow, .int y_cameNow, .int y_cookThen, .int y_tasteThen, y_places, y_comesAt, y_yardsIn, .long y_g]), (b_supper, kI k 8 c_supper), (b_s, kI k 46 c_s), (b_lines, kI k 6 c_lines), (b_seens, kI k 5 c_seens)] := hD
    refine lv_if_ne (tgt := 19) hx hb dX9_count_12 (by decide) (fun c_35 => ?_) (fun c_35 => absurd c_35 (by decide))
    refine lv_iload_n hx hb dX9_count_19 rfl (lv_at hl 1 rfl) ?_
    refine lv_iconst (v := 3) hx hb dX9_count_20 (by decide) ?_
    refine lv_icmp_ge (tgt := 31) hx hb dX9_count_21 (by decide) (fun c_36 => ?_) (fun c_36 => absurd (by decide) c_36)
    refine lv_iload_n hx hb dX9_count_31 rfl (lv_at hl 1 rfl) ?_
    refine lv_bipush (v := 6) hx hb dX9_count_32 (by decide) ?_
    refine lv_icmp_ge (tgt := 76) hx hb dX9_count_34 (by decide) (fun c_37 => ?_) (fun c_37 => absurd (by decide) c_37)
    refine lv_iload_n hx hb dX9_count_76 rfl (lv_at hl 1 rfl) ?_
    refine lv_bipush (v := 9) hx hb dX9_count_77 (by decide) ?_
    refine lv_icmp_ge (tgt := 117) hx hb dX9_count_79 (by decide) (fun c_38 => absurd c_38 (by decide)) (fun c_38 => ?_)
    refine lv_iload_n hx hb dX9_count_82 rfl (lv_at hl 1 rfl) ?_
    refine lv_bipush (v := 6) hx hb dX9_count_83 (by decide) ?_
    refine lv_icmp_ne (tgt := 95) hx hb dX9_count_85 (by decide) (fun c_39 => absurd (by decide) c_39) (fun c_39 => ?_)
    refine lv_aload_n hx hb dX9_count_88 rfl (lv_at hl 0 rfl) ?_
    refine kz_Vi (As := []) (rest := []) (wc := [(y, kO 9 [.int 0, .int 0, y_tape, .int y_size, .int y_place, .int y_begin, .int y_token, .long y_word, .int y_told, .int y_wrong, .ref b_supper, y_guestName, y_kind, y_offTold, y_pace, y_cooks, y_snow, y_lineFrom, y_lineTo, y_codes, .int y_code, .int y_toldLines, y_opened, y_compared, y_kept, y_keptBy, y_ahead, y_against, y_sum, y_sumBy, y_term, y_termBy, y_byNot, y_valueOf, .int y_given, .ref b_lines, y_lineWhat, y_lineA, y_lineB, .ref b_seens, y_seenIn, y_seenYards, y_seenNear, .ref b_s, y_aside, y_before, y_marked, y_undone, y_isLaid, .int 0, .int y_snowNow, .int y_cameNow, .int y_cookThen, .int y_tasteThen, y_places, y_comesAt, y_yardsIn, .long y_g]), (b_supper, kI k 8 c_supper)]) (wr := [(b_s, kI k 46 c_s), (b_lines, kI k 6 c_lines), (b_seens, kI k 5 c_seens)]) ⟨hx, hb, hml, hown, hts⟩ hK hE hP hD hS hA (mX9_onRoad l D k H.size y 0 0 y_tape y_size y_place y_begin y_token y_word y_told y_wrong b_supper y_guestName y_kind y_offTold y_pace y_cooks y_snow y_lineFrom y_lineTo y_codes y_code y_toldLines y_opened y_compared y_kept y_keptBy y_ahead y_against y_sum y_sumBy y_term y_termBy y_byNot y_valueOf y_given (.ref b_lines) y_lineWhat y_lineA y_lineB (.ref b_seens) y_seenIn y_seenYards y_seenNear (.ref b_s) y_aside y_before y_marked y_undone y_isLaid 0 y_snowNow y_cameNow y_cookThen y_tasteThen y_places y_comesAt y_yardsIn y_g c_supper hs0) (cwV 0 hts gX9_count_X9_onRoad rfl rfl rfl (by decide +kernel) (by rw [hR]; exact ⟨Nat.le_of_ble_eq_true rfl, Nat.le_of_ble_eq_true rfl⟩)) [0, 1] [2, 3, 4] rfl rfl (by decide) (by decide) (by decide) 0 rfl rfl rfl hl.1 rfl (Nat.le_of_ble_eq_true rfl) dX9_count_89 (by rw [hR]; exact ⟨Nat.le_of_ble_eq_true rfl, Nat.le_of_ble_eq_true rfl⟩) (fun r40 u40 H locs hw40 hP hD hS => ?_)
    try dsimp only at hw40
    obtain rfl : r40 = 0 := hw40
    have hP : va_P D vwCl [(b_s, kI k 46 c_s), (b_lines, kI k 6 c_lines), (b_seens, kI k 5 c_seens), (y, kO 9 [.int 0, .int 0, y_tape, .int y_size, .int y_place, .int y_begin, .int y_token, .long y_word, .int y_told, .int y_wrong, .ref b_supper, y_guestName, y_kind, y_offTold, y_pace, y_cooks, y_snow, y_lineFrom, y_lineTo, y_codes, .int y_code, .int y_toldLines, y_opened, y_compared, y_kept, y_keptBy, y_ahead, y_against, y_sum, y_sumBy, y_term, y_termBy, y_byNot, y_valueOf, .int y_given, .ref b_lines, y_lineWhat, y_lineA, y_lineB, .ref b_seens, y_seenIn, y_seenYards, y_seenNear, .ref b_s, y_aside, y_before, y_marked, y_undone, y_isLaid, .int 0, .int y_snowNow, .int y_cameNow, .int y_cookThen, .int y_tasteThen, y_places, y_comesAt, y_yardsIn, .long y_g]), (b_supper, kI k 8 c_supper)] H := hP
    have hD : va_D A [(b_s, kI k 46 c_s), (b_lines, kI k 6 c_lines), (b_seens, kI k 5 c_seens), (y, kO 9 [.int 0, .int 0, y_tape, .int y_size, .int y_place, .int y_begin, .int y_token, .long y_word, .int y_told, .int y_wrong, .ref b_supper, y_guestName, y_kind, y_offTold, y_pace, y_cooks, y_snow, y_lineFrom, y_lineTo, y_codes, .int y_code, .int y_toldLines, y_opened, y_compared, y_kept, y_keptBy, y_ahead, y_against, y_sum, y_sumBy, y_term, y_termBy, y_byNot, y_valueOf, .int y_given, .ref b_lines, y_lineWhat, y_lineA, y_lineB, .ref b_seens, y_seenIn, y_seenYards, y_seenNear, .ref b_s, y_aside, y_before, y_marked, y_undone, y_isLaid, .int 0, .int y_snowNow, .int y_cameNow, .int y_cookThen, .int y_tasteThen, y_places, y_comesAt, y_yardsIn, .long y_g]), (b_supper, kI k 8 c_supper)] := hD
    refine lv_goto (tgt := 116) hx hb dX9_count_92 (by decide) ?_
    rw [hQ]
    have hP9 := hP.sub (ws' := []) [] rfl
    have hD9 := hD.sub (ws' := []) [] (by decide) rfl
    exact W.iret (v := 0) hx hb hr (fun zt ht hW => ⟨⟨0, (), rfl, (by decide), by rw [ht]; exact hP9, hD9⟩, hS.F ht⟩) hS.2.2 dX9_count_116
  by_cases w0_7 : q = 7
  · subst w0_7
    refine lv_aload_n hx hb dX9_count_0 rfl (lv_at hl 0 rfl) ?_
    refine lv_iconst (v := 0) hx hb dX9_count_1 (by decide) ?_
    refine va_put (D := D) (ci := 9) (v := .int 0) (ty := .int) (C := RX9) (T := TX9) (N := 58) hx hb hts hi9 tyX9 tyX9_ok nmX9 hown hK hP hD hS 0 rfl rfl 0 (by decide) lf143 (fun _ h9 => h9) rfl (by decide +kernel) rfl rfl (Nat.le_of_ble_eq_true rfl) dX9_count_2 (fun H locs hP hD hS => ?_)
    have hP : va_P D vwCl [(y, kO 9 [.int 0, .int 0, y_tape, .int y_size, .int y_place, .int y_begin, .int y_token, .long y_word, .int y_told, .int y_wrong, .ref b_supper, y_guestName, y_kind, y_offTold, y_pace, y_cooks, y_snow, y_lineFrom, y_lineTo, y_codes, .int y_code, .int y_toldLines, y_opened, y_compared, y_kept, y_keptBy, y_ahead, y_against, y_sum, y_sumBy, y_term, y_termBy, y_byNot, y_valueOf, .int y_given, .ref b_lines, y_lineWhat, y_lineA, y_lineB, .ref b_seens, y_seenIn, y_seenYards, y_seenNear, .ref b_s, y_aside, y_before, y_marked, y_undone, y_isLaid, .int 0, .int y_snowNow, .int y_cameNow, .int y_cookThen, .int y_tasteThen, y_places, y_comesAt, y_yardsIn, .long y_g]), (b_supper, kI k 8 c_supper), (b_s, kI k 46 c_s), (b_lines, kI k 6 c_lines), (b_seens, kI k 5 c_seens)] H := hP
    have hD : va_D A [(y, kO 9 [.int 0, .int 0, y_tape, .int y_size, .int y_place, .int y_begin, .int y_token, .long y_word, .int y_told, .int y_wrong, .ref b_supper, y_guestName, y_kind, y_offTold, y_pace, y_cooks, y_snow, y_lineFrom, y_lineTo, y_codes, .int y_code, .int y_toldLines, y_opened, y_compared, y_kept, y_keptBy, y_ahead, y_against, y_sum, y_sumBy, y_term, y_termBy, y_byNot, y_valueOf, .int y_given, .ref b_lines, y_lineWhat, y_lineA, y_lineB, .ref b_seens, y_seenIn, y_seenYards, y_seenNear, .ref b_s, y_aside, y_before, y_marked, y_undone, y_isLaid, .int 0, .int y_snowNow, .int y_cameNow, .int y_cookThen, .int y_tasteThen, y_places, y_comesAt, y_yardsIn, .long y_g]), (b_supper, kI k 8 c_supper), (b_s, kI k 46 c_s), (b_lines, kI k 6 c_lines), (b_seens, kI k 5 c_seens)] := hD
    refine lv_iload_n hx hb dX9_count_5 rfl (lv_at hl 1 rfl) ?_
    refine lv_iconst (v := 0) hx hb dX9_count_6 (by decide) ?_
    refine lv_bipush (v := 12) hx hb dX9_count_7 (by decide) ?_
    refine kz_Si (As := [.int 7, .int 0, .int 12]) (rest := []) (wc := []) (wr := [(y, kO 9 [.int 0, .int 0, y_tape, .int y_size, .int y_place, .int y_begin, .int y_token, .long y_word, .int y_told, .int y_wrong, .ref b_supper, y_guestName, y_kind, y_offTold, y_pace, y_cooks, y_snow, y_lineFrom, y_lineTo, y_codes, .int y_code, .int y_toldLines, y_opened, y_compared, y_kept, y_keptBy, y_ahead, y_against, y_sum, y_sumBy, y_term, y_termBy, y_byNot, y_valueOf, .int y_given, .ref b_lines, y_lineWhat, y_lineA, y_lineB, .ref b_seens, y_seenIn, y_seenYards, y_seenNear, .ref b_s, y_aside, y_before, y_marked, y_undone, y_isLaid, .int 0, .int y_snowNow, .int y_cameNow, .int y_cookThen, .int y_tasteThen, y_places, y_comesAt, y_yardsIn, .long y_g]), (b_supper, kI k 8 c_supper), (b_s, kI k 46 c_s), (b_lines, kI k 6 c_lines), (b_seens, kI k 5 c_seens)]) ⟨hx, hb, hml, hown, hts⟩ hK hE hP hD hS hA (mX9_within l D k H.size 7 0 12) (va_cwS 3 hts gX9_count_X9_within rfl rfl rfl (by decide +kernel) (by rw [hR]; exact ⟨Nat.le_of_ble_eq_true rfl, Nat.le_of_ble_eq_true rfl⟩)) [] [0, 1, 2, 3, 4] rfl rfl (by decide) (by decide) (by decide) rfl hl.1 rfl (Nat.le_of_ble_eq_true rfl) dX9_count_9 (by rw [hR]; exact ⟨Nat.le_of_ble_eq_true rfl, Nat.le_of_ble_eq_true rfl⟩) (fun r41 u41 H locs hw41 hP hD hS => ?_)
    try dsimp only at hw41
    obtain rfl : r41 = bz (0 ≤ 7 ∧ 7 ≤ 12) := hw41
    have hP : va_P D vwCl [(y, kO 9 [.int 0, .int 0, y_tape, .int y_size, .int y_place, .int y_begin, .int y_token, .long y_word, .int y_told, .int y_wrong, .ref b_supper, y_guestName, y_kind, y_offTold, y_pace, y_cooks, y_snow, y_lineFrom, y_lineTo, y_codes, .int y_code, .int y_toldLines, y_opened, y_compared, y_kept, y_keptBy, y_ahead, y_against, y_sum, y_sumBy, y_term, y_termBy, y_byNot, y_valueOf, .int y_given, .ref b_lines, y_lineWhat, y_lineA, y_lineB, .ref b_seens, y_seenIn, y_seenYards, y_seenNear, .ref b_s, y_aside, y_before, y_marked, y_undone, y_isLaid, .int 0, .int y_snowNow, .int y_cameNow, .int y_cookThen, .int y_tasteThen, y_places, y_comesAt, y_yardsIn, .long y_g]), (b_supper, kI k 8 c_supper), (b_s, kI k 46 c_s), (b_lines, kI k 6 c_lines), (b_seens, kI k 5 c_seens)] H := hP
    have hD : va_D A [(y, kO 9 [.int 0, .int 0, y_tape, .int y_size, .int y_place, .int y_begin, .int y_token, .long y_word, .int y_told, .int y_wrong, .ref b_supper, y_guestName, y_kind, y_offTold, y_pace, y_cooks, y_snow, y_lineFrom, y_lineTo, y_codes, .int y_code, .int y_toldLines, y_opened, y_compared, y_kept, y_keptBy, y_ahead, y_against, y_sum, y_sumBy, y_term, y_termBy, y_byNot, y_valueOf, .int y_given, .ref b_lines, y_lineWhat, y_lineA, y_lineB, .ref b_seens, y_seenIn, y_seenYards, y_seenNear, .ref b_s, y_aside, y_before, y_marked, y_undone, y_isLaid, .int 0, .int y_snowNow, .int y_cameNow, .int y_cookThen, .int y_tasteThen, y_places, y_comesAt, y_yardsIn, .long y_g]), (b_supper, kI k 8 c_supper), (b_s, kI k 46 c_s), (b_lines, kI k 6 c_lines), (b_seens, kI k 5 c_seens)] := hD
    refine lv_if_ne (tgt := 19) hx hb dX9_count_12 (by decide) (fun c_42 => ?_) (fun c_42 => absurd c_42 (by decide))
    refine lv_iload_n hx hb dX9_count_19 rfl (lv_at hl 1 rfl) ?_
    refine lv_iconst (v := 3) hx hb dX9_count_20 (by decide) ?_
    refine lv_icmp_ge (tgt := 31) hx hb dX9_count_21 (by decide) (fun c_43 => ?_) (fun c_43 => absurd (by decide) c_43)
    refine lv_iload_n hx hb dX9_count_31 rfl (lv_at hl 1 rfl) ?_
    refine lv_bipush (v := 6) hx hb dX9_count_32 (by decide) ?_
    refine lv_icmp_ge (tgt := 76) hx hb dX9_count_34 (by decide) (fun c_44 => ?_) (fun c_44 => absurd (by decide) c_44)
    refine lv_iload_n hx hb dX9_count_76 rfl (lv_at hl 1 rfl) ?_
    refine lv_bipush (v := 9) hx hb dX9_count_77 (by decide) ?_
    refine lv_icmp_ge (tgt := 117) hx hb dX9_count_79 (by decide) (fun c_45 => absurd c_45 (by decide)) (fun c_45 => ?_)
    refine lv_iload_n hx hb dX9_count_82 rfl (lv_at hl 1 rfl) ?_
    refine lv_bipush (v := 6) hx hb dX9_count_83 (by decide) ?_
    refine lv_icmp_ne (tgt := 95) hx hb dX9_count_85 (by decide) (fun c_46 => ?_) (fun c_46 => absurd c_46 (by decide))
    refine lv_iload_n hx hb dX9_count_95 rfl (lv_at hl 1 rfl) ?_
    refine lv_bipush (v := 7) hx hb dX9_count_96 (by decide) ?_
    refine lv_icmp_ne (tgt := 110) hx hb dX9_count_98 (by decide) (fun c_47 => absurd (by decide) c_47) (fun c_47 => ?_)
    refine lv_aload_n hx hb dX9_count_101 rfl (lv_at hl 0 rfl) ?_
    refine va_get (D := D) (ci := 9) (v := .ref b_s) (C := RX9) (T := TX9) (N := 58) hx hb hts hi9 hown hK hP 0 rfl rfl 43 (by decide) lf105 (fun _ h9 => h9) rfl dX9_count_102 ?_
    refine lv_iconst (v := 2) hx hb dX9_count_105 (by decide) ?_
    refine va_iald hx hb hK hP 2 0 rfl rfl (vp_in_iff.mpr (by decide)) dX9_count_106 ?_
    refine lv_topi (fun x48 ex48 => ?_)
    obtain rfl : x48 = 0 := ex48.trans (show _ = _ from hz2)
    refine lv_goto (tgt := 116) hx hb dX9_count_107 (by decide) ?_
    rw [hQ]
    have hP9 := hP.sub (ws' := []) [] rfl
    have hD9 := hD.sub (ws' := []) [] (by decide) rfl
    exact W.iret (v := 0) hx hb hr (fun zt ht hW => ⟨⟨0, (), rfl, (by decide), by rw [ht]; exact hP9, hD9⟩, hS.F ht⟩) hS.2.2 dX9_count_116
  by_cases w0_8 : q = 8
  · subst w0_8
    refine lv_aload_n hx hb dX9_count_0 rfl (lv_at hl 0 rfl) ?_
    refine lv_iconst (v := 0) hx hb dX9_count_1 (by decide) ?_
    refine va_put (D := D) (ci := 9) (v := .int 0) (ty := .int) (C := RX9) (T := TX9) (N := 58) hx hb hts hi9 tyX9 tyX9_ok nmX9 hown hK hP hD hS 0 rfl rfl 0 (by decide) lf143 (fun _ h9 => h9) rfl (by decide +kernel) rfl rfl (Nat.le_of_ble_eq_true rfl) dX9_count_2 (fun H locs hP hD hS => ?_)
    have hP : va_P D vwCl [(y, kO 9 [.int 0, .int 0, y_tape, .int y_size, .int y_place, .int y_begin, .int y_token, .long y_word, .int y_told, .int y_wrong, .ref b_supper, y_guestName, y_kind, y_offTold, y_pace, y_cooks, y_snow, y_lineFrom, y_lineTo, y_codes, .int y_code, .int y_toldLines, y_opened, y_compared, y_kept, y_keptBy, y_ahead, y_against, y_sum, y_sumBy, y_term, y_termBy, y_byNot, y_valueOf, .int y_given, .ref b_lines, y_lineWhat, y_lineA, y_lineB, .ref b_seens, y_seenIn, y_seenYards, y_seenNear, .ref b_s, y_aside, y_before, y_marked, y_undone, y_isLaid, .int 0, .int y_snowNow, .int y_cameNow, .int y_cookThen, .int y_tasteThen, y_places, y_comesAt, y_yardsIn, .long y_g]), (b_supper, kI k 8 c_supper), (b_s, kI k 46 c_s), (b_lines, kI k 6 c_lines), (b_seens, kI k 5 c_seens)] H := hP
    have hD : va_D A [(y, kO 9 [.int 0, .int 0, y_tape, .int y_size, .int y_place, .int y_begin, .int y_token, .long y_word, .int y_told, .int y_wrong, .ref b_supper, y_guestName, y_kind, y_offTold, y_pace, y_cooks, y_snow, y_lineFrom, y_lineTo, y_codes, .int y_code, .int y_toldLines, y_opened, y_compared, y_kept, y_keptBy, y_ahead, y_against, y_sum, y_sumBy, y_term, y_termBy, y_byNot, y_valueOf, .int y_given, .ref b_lines, y_lineWhat, y_lineA, y_lineB, .ref b_seens, y_seenIn, y_seenYards, y_seenNear, .ref b_s, y_aside, y_before, y_marked, y_undone, y_isLaid, .int 0, .int y_snowNow, .int y_cameNow, .int y_cookThen, .int y_tasteThen, y_places, y_comesAt, y_yardsIn, .long y_g]), (b_supper, kI k 8 c_supper), (b_s, kI k 46 c_s), (b_lines, kI k 6 c_lines), (b_seens, kI k 5 c_seens)] := hD
    refine lv_iload_n hx hb dX9_count_5 rfl (lv_at hl 1 rfl) ?_
    refine lv_iconst (v := 0) hx hb dX9_count_6 (by decide) ?_
    refine lv_bipush (v := 12) hx hb dX9_count_7 (by decide) ?_
    refine kz_Si (As := [.int 8, .int 0, .int 12]) (rest := []) (wc := []) (wr := [(y, kO 9 [.int 0, .int 0, y_tape, .int y_size, .int y_place, .int y_begin, .int y_token, .long y_word, .int y_told, .int y_wrong, .ref b_supper, y_guestName, y_kind, y_offTold, y_pace, y_cooks, y_snow, y_lineFrom, y_lineTo, y_codes, .int y_code, .int y_toldLines, y_opened, y_compared, y_kept, y_keptBy, y_ahead, y_against, y_sum, y_sumBy, y_term, y_termBy, y_byNot, y_valueOf, .int y_given, .ref b_lines, y_lineWhat, y_lineA, y_lineB, .ref b_seens, y_seenIn, y_seenYards, y_seenNear, .ref b_s, y_aside, y_before, y_marked, y_undone, y_isLaid, .int 0, .int y_snowNow, .int y_cameNow, .int y_cookThen, .int y_tasteThen, y_places, y_comesAt, y_yardsIn, .long y_g]), (b_supper, kI k 8 c_supper), (b_s, kI k 46 c_s), (b_lines, kI k 6 c_lines), (b_seens, kI k 5 c_seens)]) ⟨hx, hb, hml, hown, hts⟩ hK hE hP hD hS hA (mX9_within l D k H.size 8 0 12) (va_cwS 3 hts gX9_count_X9_within rfl rfl rfl (by decide +kernel) (by rw [hR]; exact ⟨Nat.le_of_ble_eq_true rfl, Nat.le_of_ble_eq_true rfl⟩)) [] [0, 1, 2, 3, 4] rfl rfl (by decide) (by decide) (by decide) rfl hl.1 rfl (Nat.le_of_ble_eq_true rfl) dX9_count_9 (by rw [hR]; exact ⟨Nat.le_of_ble_eq_true rfl, Nat.le_of_ble_eq_true rfl⟩) (fun r49 u49 H locs hw49 hP hD hS => ?_)
    try dsimp only at hw49
    obtain rfl : r49 = bz (0 ≤ 8 ∧ 8 ≤ 12) := hw49
    have hP : va_P D vwCl [(y, kO 9 [.int 0, .int 0, y_tape, .int y_size, .int y_place, .int y_begin, .int y_token, .long y_word, .int y_told, .int y_wrong, .ref b_supper, y_guestName, y_kind, y_offTold, y_pace, y_cooks, y_snow, y_lineFrom, y_lineTo, y_codes, .int y_code, .int y_toldLines, y_opened, y_compared, y_kept, y_keptBy, y_ahead, y_against, y_sum, y_sumBy, y_term, y_termBy, y_byNot, y_valueOf, .int y_given, .ref b_lines, y_lineWhat, y_lineA, y_lineB, .ref b_seens, y_seenIn, y_seenYards, y_seenNear, .ref b_s, y_aside, y_before, y_marked, y_undone, y_isLaid, .int 0, .int y_snowNow, .int y_cameNow, .int y_cookThen, .int y_tasteThen, y_places, y_comesAt, y_yardsIn, .long y_g]), (b_supper, kI k 8 c_supper), (b_s, kI k 46 c_s), (b_lines, kI k 6 c_lines), (b_seens, kI k 5 c_seens)] H := hP
    have hD : va_D A [(y, kO 9 [.int 0, .int 0, y_tape, .int y_size, .int y_place, .int y_begin, .int y_token, .long y_word, .int y_told, .int y_wrong, .ref b_supper, y_guestName, y_kind, y_offTold, y_pace, y_cooks, y_snow, y_lineFrom, y_lineTo, y_codes, .int y_code, .int y_toldLines, y_opened, y_compared, y_kept, y_keptBy, y_ahead, y_against, y_sum, y_sumBy, y_term, y_termBy, y_byNot, y_valueOf, .int y_given, .ref b_lines, y_lineWhat, y_lineA, y_lineB, .ref b_seens, y_seenIn, y_seenYards, y_seenNear, .ref b_s, y_aside, y_before, y_marked, y_undone, y_isLaid, .int 0, .int y_snowNow, .int y_cameNow, .int y_cookThen, .int y_tasteThen, y_places, y_comesAt, y_yardsIn, .long y_g]), (b_supper, kI k 8 c_supper), (b_s, kI k 46 c_s), (b_lines, kI k 6 c_lines), (b_seens, kI k 5 c_seens)] := hD
    refine lv_if_ne (tgt := 19) hx hb dX9_count_12 (by decide) (fun c_50 => ?_) (fun c_50 => absurd c_50 (by decide))
    refine lv_iload_n hx hb dX9_count_19 rfl (lv_at hl 1 rfl) ?_
    refine lv_iconst (v := 3) hx hb dX9_count_20 (by decide) ?_
    refine lv_icmp_ge (tgt := 31) hx hb dX9_count_21 (by decide) (fun c_51 => ?_) (fun c_51 => absurd (by decide) c_51)
    refine lv_iload_n hx hb dX9_count_31 rfl (lv_at hl 1 rfl) ?_
    refine lv_bipush (v := 6) hx hb dX9_count_32 (by decide) ?_
    refine lv_icmp_ge (tgt := 76) hx hb dX9_count_34 (by decide) (fun c_52 => ?_) (fun c_52 => absurd (by decide) c_52)
    refine lv_iload_n hx hb dX9_count_76 rfl (lv_at hl 1 rfl) ?_
    refine lv_bipush (v := 9) hx hb dX9_count_77 (by decide) ?_
    refine lv_icmp_ge (tgt := 117) hx hb dX9_count_79 (by decide) (fun c_53 => absurd c_53 (by decide)) (fun c_53 => ?_)
    refine lv_iload_n hx hb dX9_count_82 rfl (lv_at hl 1 rfl) ?_
    refine lv_bipush (v := 6) hx hb dX9_count_83 (by decide) ?_
    refine lv_icmp_ne (tgt := 95) hx hb dX9_count_85 (by decide) (fun c_54 => ?_) (fun c_54 => absurd c_54 (by decide))
    refine lv_iload_n hx hb dX9_count_95 rfl (lv_at hl 1 rfl) ?_
    refine lv_bipush (v := 7) hx hb dX9_count_96 (by decide) ?_
    refine lv_icmp_ne (tgt := 110) hx hb dX9_count_98 (by decide) (fun c_55 => ?_) (fun c_55 => absurd c_55 (by decide))
    refine lv_aload_n hx hb dX9_count_110 rfl (lv_at hl 0 rfl) ?_
    refine va_get (D := D) (ci := 9) (v := .ref b_s) (C := RX9) (T := TX9) (N := 58) hx hb hts hi9 hown hK hP 0 rfl rfl 43 (by decide) lf105 (fun _ h9 => h9) rfl dX9_count_111 ?_
    refine lv_iconst (v := 3) hx hb dX9_count_114 (by decide) ?_
    refine va_iald hx hb hK hP 2 0 rfl rfl (vp_in_iff.mpr (by decide)) dX9_count_115 ?_
    refine lv_topi (fun x56 ex56 => ?_)
    obtain rfl : x56 = 0 := ex56.trans (show _ = _ from hz3)
    rw [hQ]
    have hP9 := hP.sub (ws' := []) [] rfl
    have hD9 := hD.sub (ws' := []) [] (by decide) rfl
    exact W.iret (v := 0) hx hb hr (fun zt ht hW => ⟨⟨0, (), rfl, (by decide), by rw [ht]; exact hP9, hD9⟩, hS.F ht⟩) hS.2.2 dX9_count_116
  by_cases w0_9 : q = 9
  · subst w0_9
    refine lv_aload_n hx hb dX9_count_0 rfl (lv_at hl 0 rfl) ?_
    refine lv_iconst (v := 0) hx hb dX9_count_1 (by decide) ?_
    refine va_put (D := D) (ci := 9) (v := .int 0) (ty := .int) (C := RX9) (T := TX9) (N := 58) hx hb hts hi9 tyX9 tyX9_ok nmX9 hown hK hP hD hS 0 rfl rfl 0 (by decide) lf143 (fun _ h9 => h9) rfl (by decide +kernel) rfl rfl (Nat.le_of_ble_eq_true rfl) dX9_count_2 (fun H locs hP hD hS => ?_)
    have hP : va_P D vwCl [(y, kO 9 [.int 0, .int 0, y_tape, .int y_size, .int y_place, .int y_begin, .int y_token, .long y_word, .int y_told, .int y_wrong, .ref b_supper, y_guestName, y_kind, y_offTold, y_pace, y_cooks, y_snow, y_lineFrom, y_lineTo, y_codes, .int y_code, .int y_toldLines, y_opened, y_compared, y_kept, y_keptBy, y_ahead, y_against, y_sum, y_sumBy, y_term, y_termBy, y_byNot, y_valueOf, .int y_given, .ref b_lines, y_lineWhat, y_lineA, y_lineB, .ref b_seens, y_seenIn, y_seenYards, y_seenNear, .ref b_s, y_aside, y_before, y_marked, y_undone, y_isLaid, .int 0, .int y_snowNow, .int y_cameNow, .int y_cookThen, .int y_tasteThen, y_places, y_comesAt, y_yardsIn, .long y_g]), (b_supper, kI k 8 c_supper), (b_s, kI k 46 c_s), (b_lines, kI k 6 c_lines), (b_seens, kI k 5 c_seens)] H := hP
    have hD : va_D A [(y, kO 9 [.int 0, .int 0, y_tape, .int y_size, .int y_place, .int y_begin, .int y_token, .long y_word, .int y_told, .int y_wrong, .ref b_supper, y_guestName, y_kind, y_offTold, y_pace, y_cooks, y_snow, y_lineFrom, y_lineTo, y_codes, .int y_code, .int y_toldLines, y_opened, y_compared, y_kept, y_keptBy, y_ahead, y_against, y_sum, y_sumBy, y_term, y_termBy, y_byNot, y_valueOf, .int y_given, .ref b_lines, y_lineWhat, y_lineA, y_lineB, .ref b_seens, y_seenIn, y_seenYards, y_seenNear, .ref b_s, y_aside, y_before, y_marked, y_undone, y_isLaid, .int 0, .int y_snowNow, .int y_cameNow, .int y_cookThen, .int y_tasteThen, y_places, y_comesAt, y_yardsIn, .long y_g]), (b_supper, kI k 8 c_supper), (b_s, kI k 46 c_s), (b_lines, kI k 6 c_lines), (b_seens, kI k 5 c_seens)] := hD
    refine lv_iload_n hx hb dX9_count_5 rfl (lv_at hl 1 rfl) ?_
    refine lv_iconst (v := 0) hx hb dX9_count_6 (by decide) ?_
    refine lv_bipush (v := 12) hx hb dX9_count_7 (by decide) ?_
    refine kz_Si (As := [.int 9, .int 0, .int 12]) (rest := []) (wc := []) (wr := [(y, kO 9 [.int 0, .int 0, y_tape, .int y_size, .int y_place, .int y_begin, .int y_token, .long y_word, .int y_told, .int y_wrong, .ref b_supper, y_guestName, y_kind, y_offTold, y_pace, y_cooks, y_snow, y_lineFrom, y_lineTo, y_codes, .int y_code, .int y_toldLines, y_opened, y_compared, y_kept, y_keptBy, y_ahead, y_against, y_sum, y_sumBy, y_term, y_termBy, y_byNot, y_valueOf, .int y_given, .ref b_lines, y_lineWhat, y_lineA, y_lineB, .ref b_seens, y_seenIn, y_seenYards, y_seenNear, .ref b_s, y_aside, y_before, y_marked, y_undone, y_isLaid, .int 0, .int y_snowNow, .int y_cameNow, .int y_cookThen, .int y_tasteThen, y_places, y_comesAt, y_yardsIn, .long y_g]), (b_supper, kI k 8 c_supper), (b_s, kI k 46 c_s), (b_lines, kI k 6 c_lines), (b_seens, kI k 5 c_seens)]) ⟨hx, hb, hml, hown, hts⟩ hK hE hP hD hS hA (mX9_within l D k H.size 9 0 12) (va_cwS 3 hts gX9_count_X9_within rfl rfl rfl (by decide +kernel) (by rw [hR]; exact ⟨Nat.le_of_ble_eq_true rfl, Nat.le_of_ble_eq_true rfl⟩)) [] [0, 1, 2, 3, 4] rfl rfl (by decide) (by decide) (by decide) rfl hl.1 rfl (Nat.le_of_ble_eq_true rfl) dX9_count_9 (by rw [hR]; exact ⟨Nat.le_of_ble_eq_true rfl, Nat.le_of_ble_eq_true rfl⟩) (fun r57 u57 H locs hw57 hP hD hS => ?_)
    try dsimp only at hw57
    obtain rfl : r57 = bz (0 ≤ 9 ∧ 9 ≤ 12) := hw57
    have hP : va_P D vwCl [(y, kO 9 [.int 0, .int 0, y_tape, .int y_size, .int y_place, .int y_begin, .int y_token, .long y_word, .int y_told, .int y_wrong, .ref b_supper, y_guestName, y_kind, y_offTold, y_pace, y_cooks, y_snow, y_lineFrom, y_lineTo, y_codes, .int y_code, .int y_toldLines, y_opened, y_compared, y_kept, y_keptBy, y_ahead, y_against, y_sum, y_sumBy, y_term, y_termBy, y_byNot, y_valueOf, .int y_given, .ref b_lines, y_lineWhat, y_lineA, y_lineB, .ref b_seens, y_seenIn, y_seenYards, y_seenNear, .ref b_s, y_aside, y_before, y_marked, y_undone, y_isLaid, .int 0, .int y_snowNow, .int y_cameNow, .int y_cookThen, .int y_tasteThen, y_places, y_comesAt, y_yardsIn, .long y_g]), (b_supper, kI k 8 c_supper), (b_s, kI k 46 c_s), (b_lines, kI k 6 c_lines), (b_seens, kI k 5 c_seens)] H := hP
    have hD : va_D A [(y, kO 9 [.int 0, .int 0, y_tape, .int y_size, .int y_place, .int y_begin, .int y_token, .long y_word, .int y_told, .int y_wrong, .ref b_supper, y_guestName, y_kind, y_offTold, y_pace, y_cooks, y_snow, y_lineFrom, y_lineTo, y_codes, .int y_code, .int y_toldLines, y_opened, y_compared, y_kept, y_keptBy, y_ahead, y_against, y_sum, y_sumBy, y_term, y_termBy, y_byNot, y_valueOf, .int y_given, .ref b_lines, y_lineWhat, y_lineA, y_lineB, .ref b_seens, y_seenIn, y_seenYards, y_seenNear, .ref b_s, y_aside, y_before, y_marked, y_undone, y_isLaid, .int 0, .int y_snowNow, .int y_cameNow, .int y_cookThen, .int y_tasteThen, y_places, y_comesAt, y_yardsIn, .long y_g]), (b_supper, kI k 8 c_supper), (b_s, kI k 46 c_s), (b_lines, kI k 6 c_lines), (b_seens, kI k 5 c_seens)] := hD
    refine lv_if_ne (tgt := 19) hx hb dX9_count_12 (by decide) (fun c_58 => ?_) (fun c_58 => absurd c_58 (by decide))
    refine lv_iload_n hx hb dX9_count_19 rfl (lv_at hl 1 rfl) ?_
    refine lv_iconst (v := 3) hx hb dX9_count_20 (by decide) ?_
    refine lv_icmp_ge (tgt := 31) hx hb dX9_count_21 (by decide) (fun c_59 => ?_) (fun c_59 => absurd (by decide) c_59)
    refine lv_iload_n hx hb dX9_count_31 rfl (lv_at hl 1 rfl) ?_
    refine lv_bipush (v := 6) hx hb dX9_count_32 (by decide) ?_
    refine lv_icmp_ge (tgt := 76) hx hb dX9_count_34 (by decide) (fun c_60 => ?_) (fun c_60 => absurd (by decide) c_60)
    refine lv_iload_n hx hb dX9_count_76 rfl (lv_at hl 1 rfl) ?_
    refine lv_bipush (v := 9) hx hb dX9_count_77 (by decide) ?_
    refine lv_icmp_ge (tgt := 117) hx hb dX9_count_79 (by decide) (fun c_61 => ?_) (fun c_61 => absurd (by decide) c_61)
    refine lv_iload_n hx hb dX9_count_117 rfl (lv_at hl 1 rfl) ?_
    refine lv_bipush (v := 11) hx hb dX9_count_118 (by decide) ?_
    refine lv_icmp_ge (tgt := 145) hx hb dX9_count_120 (by decide) (fun c_62 => absurd c_62 (by decide)) (fun c_62 => ?_)
    refine lv_iload_n hx hb dX9_count_123 rfl (lv_at hl 1 rfl) ?_
    refine lv_bipush (v := 9) hx hb dX9_count_124 (by decide) ?_
    refine lv_icmp_ne (tgt := 138) hx hb dX9_count_126 (by decide) (fun c_63 => absurd (by decide) c_63) (fun c_63 => ?_)
    refine lv_aload_n hx hb dX9_count_129 rfl (lv_at hl 0 rfl) ?_
    refine va_get (D := D) (ci := 9) (v := .ref b_lines) (C := RX9) (T := TX9) (N := 58) hx hb hts hi9 hown hK hP 0 rfl rfl 35 (by decide) lf81 (fun _ h9 => h9) rfl dX9_count_130 ?_
    refine lv_iconst (v := 0) hx hb dX9_count_133 (by decide) ?_
    refine va_iald hx hb hK hP 3 0 rfl rfl (vp_in_iff.mpr (by decide)) dX9_count_134 ?_
    refine lv_topi (fun x64 ex64 => ?_)
    obtain rfl : x64 = 0 := ex64.trans (show _ = _ from hl0)
    refine lv_goto (tgt := 144) hx hb dX9_count_135 (by decide) ?_
    rw [hQ]
    have hP9 := hP.sub (ws' := []) [] rfl
    have hD9 := hD.sub (ws' := []) [] (by decide) rfl
    exact W.iret (v := 0) hx hb hr (fun zt ht hW => ⟨⟨0, (), rfl, (by decide), by rw [ht]; exact hP9, hD9⟩, hS.F ht⟩) hS.2.2 dX9_count_144
  by_cases w0_10 : q = 10
  · subst w0_10
    refine lv_aload_n hx hb dX9_count_0 rfl (lv_at hl 0 rfl) ?_
    refine lv_iconst (v := 0) hx hb dX9_count_1 (by decide) ?_
    refine va_put (D := D) (ci := 9) (v := .int 0) (ty := .int) (C := RX9) (T := TX9) (N := 58) hx hb hts hi9 tyX9 tyX9_ok nmX9 hown hK hP hD hS 0 rfl rfl 0 (by decide) lf143 (fun _ h9 => h9) rfl (by decide +kernel) rfl rfl (Nat.le_of_ble_eq_true rfl) dX9_count_2 (fun H locs hP hD hS => ?_)
    have hP : va_P D vwCl [(y, kO 9 [.int 0, .int 0, y_tape, .int y_size, .int y_place, .int y_begin, .int y_token, .long y_word, .int y_told, .int y_wrong, .ref b_supper, y_guestName, y_kind, y_offTold, y_pace, y_cooks, y_snow, y_lineFrom, y_lineTo, y_codes, .int y_code, .int y_toldLines, y_opened, y_compared, y_kept, y_keptBy, y_ahead, y_against, y_sum, y_sumBy, y_term, y_termBy, y_byNot, y_valueOf, .int y_given, .ref b_lines, y_lineWhat, y_lineA, y_lineB, .ref b_seens, y_seenIn, y_seenYards, y_seenNear, .ref b_s, y_aside, y_before, y_marked, y_undone, y_isLaid, .int 0, .int y_snowNow, .int y_cameNow, .int y_cookThen, .int y_tasteThen, y_places, y_comesAt, y_yardsIn, .long y_g]), (b_supper, kI k 8 c_supper), (b_s, kI k 46 c_s), (b_lines, kI k 6 c_lines), (b_seens, kI k 5 c_seens)] H := hP
    have hD : va_D A [(y, kO 9 [.int 0, .int 0, y_tape, .int y_size, .int y_place, .int y_begin, .int y_token, .long y_word, .int y_told, .int y_wrong, .ref b_supper, y_guestName, y_kind, y_offTold, y_pace, y_cooks, y_snow, y_lineFrom, y_lineTo, y_codes, .int y_code, .int y_toldLines, y_opened, y_compared, y_kept, y_keptBy, y_ahead, y_against, y_sum, y_sumBy, y_term, y_termBy, y_byNot, y_valueOf, .int y_given, .ref b_lines, y_lineWhat, y_lineA, y_lineB, .ref b_seens, y_seenIn, y_seenYards, y_seenNear, .ref b_s, y_aside, y_before, y_marked, y_undone, y_isLaid, .int 0, .int y_snowNow, .int y_cameNow, .int y_cookThen, .int y_tasteThen, y_places, y_comesAt, y_yardsIn, .long y_g]), (b_supper, kI k 8 c_supper), (b_s, kI k 46 c_s), (b_lines, kI k 6 c_lines), (b_seens, kI k 5 c_seens)] := hD
    refine lv_iload_n hx hb dX9_count_5 rfl (lv_at hl 1 rfl) ?_
    refine lv_iconst (v := 0) hx hb dX9_count_6 (by decide) ?_
    refine lv_bipush (v := 12) hx hb dX9_count_7 (by decide) ?_
    refine kz_Si (As := [.int 10, .int 0, .int 12]) (rest := []) (wc := []) (wr := [(y, kO 9 [.int 0, .int 0, y_tape, .int y_size, .int y_place, .int y_begin, .int y_token, .long y_word, .int y_told, .int y_wrong, .ref b_supper, y_guestName, y_kind, y_offTold, y_pace, y_cooks, y_snow, y_lineFrom, y_lineTo, y_codes, .int y_code, .int y_toldLines, y_opened, y_compared, y_kept, y_keptBy, y_ahead, y_against, y_sum, y_sumBy, y_term, y_termBy, y_byNot, y_valueOf, .int y_given, .ref b_lines, y_lineWhat, y_lineA, y_lineB, .ref b_seens, y_seenIn, y_seenYards, y_seenNear, .ref b_s, y_aside, y_before, y_marked, y_undone, y_isLaid, .int 0, .int y_snowNow, .int y_cameNow, .int y_cookThen, .int y_tasteThen, y_places, y_comesAt, y_yardsIn, .long y_g]), (b_supper, kI k 8 c_supper), (b_s, kI k 46 c_s), (b_lines, kI k 6 c_lines), (b_seens, kI k 5 c_seens)]) ⟨hx, hb, hml, hown, hts⟩ hK hE hP hD hS hA (mX9_within l D k H.size 10 0 12) (va_cwS 3 hts gX9_count_X9_within rfl rfl rfl (by decide +kernel) (by rw [hR]; exact ⟨Nat.le_of_ble_eq_true rfl, Nat.le_of_ble_eq_true rfl⟩)) [] [0, 1, 2, 3, 4] rfl rfl (by decide) (by decide) (by decide) rfl hl.1 rfl (Nat.le_of_ble_eq_true rfl) dX9_count_9 (by rw [hR]; exact ⟨Nat.le_of_ble_eq_true rfl, Nat.le_of_ble_eq_true rfl⟩) (fun r65 u65 H locs hw65 hP hD hS => ?_)
    try dsimp only at hw65
    obtain rfl : r65 = bz (0 ≤ 10 ∧ 10 ≤ 12) := hw65
    have hP : va_P D vwCl [(y, kO 9 [.int 0, .int 0, y_tape, .int y_size, .int y_place, .int y_begin, .int y_token, .long y_word, .int y_told, .int y_wrong, .ref b_supper, y_guestName, y_kind, y_offTold, y_pace, y_cooks, y_snow, y_lineFrom, y_lineTo, y_codes, .int y_code, .int y_toldLines, y_opened, y_compared, y_kept, y_keptBy, y_ahead, y_against, y_sum, y_sumBy, y_term, y_termBy, y_byNot, y_valueOf, .int y_given, .ref b_lines, y_lineWhat, y_lineA, y_lineB, .ref b_seens, y_seenIn, y_seenYards, y_seenNear, .ref b_s, y_aside, y_before, y_marked, y_undone, y_isLaid, .int 0, .int y_snowNow, .int y_cameNow, .int y_cookThen, .int y_tasteThen, y_places, y_comesAt, y_yardsIn, .long y_g]), (b_supper, kI k 8 c_supper), (b_s, kI k 46 c_s), (b_lines, kI k 6 c_lines), (b_seens, kI k 5 c_seens)] H := hP
    have hD : va_D A [(y, kO 9 [.int 0, .int 0, y_tape, .int y_size, .int y_place, .int y_begin, .int y_token, .long y_word, .int y_told, .int y_wrong, .ref b_supper, y_guestName, y_kind, y_offTold, y_pace, y_cooks, y_snow, y_lineFrom, y_lineTo, y_codes, .int y_code, .int y_toldLines, y_opened, y_compared, y_kept, y_keptBy, y_ahead, y_against, y_sum, y_sumBy, y_term, y_termBy, y_byNot, y_valueOf, .int y_given, .ref b_lines, y_lineWhat, y_lineA, y_lineB, .ref b_seens, y_seenIn, y_seenYards, y_seenNear, .ref b_s, y_aside, y_before, y_marked, y_undone, y_isLaid, .int 0, .int y_snowNow, .int y_cameNow, .int y_cookThen, .int y_tasteThen, y_places, y_comesAt, y_yardsIn, .long y_g]), (b_supper, kI k 8 c_supper), (b_s, kI k 46 c_s), (b_lines, kI k 6 c_lines), (b_seens, kI k 5 c_seens)] := hD
    refine lv_if_ne (tgt := 19) hx hb dX9_count_12 (by decide) (fun c_66 => ?_) (fun c_66 => absurd c_66 (by decide))
    refine lv_iload_n hx hb dX9_count_19 rfl (lv_at hl 1 rfl) ?_
    refine lv_iconst (v := 3) hx hb dX9_count_20 (by decide) ?_
    refine lv_icmp_ge (tgt := 31) hx hb dX9_count_21 (by decide) (fun c_67 => ?_) (fun c_67 => absurd (by decide) c_67)
    refine lv_iload_n hx hb dX9_count_31 rfl (lv_at hl 1 rfl) ?_
    refine lv_bipush (v := 6) hx hb dX9_count_32 (by decide) ?_
    refine lv_icmp_ge (tgt := 76) hx hb dX9_count_34 (by decide) (fun c_68 => ?_) (fun c_68 => absurd (by decide) c_68)
    refine lv_iload_n hx hb dX9_count_76 rfl (lv_at hl 1 rfl) ?_
    refine lv_bipush (v := 9) hx hb dX9_count_77 (by decide) ?_
    refine lv_icmp_ge (tgt := 117) hx hb dX9_count_79 (by decide) (fun c_69 => ?_) (fun c_69 => absurd (by decide) c_69)
    refine lv_iload_n hx hb dX9_count_117 rfl (lv_at hl 1 rfl) ?_
    refine lv_bipush (v := 11) hx hb dX9_count_118 (by decide) ?_
    refine lv_icmp_ge (tgt := 145) hx hb dX9_count_120 (by decide) (fun c_70 => absurd c_70 (by decide)) (fun c_70 => ?_)
    refine lv_iload_n hx hb dX9_count_123 rfl (lv_at hl 1 rfl) ?_
    refine lv_bipush (v := 9) hx hb dX9_count_124 (by decide) ?_
    refine lv_icmp_ne (tgt := 138) hx hb dX9_count_126 (by decide) (fun c_71 => ?_) (fun c_71 => absurd c_71 (by decide))
    refine lv_aload_n hx hb dX9_count_138 rfl (lv_at hl 0 rfl) ?_
    refine va_get (D := D) (ci := 9) (v := .ref b_seens) (C := RX9) (T := TX9) (N := 58) hx hb hts hi9 hown hK hP 0 rfl rfl 39 (by decide) lf93 (fun _ h9 => h9) rfl dX9_count_139 ?_
    refine lv_iconst (v := 0) hx hb dX9_count_142 (by decide) ?_
    refine va_iald hx hb hK hP 4 0 rfl rfl (vp_in_iff.mpr (by decide)) dX9_count_143 ?_
    refine lv_topi (fun x72 ex72 => ?_)
    obtain rfl : x72 = 0 := ex72.trans (show _ = _ from he0)
    rw [hQ]
    have hP9 := hP.sub (ws' := []) [] rfl
    have hD9 := hD.sub (ws' := []) [] (by decide) rfl
    exact W.iret (v := 0) hx hb hr (fun zt ht hW => ⟨⟨0, (), rfl, (by decide), by rw [ht]; exact hP9, hD9⟩, hS.F ht⟩) hS.2.2 dX9_count_144
  by_cases w0_11 : q = 11
  · subst w0_11
    refine lv_aload_n hx hb dX9_count_0 rfl (lv_at hl 0 rfl) ?_
    refine lv_iconst (v := 0) hx hb dX9_count_1 (by decide) ?_
    refine va_put (D := D) (ci := 9) (v := .int 0) (ty := .int) (C := RX9) (T := TX9) (N := 58) hx hb hts hi9 tyX9 tyX9_ok nmX9 hown hK hP hD hS 0 rfl rfl 0 (by decide) lf143 (fun _ h9 => h9) rfl (by decide +kernel) rfl rfl (Nat.le_of_ble_eq_true rfl) dX9_count_2 (fun H locs hP hD hS => ?_)
    have hP : va_P D vwCl [(y, kO 9 [.int 0, .int 0, y_tape, .int y_size, .int y_place, .int y_begin, .int y_token, .long y_word, .int y_told, .int y_wrong, .ref b_supper, y_guestName, y_kind, y_offTold, y_pace, y_cooks, y_snow, y_lineFrom, y_lineTo, y_codes, .int y_code, .int y_toldLines, y_opened, y_compared, y_kept, y_keptBy, y_ahead, y_against, y_sum, y_sumBy, y_term, y_termBy, y_byNot, y_valueOf, .int y_given, .ref b_lines, y_lineWhat, y_lineA, y_lineB, .ref b_seens, y_seenIn, y_seenYards, y_seenNear, .ref b_s, y_aside, y_before, y_marked, y_undone, y_isLaid, .int 0, .int y_snowNow, .int y_cameNow, .int y_cookThen, .int y_tasteThen, y_places, y_comesAt, y_yardsIn, .long y_g]), (b_supper, kI k 8 c_supper), (b_s, kI k 46 c_s), (b_lines, kI k 6 c_lines), (b_seens, kI k 5 c_seens)] H := hP
    have hD : va_D A [(y, kO 9 [.int 0, .int 0, y_tape, .int y_size, .int y_place, .int y_begin, .int y_token, .long y_word, .int y_told, .int y_wrong, .ref b_supper, y_guestName, y_kind, y_offTold, y_pace, y_cooks, y_snow, y_lineFrom, y_lineTo, y_codes, .int y_code, .int y_toldLines, y_opened, y_compared, y_kept, y_keptBy, y_ahead, y_against, y_sum, y_sumBy, y_term, y_termBy, y_byNot, y_valueOf, .int y_given, .ref b_lines, y_lineWhat, y_lineA, y_lineB, .ref b_seens, y_seenIn, y_seenYards, y_seenNear, .ref b_s, y_aside, y_before, y_marked, y_undone, y_isLaid, .int 0, .int y_snowNow, .int y_cameNow, .int y_cookThen, .int y_tasteThen, y_places, y_comesAt, y_yardsIn, .long y_g]), (b_supper, kI k 8 c_supper), (b_s, kI k 46 c_s), (b_lines, kI k 6 c_lines), (b_seens, kI k 5 c_seens)] := hD
    refine lv_iload_n hx hb dX9_count_5 rfl (lv_at hl 1 rfl) ?_
    refine lv_iconst (v := 0) hx hb dX9_count_6 (by decide) ?_
    refine lv_bipush (v := 12) hx hb dX9_count_7 (by decide) ?_
    refine kz_Si (As := [.int 11, .int 0, .int 12]) (rest := []) (wc := []) (wr := [(y, kO 9 [.int 0, .int 0, y_tape, .int y_size, .int y_place, .int y_begin, .int y_token, .long y_word, .int y_told, .int y_wrong, .ref b_supper, y_guestName, y_kind, y_offTold, y_pace, y_cooks, y_snow, y_lineFrom, y_lineTo, y_codes, .int y_code, .int y_toldLines, y_opened, y_compared, y_kept, y_keptBy, y_ahead, y_against, y_sum, y_sumBy, y_term, y_termBy, y_byNot, y_valueOf, .int y_given, .ref b_lines, y_lineWhat, y_lineA, y_lineB, .ref b_seens, y_seenIn, y_seenYards, y_seenNear, .ref b_s, y_aside, y_before, y_marked, y_undone, y_isLaid, .int 0, .int y_snowNow, .int y_cameNow, .int y_cookThen, .int y_tasteThen, y_places, y_comesAt, y_yardsIn, .long y_g]), (b_supper, kI k 8 c_supper), (b_s, kI k 46 c_s), (b_lines, kI k 6 c_lines), (b_seens, kI k 5 c_seens)]) ⟨hx, hb, hml, hown, hts⟩ hK hE hP hD hS hA (mX9_within l D k H.size 11 0 12) (va_cwS 3 hts gX9_count_X9_within rfl rfl rfl (by decide +kernel) (by rw [hR]; exact ⟨Nat.le_of_ble_eq_true rfl, Nat.le_of_ble_eq_true rfl⟩)) [] [0, 1, 2, 3, 4] rfl rfl (by decide) (by decide) (by decide) rfl hl.1 rfl (Nat.le_of_ble_eq_true rfl) dX9_count_9 (by rw [hR]; exact ⟨Nat.le_of_ble_eq_true rfl, Nat.le_of_ble_eq_true rfl⟩) (fun r73 u73 H locs hw73 hP hD hS => ?_)
    try dsimp only at hw73
    obtain rfl : r73 = bz (0 ≤ 11 ∧ 11 ≤ 12) := hw73
    have hP : va_P D vwCl [(y, kO 9 [.int 0, .int 0, y_tape, .int y_size, .int y_place, .int y_begin, .int y_token, .long y_word, .int y_told, .int y_wrong, .ref b_supper, y_guestName, y_kind, y_offTold, y_pace, y_cooks, y_snow, y_lineFrom, y_lineTo, y_codes, .int y_code, .int y_toldLines, y_opened, y_compared, y_kept, y_keptBy, y_ahead, y_against, y_sum, y_sumBy, y_term, y_termBy, y_byNot, y_valueOf, .int y_given, .ref b_lines, y_lineWhat, y_lineA, y_lineB, .ref b_seens, y_seenIn, y_seenYards, y_seenNear, .ref b_s, y_aside, y_before, y_marked, y_undone, y_isLaid, .int 0, .int y_snowNow, .int y_cameNow, .int y_cookThen, .int y_tasteThen, y_places, y_comesAt, y_yardsIn, .long y_g]), (b_supper, kI k 8 c_supper), (b_s, kI k 46 c_s), (b_lines, kI k 6 c_lines), (b_seens, kI k 5 c_seens)] H := hP
    have hD : va_D A [(y, kO 9 [.int 0, .int 0, y_tape, .int y_size, .int y_place, .int y_begin, .int y_token, .long y_word, .int y_told, .int y_wrong, .ref b_supper, y_guestName, y_kind, y_offTold, y_pace, y_cooks, y_snow, y_lineFrom, y_lineTo, y_codes, .int y_code, .int y_toldLines, y_opened, y_compared, y_kept, y_keptBy, y_ahead, y_against, y_sum, y_sumBy, y_term, y_termBy, y_byNot, y_valueOf, .int y_given, .ref b_lines, y_lineWhat, y_lineA, y_lineB, .ref b_seens, y_seenIn, y_seenYards, y_seenNear, .ref b_s, y_aside, y_before, y_marked, y_undone, y_isLaid, .int 0, .int y_snowNow, .int y_cameNow, .int y_cookThen, .int y_tasteThen, y_places, y_comesAt, y_yardsIn, .long y_g]), (b_supper, kI k 8 c_supper), (b_s, kI k 46 c_s), (b_lines, kI k 6 c_lines), (b_seens, kI k 5 c_seens)] := hD
    refine lv_if_ne (tgt := 19) hx hb dX9_count_12 (by decide) (fun c_74 => ?_) (fun c_74 => absurd c_74 (by decide))
    refine lv_iload_n hx hb dX9_count_19 rfl (lv_at hl 1 rfl) ?_
    refine lv_iconst (v := 3) hx hb dX9_count_20 (by decide) ?_
    refine lv_icmp_ge (tgt := 31) hx hb dX9_count_21 (by decide) (fun c_75 => ?_) (fun c_75 => absurd (by decide) c_75)
    refine lv_iload_n hx hb dX9_count_31 rfl (lv_at hl 1 rfl) ?_
    refine lv_bipush (v := 6) hx hb dX9_count_32 (by decide) ?_
    refine lv_icmp_ge (tgt := 76) hx hb dX9_count_34 (by decide) (fun c_76 => ?_) (fun c_76 => absurd (by decide) c_76)
    refine lv_iload_n hx hb dX9_count_76 rfl (lv_at hl 1 rfl) ?_
    refine lv_bipush (v := 9) hx hb dX9_count_77 (by decide) ?_
    refine lv_icmp_ge (tgt := 117) hx hb dX9_count_79 (by decide) (fun c_77 => ?_) (fun c_77 => absurd (by decide) c_77)
    refine lv_iload_n hx hb dX9_count_117 rfl (lv_at hl 1 rfl) ?_
    refine lv_bipush (v := 11) hx hb dX9_count_118 (by decide) ?_
    refine lv_icmp_ge (tgt := 145) hx hb dX9_count_120 (by decide) (fun c_78 => ?_) (fun c_78 => absurd (by decide) c_78)
    refine lv_iload_n hx hb dX9_count_145 rfl (lv_at hl 1 rfl) ?_
    refine lv_bipush (v := 11) hx hb dX9_count_146 (by decide) ?_
    refine lv_icmp_ne (tgt := 158) hx hb dX9_count_148 (by decide) (fun c_79 => absurd (by decide) c_79) (fun c_79 => ?_)
    refine lv_aload_n hx hb dX9_count_151 rfl (lv_at hl 0 rfl) ?_
    refine va_get (D := D) (ci := 9) (v := .int 0) (C := RX9) (T := TX9) (N := 58) hx hb hts hi9 hown hK hP 0 rfl rfl 49 (by decide) lf322 (fun _ h9 => h9) rfl dX9_count_152 ?_
    refine lv_goto (tgt := 162) hx hb dX9_count_155 (by decide) ?_
    rw [hQ]
    have hP9 := hP.sub (ws' := []) [] rfl
    have hD9 := hD.sub (ws' := []) [] (by decide) rfl
    exact W.iret (v := 0) hx hb hr (fun zt ht hW => ⟨⟨0, (), rfl, (by decide), by rw [ht]; exact hP9, hD9⟩, hS.F ht⟩) hS.2.2 dX9_count_162
  by_cases w0_12 : q = 12
  · subst w0_12
    refine lv_aload_n hx hb dX9_count_0 rfl (lv_at hl 0 rfl) ?_
    refine lv_iconst (v := 0) hx hb dX9_count_1 (by decide) ?_
    refine va_put (D := D) (ci := 9) (v := .int 0) (ty := .int) (C := RX9) (T := TX9) (N := 58) hx hb hts hi9 tyX9 tyX9_ok nmX9 hown hK hP hD hS 0 rfl rfl 0 (by decide) lf143 (fun _ h9 => h9) rfl (by decide +kernel) rfl rfl (Nat.le_of_ble_eq_true rfl) dX9_count_2 (fun H locs hP hD hS => ?_)
    have hP : va_P D vwCl [(y, kO 9 [.int 0, .int 0, y_tape, .int y_size, .int y_place, .int y_begin, .int y_token, .long y_word, .int y_told, .int y_wrong, .ref b_supper, y_guestName, y_kind, y_offTold, y_pace, y_cooks, y_snow, y_lineFrom, y_lineTo, y_codes, .int y_code, .int y_toldLines, y_opened, y_compared, y_kept, y_keptBy, y_ahead, y_against, y_sum, y_sumBy, y_term, y_termBy, y_byNot, y_valueOf, .int y_given, .ref b_lines, y_lineWhat, y_lineA, y_lineB, .ref b_seens, y_seenIn, y_seenYards, y_seenNear, .ref b_s, y_aside, y_before, y_marked, y_undone, y_isLaid, .int 0, .int y_snowNow, .int y_cameNow, .int y_cookThen, .int y_tasteThen, y_places, y_comesAt, y_yardsIn, .long y_g]), (b_supper, kI k 8 c_supper), (b_s, kI k 46 c_s), (b_lines, kI k 6 c_lines), (b_seens, kI k 5 c_seens)] H := hP
    have hD : va_D A [(y, kO 9 [.int 0, .int 0, y_tape, .int y_size, .int y_place, .int y_begin, .int y_token, .long y_word, .int y_told, .int y_wrong, .ref b_supper, y_guestName, y_kind, y_offTold, y_pace, y_cooks, y_snow, y_lineFrom, y_lineTo, y_codes, .int y_code, .int y_toldLines, y_opened, y_compared, y_kept, y_keptBy, y_ahead, y_against, y_sum, y_sumBy, y_term, y_termBy, y_byNot, y_valueOf, .int y_given, .ref b_lines, y_lineWhat, y_lineA, y_lineB, .ref b_seens, y_seenIn, y_seenYards, y_seenNear, .ref b_s, y_aside, y_before, y_marked, y_undone, y_isLaid, .int 0, .int y_snowNow, .int y_cameNow, .int y_cookThen, .int y_tasteThen, y_places, y_comesAt, y_yardsIn, .long y_g]), (b_supper, kI k 8 c_supper), (b_s, kI k 46 c_s), (b_lines, kI k 6 c_lines), (b_seens, kI k 5 c_seens)] := hD
    refine lv_iload_n hx hb dX9_count_5 rfl (lv_at hl 1 rfl) ?_
    refine lv_iconst (v := 0) hx hb dX9_count_6 (by decide) ?_
    refine lv_bipush (v := 12) hx hb dX9_count_7 (by decide) ?_
    refine kz_Si (As := [.int 12, .int 0, .int 12]) (rest := []) (wc := []) (wr := [(y, kO 9 [.int 0, .int 0, y_tape, .int y_size, .int y_place, .int y_begin, .int y_token, .long y_word, .int y_told, .int y_wrong, .ref b_supper, y_guestName, y_kind, y_offTold, y_pace, y_cooks, y_snow, y_lineFrom, y_lineTo, y_codes, .int y_code, .int y_toldLines, y_opened, y_compared, y_kept, y_keptBy, y_ahead, y_against, y_sum, y_sumBy, y_term, y_termBy, y_byNot, y_valueOf, .int y_given, .ref b_lines, y_lineWhat, y_lineA, y_lineB, .ref b_seens, y_seenIn, y_seenYards, y_seenNear, .ref b_s, y_aside, y_before, y_marked, y_undone, y_isLaid, .int 0, .int y_snowNow, .int y_cameNow, .int y_cookThen, .int y_tasteThen, y_places, y_comesAt, y_yardsIn, .long y_g]), (b_supper, kI k 8 c_supper), (b_s, kI k 46 c_s), (b_lines, kI k 6 c_lines), (b_seens, kI k 5 c_seens)]) ⟨hx, hb, hml, hown, hts⟩ hK hE hP hD hS hA (mX9_within l D k H.size 12 0 12) (va_cwS 3 hts gX9_count_X9_within rfl rfl rfl (by decide +kernel) (by rw [hR]; exact ⟨Nat.le_of_ble_eq_true rfl, Nat.le_of_ble_eq_true rfl⟩)) [] [0, 1, 2, 3, 4] rfl rfl (by decide) (by decide) (by decide) rfl hl.1 rfl (Nat.le_of_ble_eq_true rfl) dX9_count_9 (by rw [hR]; exact ⟨Nat.le_of_ble_eq_true rfl, Nat.le_of_ble_eq_true rfl⟩) (fun r80 u80 H locs hw80 hP hD hS => ?_)
    try dsimp only at hw80
    obtain rfl : r80 = bz (0 ≤ 12 ∧ 12 ≤ 12) := hw80
    have hP : va_P D vwCl [(y, kO 9 [.int 0, .int 0, y_tape, .int y_size, .int y_place, .int y_begin, .int y_token, .long y_word, .int y_told, .int y_wrong, .ref b_supper, y_guestName, y_kind, y_offTold, y_pace, y_cooks, y_snow, y_lineFrom, y_lineTo, y_codes, .int y_code, .int y_toldLines, y_opened, y_compared, y_kept, y_keptBy, y_ahead, y_against, y_sum, y_sumBy, y_term, y_termBy, y_byNot, y_valueOf, .int y_given, .ref b_lines, y_lineWhat, y_lineA, y_lineB, .ref b_seens, y_seenIn, y_seenYards, y_seenNear, .ref b_s, y_aside, y_before, y_marked, y_undone, y_isLaid, .int 0, .int y_snowNow, .int y_cameNow, .int y_cookThen, .int y_tasteThen, y_places, y_comesAt, y_yardsIn, .long y_g]), (b_supper, kI k 8 c_supper), (b_s, kI k 46 c_s), (b_lines, kI k 6 c_lines), (b_seens, kI k 5 c_seens)] H := hP
    have hD : va_D A [(y, kO 9 [.int 0, .int 0, y_tape, .int y_size, .int y_place, .int y_begin, .int y_token, .long y_word, .int y_told, .int y_wrong, .ref b_supper, y_guestName, y_kind, y_offTold, y_pace, y_cooks, y_snow, y_lineFrom, y_lineTo, y_codes, .int y_code, .int y_toldLines, y_opened, y_compared, y_kept, y_keptBy, y_ahead, y_against, y_sum, y_sumBy, y_term, y_termBy, y_byNot, y_valueOf, .int y_given, .ref b_lines, y_lineWhat, y_lineA, y_lineB, .ref b_seens, y_seenIn, y_seenYards, y_seenNear, .ref b_s, y_aside, y_before, y_marked, y_undone, y_isLaid, .int 0, .int y_snowNow, .int y_cameNow, .int y_cookThen, .int y_tasteThen, y_places, y_comesAt, y_yardsIn, .long y_g]), (b_supper, kI k 8 c_supper), (b_s, kI k 46 c_s), (b_lines, kI k 6 c_lines), (b_seens, kI k 5 c_seens)] := hD
    refine lv_if_ne (tgt := 19) hx hb dX9_count_12 (by decide) (fun c_81 => ?_) (fun c_81 => absurd c_81 (by decide))
    refine lv_iload_n hx hb dX9_count_19 rfl (lv_at hl 1 rfl) ?_
    refine lv_iconst (v := 3) hx hb dX9_count_20 (by decide) ?_
    refine lv_icmp_ge (tgt := 31) hx hb dX9_count_21 (by decide) (fun c_82 => ?_) (fun c_82 => absurd (by decide) c_82)
    refine lv_iload_n hx hb dX9_count_31 rfl (lv_at hl 1 rfl) ?_
    refine lv_bipush (v := 6) hx hb dX9_count_32 (by decide) ?_
    refine lv_icmp_ge (tgt := 76) hx hb dX9_count_34 (by decide) (fun c_83 => ?_) (fun c_83 => absurd (by decide) c_83)
    refine lv_iload_n hx hb dX9_count_76 rfl (lv_at hl 1 rfl) ?_
    refine lv_bipush (v := 9) hx hb dX9_count_77 (by decide) ?_
    refine lv_icmp_ge (tgt := 117) hx hb dX9_count_79 (by decide) (fun c_84 => ?_) (fun c_84 => absurd (by decide) c_84)
    refine lv_iload_n hx hb dX9_count_117 rfl (lv_at hl 1 rfl) ?_
    refine lv_bipush (v := 11) hx hb dX9_count_118 (by decide) ?_
    refine lv_icmp_ge (tgt := 145) hx hb dX9_count_120 (by decide) (fun c_85 => ?_) (fun c_85 => absurd (by decide) c_85)
    refine lv_iload_n hx hb dX9_count_145 rfl (lv_at hl 1 rfl) ?_
    refine lv_bipush (v := 11) hx hb dX9_count_146 (by decide) ?_
    refine lv_icmp_ne (tgt := 158) hx hb dX9_count_148 (by decide) (fun c_86 => ?_) (fun c_86 => absurd c_86 (by decide))
    refine lv_aload_n hx hb dX9_count_158 rfl (lv_at hl 0 rfl) ?_
    refine va_get (D := D) (ci := 9) (v := .int 0) (C := RX9) (T := TX9) (N := 58) hx hb hts hi9 hown hK hP 0 rfl rfl 1 (by decide) lf148 (fun _ h9 => h9) rfl dX9_count_159 ?_
    rw [hQ]
    have hP9 := hP.sub (ws' := []) [] rfl
    have hD9 := hD.sub (ws' := []) [] (by decide) rfl
    exact W.iret (v := 0) hx hb hr (fun zt ht hW => ⟨⟨0, (), rfl, (by decide), by rw [ht]; exact hP9, hD9⟩, hS.F ht⟩) hS.2.2 dX9_count_162
  have z0_0 := lv_neT w0_0 (a := 0) (by decide)
  have z0_1 := lv_neT w0_1 (a := 1) (by decide)
  have z0_2 := lv_neT w0_2 (a := 2) (by decide)
  have z0_3 := lv_neT w0_3 (a := 3) (by decide)
  have z0_4 := lv_neT w0_4 (a := 4) (by decide)
  have z0_5 := lv_neT w0_5 (a := 5) (by decide)
  have z0_6 := lv_neT w0_6 (a := 6) (by decide)
  have z0_7 := lv_neT w0_7 (a := 7) (by decide)
  have z0_8 := lv_neT w0_8 (a := 8) (by decide)
  have z0_9 := lv_neT w0_9 (a := 9) (by decide)
  have z0_10 := lv_neT w0_10 (a := 10) (by decide)
  have z0_11 := lv_neT w0_11 (a := 11) (by decide)
  have z0_12 := lv_neT w0_12 (a := 12) (by decide)
  refine lv_aload_n hx hb dX9_count_0 rfl (lv_at hl 0 rfl) ?_
  refine lv_iconst (v := 0) hx hb dX9_count_1 (by decide) ?_
  refine va_put (D := D) (ci := 9) (v := .int 0) (ty := .int) (C := RX9) (T := TX9) (N := 58) hx hb hts hi9 tyX9 tyX9_ok nmX9 hown hK hP hD hS 0 rfl rfl 0 (by decide) lf143 (fun _ h9 => h9) rfl (by decide +kernel) rfl rfl (Nat.le_of_ble_eq_true rfl) dX9_count_2 (fun H locs hP hD hS => ?_)
  have hP : va_P D vwCl [(y, kO 9 [.int 0, .int 0, y_tape, .int y_size, .int y_place, .int y_begin, .int y_token, .long y_word, .int y_told, .int y_wrong, .ref b_supper, y_guestName, y_kind, y_offTold, y_pace, y_cooks, y_snow, y_lineFrom, y_lineTo, y_codes, .int y_code, .int y_toldLines, y_opened, y_compared, y_kept, y_keptBy, y_ahead, y_against, y_sum, y_sumBy, y_term, y_termBy, y_byNot, y_valueOf, .int y_given, .ref b_lines, y_lineWhat, y_lineA, y_lineB, .ref b_seens, y_seenIn, y_seenYards, y_seenNear, .ref b_s, y_aside, y_before, y_marked, y_undone, y_isLaid, .int 0, .int y_snowNow, .int y_cameNow, .int y_cookThen, .int y_tasteThen, y_places, y_comesAt, y_yardsIn, .long y_g]), (b_supper, kI k 8 c_supper), (b_s, kI k 46 c_s), (b_lines, kI k 6 c_lines), (b_seens, kI k 5 c_seens)] H := hP
  have hD : va_D A [(y, kO 9 [.int 0, .int 0, y_tape, .int y_size, .int y_place, .int y_begin, .int y_token, .long y_word, .int y_told, .int y_wrong, .ref b_supper, y_guestName, y_kind, y_offTold, y_pace, y_cooks, y_snow, y_lineFrom, y_lineTo, y_codes, .int y_code, .int y_toldLines, y_opened, y_compared, y_kept, y_keptBy, y_ahead, y_against, y_sum, y_sumBy, y_term, y_termBy, y_byNot, y_valueOf, .int y_given, .ref b_lines, y_lineWhat, y_lineA, y_lineB, .ref b_seens, y_seenIn, y_seenYards, y_seenNear, .ref b_s, y_aside, y_before, y_marked, y_undone, y_isLaid, .int 0, .int y_snowNow, .int y_cameNow, .int y_cookThen, .int y_tasteThen, y_places, y_comesAt, y_yardsIn, .long y_g]), (b_supper, kI k 8 c_supper), (b_s, kI k 46 c_s), (b_lines, kI k 6 c_lines), (b_seens, kI k 5 c_seens)] := hD
  refine lv_iload_n hx hb dX9_count_5 rfl (lv_at hl 1 rfl) ?_
  refine lv_iconst (v := 0) hx hb dX9_count_6 (by decide) ?_
  refine lv_bipush (v := 12) hx hb dX9_count_7 (by decide) ?_
  refine kz_Si (As := [.int q, .int 0, .int 12]) (rest := []) (wc := []) (wr := [(y, kO 9 [.int 0, .int 0, y_tape, .int y_size, .int y_place, .int y_begin, .int y_token, .long y_word, .int y_told, .int y_wrong, .ref b_supper, y_guestName, y_kind, y_offTold, y_pace, y_cooks, y_snow, y_lineFrom, y_lineTo, y_codes, .int y_code, .int y_toldLines, y_opened, y_compared, y_kept, y_keptBy, y_ahead, y_against, y_sum, y_sumBy, y_term, y_termBy, y_byNot, y_valueOf, .int y_given, .ref b_lines, y_lineWhat, y_lineA, y_lineB, .ref b_seens, y_seenIn, y_seenYards, y_seenNear, .ref b_s, y_aside, y_before, y_marked, y_undone, y_isLaid, .int 0, .int y_snowNow, .int y_cameNow, .int y_cookThen, .int y_tasteThen, y_places, y_comesAt, y_yardsIn, .long y_g]), (b_supper, kI k 8 c_supper), (b_s, kI k 46 c_s), (b_lines, kI k 6 c_lines), (b_seens, kI k 5 c_seens)]) ⟨hx, hb, hml, hown, hts⟩ hK hE hP hD hS hA (mX9_within l D k H.size q 0 12) (va_cwS 3 hts gX9_count_X9_within rfl rfl rfl (by decide +kernel) (by rw [hR]; exact ⟨Nat.le_of_ble_eq_true rfl, Nat.le_of_ble_eq_true rfl⟩)) [] [0, 1, 2, 3, 4] rfl rfl (by decide) (by decide) (by decide) rfl hl.1 rfl (Nat.le_of_ble_eq_true rfl) dX9_count_9 (by rw [hR]; exact ⟨Nat.le_of_ble_eq_true rfl, Nat.le_of_ble_eq_true rfl⟩) (fun r87 u87 H locs hw87 hP hD hS => ?_)
  try dsimp only at hw87
  obtain rfl : r87 = bz (0 ≤ q ∧ q ≤ 12) := hw87
  have hP : va_P D vwCl [(y, kO 9 [.int 0, .int 0, y_tape, .int y_size, .int y_place, .int y_begin, .int y_token, .long y_word, .int y_told, .int y_wrong, .ref b_supper, y_guestName, y_kind, y_offTold, y_pace, y_cooks, y_snow, y_lineFrom, y_lineTo, y_codes, .int y_code, .int y_toldLines, y_opened, y_compared, y_kept, y_keptBy, y_ahead, y_against, y_sum, y_sumBy, y_term, y_termBy, y_byNot, y_valueOf, .int y_given, .ref b_lines, y_lineWhat, y_lineA, y_lineB, .ref b_seens, y_seenIn, y_seenYards, y_seenNear, .ref b_s, y_aside, y_before, y_marked, y_undone, y_isLaid, .int 0, .int y_snowNow, .int y_cameNow, .int y_cookThen, .int y_tasteThen, y_places, y_comesAt, y_yardsIn, .long y_g]), (b_supper, kI k 8 c_supper), (b_s, kI k 46 c_s), (b_lines, kI k 6 c_lines), (b_seens, kI k 5 c_seens)] H := hP
  have hD : va_D A [(y, kO 9 [.int 0, .int 0, y_tape, .int y_size, .int y_place, .int y_begin, .int y_token, .long y_word, .int y_told, .int y_wrong, .ref b_supper, y_guestName, y_kind, y_offTold, y_pace, y_cooks, y_snow, y_lineFrom, y_lineTo, y_codes, .int y_code, .int y_toldLines, y_opened, y_compared, y_kept, y_keptBy, y_ahead, y_against, y_sum, y_sumBy, y_term, y_termBy, y_byNot, y_valueOf, .int y_given, .ref b_lines, y_lineWhat, y_lineA, y_lineB, .ref b_seens, y_seenIn, y_seenYards, y_seenNear, .ref b_s, y_aside, y_before, y_marked, y_undone, y_isLaid, .int 0, .int y_snowNow, .int y_cameNow, .int y_cookThen, .int y_tasteThen, y_places, y_comesAt, y_yardsIn, .long y_g]), (b_supper, kI k 8 c_supper), (b_s, kI k 46 c_s), (b_lines, kI k 6 c_lines), (b_seens, kI k 5 c_seens)] := hD
  refine lv_if_ne (tgt := 19) hx hb dX9_count_12 (by decide) (fun c_88 => ?_) (fun c_88 => ?_)
  · skip
    exact absurd (bz_1 c_88) (fun h => by have h1 : (0 : Int) ≤ q.toInt := Int32.le_iff_toInt_le.mp h.1; have h2 : q.toInt ≤ 12 := Int32.le_iff_toInt_le.mp h.2; omega)
  · skip
    refine lv_sipush (v := (-1000)) hx hb dX9_count_15 (by decide) ?_
    rw [hQ]
    have hP9 := hP.sub (ws' := []) [] rfl
    have hD9 := hD.sub (ws' := []) [] (by decide) rfl
    exact W.iret (v := (-1000)) hx hb hr (fun zt ht hW => ⟨⟨(-1000), (), rfl, (by unfold aC; rw [if_neg w0_1, if_neg w0_2, if_neg (bz_0 c_88)]), by rw [ht]; exact hP9, hD9⟩, hS.F ht⟩) hS.2.2 dX9_count_18
theorem dX9_feed_0 : decode cX9_feed 0 = .ok (.aload_n 0, 1) := by decide +kernel
theorem dX9_feed_1 : decode cX9_feed 1 = .ok (.iconst 0, 1) := by decide +kernel
theorem dX9_feed_2 : decode cX9_feed 2 = .ok (.putfield 143, 3) := by decide +kernel
theorem dX9_feed_5 : decode cX9_feed 5 = .ok (.iconst 0, 1) := by decide +kernel
theorem dX9_feed_6 : decode cX9_feed 6 = .ok (.istore 7, 2) := by decide +kernel
theorem dX9_feed_8 : decode cX9_feed 8 = .ok (.iload 7, 2) := by decide +kernel
theorem dX9_feed_10 : decode cX9_feed 10 = .ok (.bipush 24, 2) := by decide +kernel
theorem dX9_feed_12 : decode cX9_feed 12 = .ok (.if_icmp .ge 108, 3) := by decide +kernel
theorem dX9_feed_15 : decode cX9_feed 15 = .ok (.iload 7, 2) := by decide +kernel
theorem dX9_feed_17 : decode cX9_feed 17 = .ok (.bipush 8, 2) := by decide +kernel
theorem dX9_feed_19 : decode cX9_feed 19 = .ok (.if_icmp .ge 7, 3) := by decide +kernel
theorem dX9_feed_22 : decode cX9_feed 22 = .ok (.lload_n 1, 1) := by decide +kernel
theorem dX9_feed_23 : decode cX9_feed 23 = .ok (.goto 16, 3) := by decide +kernel
theorem dX9_feed_26 : decode cX9_feed 26 = .ok (.iload 7, 2) := by decide +kernel
theorem dX9_feed_28 : decode cX9_feed 28 = .ok (.bipush 16, 2) := by decide +kernel
theorem dX9_feed_30 : decode cX9_feed 30 = .ok (.if_icmp .ge 7, 3) := by decide +kernel
theorem dX9_feed_33 : decode cX9_feed 33 = .ok (.lload_n 3, 1) := by decide +kernel
theorem dX9_feed_34 : decode cX9_feed 34 = .ok (.goto 5, 3) := by decide +kernel
theorem dX9_feed_37 : decode cX9_feed 37 = .ok (.lload 5, 2) := by decide +kernel
theorem dX9_feed_39 : decode cX9_feed 39 = .ok (.lstore 8, 2) := by decide +kernel
theorem dX9_feed_41 : decode cX9_feed 41 = .ok (.lload 8, 2) := by decide +kernel
theorem dX9_feed_43 : decode cX9_feed 43 = .ok (.bipush 56, 2) := by decide +kernel
theorem dX9_feed_45 : decode cX9_feed 45 = .ok (.bipush 8, 2) := by decide +kernel
theorem dX9_feed_47 : decode cX9_feed 47 = .ok (.iload 7, 2) := by decide +kernel
theorem dX9_feed_49 : decode cX9_feed 49 = .ok (.bipush 7, 2) := by decide +kernel
theorem dX9_feed_51 : decode cX9_feed 51 = .ok (.iand, 1) := by decide +kernel
theorem dX9_feed_52 : decode cX9_feed 52 = .ok (.imul, 1) := by decide +kernel
theorem dX9_feed_53 : decode cX9_feed 53 = .ok (.isub, 1) := by decide +kernel
theorem dX9_feed_54 : decode cX9_feed 54 = .ok (.lushr, 1) := by decide +kernel
theorem dX9_feed_55 : decode cX9_feed 55 = .ok (.ldc2_w 146, 3) := by decide +kernel
theorem dX9_feed_58 : decode cX9_feed 58 = .ok (.land, 1) := by decide +kernel
theorem dX9_feed_59 : decode cX9_feed 59 = .ok (.l2i, 1) := by decide +kernel
theorem dX9_feed_60 : decode cX9_feed 60 = .ok (.istore 10, 2) := by decide +kernel
theorem dX9_feed_62 : decode cX9_feed 62 = .ok (.aload_n 0, 1) := by decide +kernel
theorem dX9_feed_63 : decode cX9_feed 63 = .ok (.getfield 148, 3) := by decide +kernel
theorem dX9_feed_66 : decode cX9_feed 66 = .ok (.sipush 1000, 3) := by decide +kernel
theorem dX9_feed_69 : decode cX9_feed 69 = .ok (.if_icmp .ge 45, 3) := by decide +kernel
theorem dX9_feed_72 : decode cX9_feed 72 = .ok (.iload 10, 2) := by decide +kernel
theorem dX9_feed_74 : decode cX9_feed 74 = .ok (.bipush 10, 2) := by decide +kernel
theorem dX9_feed_76 : decode cX9_feed 76 = .ok (.if_icmp .eq 17, 3) := by decide +kernel
theorem dX9_feed_79 : decode cX9_feed 79 = .ok (.iload 10, 2) := by decide +kernel
theorem dX9_feed_81 : decode cX9_feed 81 = .ok (.bipush 32, 2) := by decide +kernel
theorem dX9_feed_83 : decode cX9_feed 83 = .ok (.if_icmp .lt 31, 3) := by decide +kernel
theorem dX9_feed_86 : decode cX9_feed 86 = .ok (.iload 10, 2) := by decide +kernel
theorem dX9_feed_88 : decode cX9_feed 88 = .ok (.bipush 126, 2) := by decide +kernel
theorem dX9_feed_90 : decode cX9_feed 90 = .ok (.if_icmp .gt 24, 3) := by decide +kernel
theorem dX9_feed_93 : decode cX9_feed 93 = .ok (.aload_n 0, 1) := by decide +kernel
theorem dX9_feed_94 : decode cX9_feed 94 = .ok (.getfield 7, 3) := by decide +kernel
theorem dX9_feed_97 : decode cX9_feed 97 = .ok (.aload_n 0, 1) := by decide +kernel
theorem dX9_feed_98 : decode cX9_feed 98 = .ok (.getfield 148, 3) := by decide +kernel
theorem dX9_feed_101 : decode cX9_feed 101 = .ok (.iload 10, 2) := by decide +kernel
theorem dX9_feed_103 : decode cX9_feed 103 = .ok (.iastore, 1) := by decide +kernel
theorem dX9_feed_104 : decode cX9_feed 104 = .ok (.aload_n 0, 1) := by decide +kernel
theorem dX9_feed_105 : decode cX9_feed 105 = .ok (.dup, 1) := by decide +kernel
theorem dX9_feed_106 : decode cX9_feed 106 = .ok (.getfield 148, 3) := by decide +kernel
theorem dX9_feed_109 : decode cX9_feed 109 = .ok (.iconst 1, 1) := by decide +kernel
theorem dX9_feed_110 : decode cX9_feed 110 = .ok (.iadd, 1) := by decide +kernel
theorem dX9_feed_111 : decode cX9_feed 111 = .ok (.putfield 148, 3) := by decide +kernel
theorem dX9_feed_114 : decode cX9_feed 114 = .ok (.iinc 7 1, 3) := by decide +kernel
theorem dX9_feed_117 : decode cX9_feed 117 = .ok (.goto (-109), 3) := by decide +kernel
theorem dX9_feed_120 : decode cX9_feed 120 = .ok (.aload_n 0, 1) := by decide +kernel
theorem dX9_feed_121 : decode cX9_feed 121 = .ok (.getfield 148, 3) := by decide +kernel
theorem dX9_feed_124 : decode cX9_feed 124 = .ok (.ireturn, 1) := by decide +kernel
set_option maxHeartbeats 4000000 in
set_option maxRecDepth 100000 in
theorem mX9_feed (l : Launch) (D : va_G) (k : Nat → ClassId) (sz : Nat) (y : Nat) (q1 : Int64) (q2 : Int64) (q3 : Int64) (y_thrown : Int32) (b_tape : Nat) (y_size : Int32) (y_place : Int32) (y_begin : Int32) (y_token : Int32) (y_word : Int64) (y_told : Int32) (y_wrong : Int32) (y_supper : Value) (y_guestName : Value) (y_kind : Value) (y_offTold : Value) (y_pace : Value) (y_cooks : Value) (y_snow : Value) (y_lineFrom : Value) (y_lineTo : Value) (y_codes : Value) (y_code : Int32) (y_toldLines : Int32) (y_opened : Value) (y_compared : Value) (y_kept : Value) (y_keptBy : Value) (y_ahead : Value) (y_against : Value) (y_sum : Value) (y_sumBy : Value) (y_term : Value) (y_termBy : Value) (y_byNot : Value) (y_valueOf : Value) (y_given : Int32) (y_lines : Value) (y_lineWhat : Value) (y_lineA : Value) (y_lineB : Value) (y_seens : Value) (y_seenIn : Value) (y_seenYards : Value) (y_seenNear : Value) (y_s : Value) (y_aside : Value) (y_before : Value) (y_marked : Value) (y_undone : Value) (y_isLaid : Value) (y_done : Int32) (y_snowNow : Int32) (y_cameNow : Int32) (y_cookThen : Int32) (y_tasteThen : Int32) (y_places : Value) (y_comesAt : Value) (y_yardsIn : Value) (y_g : Int64) (c_tape : Nat → Int32) : Met l yX9_feed wsX9_feed ({ frames := 0, cells := 0, slots := 0, locals := 0 }) (va_Pc [.ref y, .long q1, .long q2, .long q3] (kz_Pre D k [(y, kO 9 [.int y_thrown, .int 0, .ref b_tape, .int y_size, .int y_place, .int y_begin, .int y_token, .long y_word, .int y_told, .int y_wrong, y_supper, y_guestName, y_kind, y_offTold, y_pace, y_cooks, y_snow, y_lineFrom, y_lineTo, y_codes, .int y_code, .int y_toldLines, y_opened, y_compared, y_kept, y_keptBy, y_ahead, y_against, y_sum, y_sumBy, y_term, y_termBy, y_byNot, y_valueOf, .int y_given, y_lines, y_lineWhat, y_lineA, y_lineB, y_seens, y_seenIn, y_seenYards, y_seenNear, y_s, y_aside, y_before, y_marked, y_undone, y_isLaid, .int y_done, .int y_snowNow, .int y_cameNow, .int y_cookThen, .int y_tasteThen, y_places, y_comesAt, y_yardsIn, .long y_g]), (b_tape, kI k 1000 c_tape)] sz)) (va_Qi (fun (rr : Int32) (uu : Unit) => rr = aF q1 q2 q3) (fun uu zt => kz_B D (va_A [(y, kO 9 [.int y_thrown, .int 0, .ref b_tape, .int y_size, .int y_place, .int y_begin, .int y_token, .long y_word, .int y_told, .int y_wrong, y_supper, y_guestName, y_kind, y_offTold, y_pace, y_cooks, y_snow, y_lineFrom, y_lineTo, y_codes, .int y_code, .int y_toldLines, y_opened, y_compared, y_kept, y_keptBy, y_ahead, y_against, y_sum, y_sumBy, y_term, y_termBy, y_byNot, y_valueOf, .int y_given, y_lines, y_lineWhat, y_lineA, y_lineB, y_seens, y_seenIn, y_seenYards, y_seenNear, y_s, y_aside, y_before, y_marked, y_undone, y_isLaid, .int y_done, .int y_snowNow, .int y_cameNow, .int y_cookThen, .int y_tasteThen, y_places, y_comesAt, y_yardsIn, .long y_g]), (b_tape, kI k 1000 c_tape)] sz) [] zt) (va_A [(y, kO 9 [.int y_thrown, .int 0, .ref b_tape, .int y_size, .int y_place, .int y_begin, .int y_token, .long y_word, .int y_told, .int y_wrong, y_supper, y_guestName, y_kind, y_offTold, y_pace, y_cooks, y_snow, y_lineFrom, y_lineTo, y_codes, .int y_code, .int y_toldLines, y_opened, y_compared, y_kept, y_keptBy, y_ahead, y_against, y_sum, y_sumBy, y_term, y_termBy, y_byNot, y_valueOf, .int y_given, y_lines, y_lineWhat, y_lineA, y_lineB, y_seens, y_seenIn, y_seenYards, y_seenNear, y_s, y_aside, y_before, y_marked, y_undone, y_isLaid, .int y_done, .int y_snowNow, .int y_cameNow, .int y_cookThen, .int y_tasteThen, y_places, y_comesAt, y_yardsIn, .long y_g]), (b_tape, kI k 1000 c_tape)] sz)) 0 0 (va_A [(y, kO 9 [.int y_thrown, .int 0, .ref b_tape, .int y_size, .int y_place, .int y_begin, .int y_token, .long y_word, .int y_told, .int y_wrong, y_supper, y_guestName, y_kind, y_offTold, y_pace, y_cooks, y_snow, y_lineFrom, y_lineTo, y_codes, .int y_code, .int y_toldLines, y_opened, y_compared, y_kept, y_keptBy, y_ahead, y_against, y_sum, y_sumBy, y_term, y_termBy, y_byNot, y_valueOf, .int y_given, y_lines, y_lineWhat, y_lineA, y_lineB, y_seens, y_seenIn, y_seenYards, y_seenNear, y_s, y_aside, y_before, y_marked, y_undone, y_isLaid, .int y_done, .int y_snowNow, .int y_cameNow, .int y_cookThen, .int y_tasteThen, y_places, y_comesAt, y_yardsIn, .long y_g]), (b_tape, kI k 1000 c_tape)] sz) := by
  refine Met.ofW (cc := cX9_feed) (maxL := 11) (ret := (some .int)) (by decide) rfl ?_
  intro p e s m args below meth c s₁ B hml hv
  obtain ⟨hav, hsz, hP, hK, hD0, hE⟩ := hv
  have hx := B.exec
  have hb := B.bytes
  have hr := B.returns
  have hts := atoms_spec (ws := wsX9_feed) B.pre
  have hown : s.vm.findClass RX9 = some m.cls := findClass_of_methodNamed B.named
  have hlocks := B.notSynchronized
  have hi9 : ∀ w ∈ u_ws RX9 TX9 58, w ∈ wsX9_feed := by decide +kernel
  have lf143 := hts (.fieldLink RX9 143 "LastCookModel" "thrown" "I") (by decide +kernel)
  have lf148 := hts (.fieldLink RX9 148 "LastCookModel" "taped" "I") (by decide +kernel)
  have lc146 := hts (.constantLong RX9 146 (255)) (by decide +kernel)
  have lf7 := hts (.fieldLink RX9 7 "LastCookModel" "tape" "[I") (by decide +kernel)
  subst hsz
  have hD := hD0.self (sz := s.heap.size)
  generalize hAe : va_A [(y, kO 9 [.int y_thrown, .int 0, .ref b_tape, .int y_size, .int y_place, .int y_begin, .int y_token, .long y_word, .int y_told, .int y_wrong, y_supper, y_guestName, y_kind, y_offTold, y_pace, y_cooks, y_snow, y_lineFrom, y_lineTo, y_codes, .int y_code, .int y_toldLines, y_opened, y_compared, y_kept, y_keptBy, y_ahead, y_against, y_sum, y_sumBy, y_term, y_termBy, y_byNot, y_valueOf, .int y_given, y_lines, y_lineWhat, y_lineA, y_lineB, y_seens, y_seenIn, y_seenYards, y_seenNear, y_s, y_aside, y_before, y_marked, y_undone, y_isLaid, .int y_done, .int y_snowNow, .int y_cameNow, .int y_cookThen, .int y_tasteThen, y_places, y_comesAt, y_yardsIn, .long y_g]), (b_tape, kI k 1000 c_tape)] s.heap.size = A at hD ⊢
  have hA : ∀ q : Nat, s.heap.size ≤ q → A q := fun q h => by rw [← hAe]; exact Or.inr h
  have hS : va_S A s.heap s.heap [] := va_S.rf
  have hl := lv_entry ([.ref y, .long q1, .long q2, .long q3]) (n := 11) (Nat.le_of_ble_eq_true rfl)
  rw [show entryFrame m args 11 = entryFrame m ([.ref y, .long q1, .long q2, .long q3] : List Value).toArray 11 by rw [hav], lg_entry_eq]
  generalize (lg_sl ([.ref y, .long q1, .long q2, .long q3]) ++ List.replicate (11 - (lg_sl ([.ref y, .long q1, .long q2, .long q3])).length) Slot.unset).toArray = ls at hl ⊢
  have hl : lv_has ls 11 [(0, .ref y), (1, .long q1), (3, .long q2), (5, .long q3)] := hl
  obtain ⟨R, hR⟩ : ∃ R, R = (headSpec wsX9_feed ({ frames := 0, cells := 0, slots := 0, locals := 0 } : Room)).room := ⟨_, rfl⟩
  rw [← hR]
  generalize hQ : MQ below _ args s 0 0 A = Q
  replace hQ := hQ.symm
  obtain ⟨H, hH⟩ : ∃ H, H = s.heap := ⟨_, rfl⟩
  rw [← hH] at hP ⊢
  have hS : va_S A s.heap H [] := by rw [hH]; exact hS
  refine lv_aload_n hx hb dX9_feed_0 rfl (lv_at hl 0 rfl) ?_
  refine lv_iconst (v := 0) hx hb dX9_feed_1 (by decide) ?_
  refine va_put (D := D) (ci := 9) (v := .int 0) (ty := .int) (C := RX9) (T := TX9) (N := 58) hx hb hts hi9 tyX9 tyX9_ok nmX9 hown hK hP hD hS 0 rfl rfl 0 (by decide) lf143 (fun _ h9 => h9) rfl (by decide +kernel) rfl rfl (Nat.le_of_ble_eq_true rfl) dX9_feed_2 (fun H locs hP hD hS => ?_)
  have hP : va_P D vwCl [(y, kO 9 [.int 0, .int 0, .ref b_tape, .int y_size, .int y_place, .int y_begin, .int y_token, .long y_word, .int y_told, .int y_wrong, y_supper, y_guestName, y_kind, y_offTold, y_pace, y_cooks, y_snow, y_lineFrom, y_lineTo, y_codes, .int y_code, .int y_toldLines, y_opened, y_compared, y_kept, y_keptBy, y_ahead, y_against, y_sum, y_sumBy, y_term, y_termBy, y_byNot, y_valueOf, .int y_given, y_lines, y_lineWhat, y_lineA, y_lineB, y_seens, y_seenIn, y_seenYards, y_seenNear, y_s, y_aside, y_before, y_marked, y_undone, y_isLaid, .int y_done, .int y_snowNow, .int y_cameNow, .int y_cookThen, .int y_tasteThen, y_places, y_comesAt, y_yardsIn, .long y_g]), (b_tape, kI k 1000 c_tape)] H := hP
  have hD : va_D A [(y, kO 9 [.int 0, .int 0, .ref b_tape, .int y_size, .int y_place, .int y_begin, .int y_token, .long y_word, .int y_told, .int y_wrong, y_supper, y_guestName, y_kind, y_offTold, y_pace, y_cooks, y_snow, y_lineFrom, y_lineTo, y_codes, .int y_code, .int y_toldLines, y_opened, y_compared, y_kept, y_keptBy, y_ahead, y_against, y_sum, y_sumBy, y_term, y_termBy, y_byNot, y_valueOf, .int y_given, y_lines, y_lineWhat, y_lineA, y_lineB, y_seens, y_seenIn, y_seenYards, y_seenNear, y_s, y_aside, y_before, y_marked, y_undone, y_isLaid, .int y_done, .int y_snowNow, .int y_cameNow, .int y_cookThen, .int y_tasteThen, y_places, y_comesAt, y_yardsIn, .long y_g]), (b_tape, kI k 1000 c_tape)] := hD
  refine lv_iconst (v := 0) hx hb dX9_feed_5 (by decide) ?_
  refine lv_istore (lv' := [(7, .int 0), (0, .ref y), (1, .long q1), (3, .long q2), (5, .long q3)]) hx hb dX9_feed_6 hl (by decide) rfl (fun ls hl => ?_)
  have hloop8 : ∀ (n : Nat) (j : Nat) (n9 : Nat) (f9 : Nat → Int32), 24 - j < n → (j ≤ 24) → (n9 = kn (bytM q1 q2 q3) j) → (n9 ≤ j) → ∀ (H : Heap) (locs : List Loc) (ls : Array Slot), va_P D vwCl [(y, kO 9 [.int 0, .int (nI n9), .ref b_tape, .int y_size, .int y_place, .int y_begin, .int y_token, .long y_word, .int y_told, .int y_wrong, y_supper, y_guestName, y_kind, y_offTold, y_pace, y_cooks, y_snow, y_lineFrom, y_lineTo, y_codes, .int y_code, .int y_toldLines, y_opened, y_compared, y_kept, y_keptBy, y_ahead, y_against, y_sum, y_sumBy, y_term, y_termBy, y_byNot, y_valueOf, .int y_given, y_lines, y_lineWhat, y_lineA, y_lineB, y_seens, y_seenIn, y_seenYards, y_seenNear, y_s, y_aside, y_before, y_marked, y_undone, y_isLaid, .int y_done, .int y_snowNow, .int y_cameNow, .int y_cookThen, .int y_tasteThen, y_places, y_comesAt, y_yardsIn, .long y_g]), (b_tape, kI k 1000 f9)] H → va_D A [(y, kO 9 [.int 0, .int (nI n9), .ref b_tape, .int y_size, .int y_place, .int y_begin, .int y_token, .long y_word, .int y_told, .int y_wrong, y_supper, y_guestName, y_kind, y_offTold, y_pace, y_cooks, y_snow, y_lineFrom, y_lineTo, y_codes, .int y_code, .int y_toldLines, y_opened, y_compared, y_kept, y_keptBy, y_ahead, y_against, y_sum, y_sumBy, y_term, y_termBy, y_byNot, y_valueOf, .int y_given, y_lines, y_lineWhat, y_lineA, y_lineB, y_seens, y_seenIn, y_seenYards, y_seenNear, y_s, y_aside, y_before, y_marked, y_undone, y_isLaid, .int y_done, .int y_snowNow, .int y_cameNow, .int y_cookThen, .int y_tasteThen, y_places, y_comesAt, y_yardsIn, .long y_g]), (b_tape, kI k 1000 f9)] → va_S A s.heap H locs → lv_has ls 11 [(7, .int (nI j)), (0, .ref y), (1, .long q1), (3, .long q2), (5, .long q3)] → W p l e R s m args below meth c H locs 0 0 Q (F0 m 8 ls []) := by
    intro n8
    induction n8 with
    | zero => intro j n9 f9 hm; exact absurd hm (Nat.not_lt_zero _)
    | succ n8 ih8 =>
      intro j n9 f9 hm8 hj hn9 hb9 H locs ls hP hD hS hl
      refine lv_iload hx hb dX9_feed_8 (lv_at hl 0 rfl) ?_
      refine lv_bipush (v := 24) hx hb dX9_feed_10 (by decide) ?_
      refine lv_icmp_ge (tgt := 120) hx hb dX9_feed_12 (by decide) (fun c_1 => ?_) (fun c_1 => ?_)
      · skip
        have k_1 : 24 ≤ j := (nI_leI (a := 24) (b := j) (by omega) (by omega)).mp c_1
        obtain rfl : j = 24 := by omega
        refine lv_aload_n hx hb dX9_feed_120 rfl (lv_at hl 1 rfl) ?_
        refine va_get (D := D) (ci := 9) (v := .int (nI n9)) (C := RX9) (T := TX9) (N := 58) hx hb hts hi9 hown hK hP 0 rfl rfl 1 (by decide) lf148 (fun _ h9 => h9) rfl dX9_feed_121 ?_
        rw [hQ]
        have hP9 := hP.sub (ws' := []) [] rfl
        have hD9 := hD.sub (ws' := []) [] (by decide) rfl
        exact W.iret (v := (nI n9)) hx hb hr (fun zt ht hW => ⟨⟨(nI n9), (), rfl, (show nI n9 = aF q1 q2 q3 by unfold aF; rw [← kn_M q1 q2 q3, hn9]), by rw [ht]; exact hP9, hD9⟩, hS.F ht⟩) hS.2.2 dX9_feed_124
      · skip
        have k_1 : ¬ (24 ≤ j) := fun h => c_1 ((nI_leI (a := 24) (b := j) (by omega) (by omega)).mpr h)
        refine lv_iload hx hb dX9_feed_15 (lv_at hl 0 rfl) ?_
        refine lv_bipush (v := 8) hx hb dX9_feed_17 (by decide) ?_
        refine lv_icmp_ge (tgt := 26) hx hb dX9_feed_19 (by decide) (fun c_2 => ?_) (fun c_2 => ?_)
        · skip
          have k_2 : 8 ≤ j := (nI_leI (a := 8) (b := j) (by omega) (by omega)).mp c_2
          refine lv_iload hx hb dX9_feed_26 (lv_at hl 0 rfl) ?_
          refine lv_bipush (v := 16) hx hb dX9_feed_28 (by decide) ?_
          refine lv_icmp_ge (tgt := 37) hx hb dX9_feed_30 (by decide) (fun c_3 => ?_) (fun c_3 => ?_)
          · skip
            have k_3 : 16 ≤ j := (nI_leI (a := 16) (b := j) (by omega) (by omega)).mp c_3
            refine lv_lload hx hb dX9_feed_37 (lv_at hl 4 rfl) ?_
            refine lv_lstore (lv' := [(8, .long q3), (7, .int (nI j)), (0, .ref y), (1, .long q1), (3, .long q2), (5, .long q3)]) hx hb dX9_feed_39 hl (by decide) rfl (fun ls hl => ?_)
            refine lv_lload hx hb dX9_feed_41 (lv_at hl 0 rfl) ?_
            refine lv_bipush (v := 56) hx hb dX9_feed_43 (by decide) ?_
            refine lv_bipush (v := 8) hx hb dX9_feed_45 (by decide) ?_
            refine lv_iload hx hb dX9_feed_47 (lv_at hl 1 rfl) ?_
            refine lv_bipush (v := 7) hx hb dX9_feed_49 (by decide) ?_
            refine lv_iand hx hb dX9_feed_51 ?_
            refine lv_imul hx hb dX9_feed_52 ?_
            refine lv_isub hx hb dX9_feed_53 ?_
            refine lv_lushr hx hb dX9_feed_54 rfl ?_
            refine lv_ldc2 hx hb hown lc146 dX9_feed_55 ?_
            refine lv_land hx hb dX9_feed_58 ?_
            refine lv_l2i hx hb dX9_feed_59 rfl ?_
            refine lv_istore (lv' := [(10, .int ((((q3.toUInt64 >>> ((56 - (8 * ((nI j) &&& 7))).toInt64.toUInt64 &&& Int64.toUInt64 63)).toInt64) &&& 255).toInt32)), (8, .long q3), (7, .int (nI j)), (0, .ref y), (1, .long q1), (3, .long q2), (5, .long q3)]) hx hb dX9_feed_60 hl (by decide) rfl (fun ls hl => ?_)
            refine lv_aload_n hx hb dX9_feed_62 rfl (lv_at hl 3 rfl) ?_
            refine va_get (D := D) (ci := 9) (v := .int (nI n9)) (C := RX9) (T := TX9) (N := 58) hx hb hts hi9 hown hK hP 0 rfl rfl 1 (by decide) lf148 (fun _ h9 => h9) rfl dX9_feed_63 ?_
            refine lv_sipush (v := 1000) hx hb dX9_feed_66 (by decide) ?_
            refine lv_icmp_ge (tgt := 114) hx hb dX9_feed_69 (by decide) (fun c_4 => absurd c_4 (fun h => absurd ((nI_leI (a := 1000) (b := n9) (by decide) (by omega)).mp h) (by omega))) (fun c_4 => ?_)
            refine lv_iload hx hb dX9_feed_72 (lv_at hl 0 rfl) ?_
            refine lv_bipush (v := 10) hx hb dX9_feed_74 (by decide) ?_
            refine lv_icmp_eq (tgt := 93) hx hb dX9_feed_76 (by decide) (fun c_5 => ?_) (fun c_5 => ?_)
            · skip
              refine lv_aload_n hx hb dX9_feed_93 rfl (lv_at hl 3 rfl) ?_
              refine va_get (D := D) (ci := 9) (v := .ref b_tape) (C := RX9) (T := TX9) (N := 58) hx hb hts hi9 hown hK hP 0 rfl rfl 2 (by decide) lf7 (fun _ h9 => h9) rfl dX9_feed_94 ?_
              refine lv_aload_n hx hb dX9_feed_97 rfl (lv_at hl 3 rfl) ?_
              refine va_get (D := D) (ci := 9) (v := .int (nI n9)) (C := RX9) (T := TX9) (N := 58) hx hb hts hi9 hown hK hP 0 rfl rfl 1 (by decide) lf148 (fun _ h9 => h9) rfl dX9_feed_98 ?_
              refine lv_iload hx hb dX9_feed_101 (lv_at hl 0 rfl) ?_
              refine va_iast hx hb hK hP hD hS 1 0 rfl rfl (vp_in_nI (n := n9) (by omega) (by omega)) dX9_feed_103 (fun H locs hP hD hS => ?_)
              have hP : va_P D vwCl [(y, kO 9 [.int 0, .int (nI n9), .ref b_tape, .int y_size, .int y_place, .int y_begin, .int y_token, .long y_word, .int y_told, .int y_wrong, y_supper, y_guestName, y_kind, y_offTold, y_pace, y_cooks, y_snow, y_lineFrom, y_lineTo, y_codes, .int y_code, .int y_toldLines, y_opened, y_compared, y_kept, y_keptBy, y_ahead, y_against, y_sum, y_sumBy, y_term, y_termBy, y_byNot, y_valueOf, .int y_given, y_lines, y_lineWhat, y_lineA, y_lineB, y_seens, y_seenIn, y_seenYards, y_seenNear, y_s, y_aside, y_before, y_marked, y_undone, y_isLaid, .int y_done, .int y_snowNow, .int y_cameNow, .int y_cookThen, .int y_tasteThen, y_places, y_comesAt, y_yardsIn, .long y_g]), (b_tape, kI k 1000 (upd f9 (Int32.toNatClampNeg (nI n9)) ((((q3.toUInt64 >>> ((56 - (8 * ((nI j) &&& 7))).toInt64.toUInt64 &&& Int64.toUInt64 63)).toInt64) &&& 255).toInt32)))] H := hP
              have hD : va_D A [(y, kO 9 [.int 0, .int (nI n9), .ref b_tape, .int y_size, .int y_place, .int y_begin, .int y_token, .long y_word, .int y_told, .int y_wrong, y_supper, y_guestName, y_kind, y_offTold, y_pace, y_cooks, y_snow, y_lineFrom, y_lineTo, y_codes, .int y_code, .int y_toldLines, y_opened, y_compared, y_kept, y_keptBy, y_ahead, y_against, y_sum, y_sumBy, y_term, y_termBy, y_byNot, y_valueOf, .int y_given, y_lines, y_lineWhat, y_lineA, y_lineB, y_seens, y_seenIn, y_seenYards, y_seenNear, y_s, y_aside, y_before, y_marked, y_undone, y_isLaid, .int y_done, .int y_snowNow, .int y_cameNow, .int y_cookThen, .int y_tasteThen, y_places, y_comesAt, y_yardsIn, .long y_g]), (b_tape, kI k 1000 (upd f9 (Int32.toNatClampNeg (nI n9)) ((((q3.toUInt64 >>> ((56 - (8 * ((nI j) &&& 7))).toInt64.toUInt64 &&& Int64.toUInt64 63)).toInt64) &&& 255).toInt32)))] := hD
              refine lv_aload_n hx hb dX9_feed_104 rfl (lv_at hl 3 rfl) ?_
              refine lv_dup hx hb dX9_feed_105 rfl ?_
              refine va_get (D := D) (ci := 9) (v := .int (nI n9)) (C := RX9) (T := TX9) (N := 58) hx hb hts hi9 hown hK hP 0 rfl rfl 1 (by decide) lf148 (fun _ h9 => h9) rfl dX9_feed_106 ?_
              refine lv_iconst (v := 1) hx hb dX9_feed_109 (by decide) ?_
              refine lv_iadd hx hb dX9_feed_110 ?_
              refine lv_topi (fun x6 ex6 => ?_)
              obtain rfl : x6 = (nI (n9 + 1)) := ex6.trans (nI_add n9 1)
              refine va_put (D := D) (ci := 9) (v := .int (nI (n9 + 1))) (ty := .int) (C := RX9) (T := TX9) (N := 58) hx hb hts hi9 tyX9 tyX9_ok nmX9 hown hK hP hD hS 0 rfl rfl 1 (by decide) lf148 (fun _ h9 => h9) rfl (by decide +kernel) rfl rfl (Nat.le_of_ble_eq_true rfl) dX9_feed_111 (fun H locs hP hD hS => ?_)
              have hP : va_P D vwCl [(y, kO 9 [.int 0, .int (nI (n9 + 1)), .ref b_tape, .int y_size, .int y_place, .int y_begin, .int y_token, .long y_word, .int y_told, .int y_wrong, y_supper, y_guestName, y_kind, y_offTold, y_pace, y_cooks, y_snow, y_lineFrom, y_lineTo, y_codes, .int y_code, .int y_toldLines, y_opened, y_compared, y_kept, y_keptBy, y_ahead, y_against, y_sum, y_sumBy, y_term, y_termBy, y_byNot, y_valueOf, .int y_given, y_lines, y_lineWhat, y_lineA, y_lineB, y_seens, y_seenIn, y_seenYards, y_seenNear, y_s, y_aside, y_before, y_marked, y_undone, y_isLaid, .int y_done, .int y_snowNow, .int y_cameNow, .int y_cookThen, .int y_tasteThen, y_places, y_comesAt, y_yardsIn, .long y_g]), (b_tape, kI k 1000 (upd f9 (Int32.toNatClampNeg (nI n9)) ((((q3.toUInt64 >>> ((56 - (8 * ((nI j) &&& 7))).toInt64.toUInt64 &&& Int64.toUInt64 63)).toInt64) &&& 255).toInt32)))] H := hP
              have hD : va_D A [(y, kO 9 [.int 0, .int (nI (n9 + 1)), .ref b_tape, .int y_size, .int y_place, .int y_begin, .int y_token, .long y_word, .int y_told, .int y_wrong, y_supper, y_guestName, y_kind, y_offTold, y_pace, y_cooks, y_snow, y_lineFrom, y_lineTo, y_codes, .int y_code, .int y_toldLines, y_opened, y_compared, y_kept, y_keptBy, y_ahead, y_against, y_sum, y_sumBy, y_term, y_termBy, y_byNot, y_valueOf, .int y_given, y_lines, y_lineWhat, y_lineA, y_lineB, y_seens, y_seenIn, y_seenYards, y_seenNear, y_s, y_aside, y_before, y_marked, y_undone, y_isLaid, .int y_done, .int y_snowNow, .int y_cameNow, .int y_cookThen, .int y_tasteThen, y_places, y_comesAt, y_yardsIn, .long y_g]), (b_tape, kI k 1000 (upd f9 (Int32.toNatClampNeg (nI n9)) ((((q3.toUInt64 >>> ((56 - (8 * ((nI j) &&& 7))).toInt64.toUInt64 &&& Int64.toUInt64 63)).toInt64) &&& 255).toInt32)))] := hD
              refine lv_iinc (v := (nI (j + 1))) (lv' := [(7, .int (nI (j + 1))), (10, .int ((((q3.toUInt64 >>> ((56 - (8 * ((nI j) &&& 7))).toInt64.toUInt64 &&& Int64.toUInt64 63)).toInt64) &&& 255).toInt32)), (8, .long q3), (0, .ref y), (1, .long q1), (3, .long q2), (5, .long q3)]) hx hb dX9_feed_114 hl (k := 2) rfl (nI_1 _) (by decide) rfl (fun ls hl => ?_)
              refine lv_goto (tgt := 8) hx hb dX9_feed_117 (by decide) ?_
              exact ih8 (j + 1) (n9 + 1) (upd f9 (Int32.toNatClampNeg (nI n9)) ((((q3.toUInt64 >>> ((56 - (8 * ((nI j) &&& 7))).toInt64.toUInt64 &&& Int64.toUInt64 63)).toInt64) &&& 255).toInt32)) (by omega) (by omega) (by have e9 : bytM q1 q2 q3 j = ((((q3.toUInt64 >>> ((56 - (8 * ((nI j) &&& 7))).toInt64.toUInt64 &&& Int64.toUInt64 63)).toInt64) &&& 255).toInt32) := (by unfold bytM; rw [if_neg (by omega), if_neg (by omega)]); show _ = kn (bytM q1 q2 q3) j + kb (bytM q1 q2 q3 j); rw [e9, kb_1 (Or.inl c_5)]; omega) (by omega) _ _ _ (hP.sub [0, 1] rfl) (hD.sub [0, 1] (by decide) rfl) hS (lv_sub hl [0, 3, 4, 5, 6] rfl)
            · skip
              refine lv_iload hx hb dX9_feed_79 (lv_at hl 0 rfl) ?_
              refine lv_bipush (v := 32) hx hb dX9_feed_81 (by decide) ?_
              refine lv_icmp_lt (tgt := 114) hx hb dX9_feed_83 (by decide) (fun c_7 => ?_) (fun c_7 => ?_)
              · skip
                refine lv_iinc (v := (nI (j + 1))) (lv' := [(7, .int (nI (j + 1))), (10, .int ((((q3.toUInt64 >>> ((56 - (8 * ((nI j) &&& 7))).toInt64.toUInt64 &&& Int64.toUInt64 63)).toInt64) &&& 255).toInt32)), (8, .long q3), (0, .ref y), (1, .long q1), (3, .long q2), (5, .long q3)]) hx hb dX9_feed_114 hl (k := 2) rfl (nI_1 _) (by decide) rfl (fun ls hl => ?_)
                refine lv_goto (tgt := 8) hx hb dX9_feed_117 (by decide) ?_
                exact ih8 (j + 1) n9 f9 (by omega) (by omega) (by have e9 : bytM q1 q2 q3 j = ((((q3.toUInt64 >>> ((56 - (8 * ((nI j) &&& 7))).toInt64.toUInt64 &&& Int64.toUInt64 63)).toInt64) &&& 255).toInt32) := (by unfold bytM; rw [if_neg (by omega), if_neg (by omega)]); show _ = kn (bytM q1 q2 q3) j + kb (bytM q1 q2 q3 j); rw [e9, kb_0 (fun h => h.elim (fun h => c_5 h) (fun h => absurd h.1 (Int32.not_le.mpr c_7)))]; omega) (by omega) _ _ _ (hP.sub [0, 1] rfl) (hD.sub [0, 1] (by decide) rfl) hS (lv_sub hl [0, 3, 4, 5, 6] rfl)
              · skip
                refine lv_iload hx hb dX9_feed_86 (lv_at hl 0 rfl) ?_
                refine lv_bipush (v := 126) hx hb dX9_feed_88 (by decide) ?_
                refine lv_icmp_gt (tgt := 114) hx hb dX9_feed_90 (by decide) (fun c_8 => ?_) (fun c_8 => ?_)
                · skip
                  refine lv_iinc (v := (nI (j + 1))) (lv' := [(7, .int (nI (j + 1))), (10, .int ((((q3.toUInt64 >>> ((56 - (8 * ((nI j) &&& 7))).toInt64.toUInt64 &&& Int64.toUInt64 63)).toInt64) &&& 255).toInt32)), (8, .long q3), (0, .ref y), (1, .long q1), (3, .long q2), (5, .long q3)]) hx hb dX9_feed_114 hl (k := 2) rfl (nI_1 _) (by decide) rfl (fun ls hl => ?_)
                  refine lv_goto (tgt := 8) hx hb dX9_feed_117 (by decide) ?_
                  exact ih8 (j + 1) n9 f9 (by omega) (by omega) (by have e9 : bytM q1 q2 q3 j = ((((q3.toUInt64 >>> ((56 - (8 * ((nI j) &&& 7))).toInt64.toUInt64 &&& Int64.toUInt64 63)).toInt64) &&& 255).toInt32) := (by unfold bytM; rw [if_neg (by omega), if_neg (by omega)]); show _ = kn (bytM q1 q2 q3) j + kb (bytM q1 q2 q3 j); rw [e9, kb_0 (fun h => h.elim (fun h => c_5 h) (fun h => absurd h.2 (Int32.not_le.mpr c_8)))]; omega) (by omega) _ _ _ (hP.sub [0, 1] rfl) (hD.sub [0, 1] (by decide) rfl) hS (lv_sub hl [0, 3, 4, 5, 6] rfl)
                · skip
                  refine lv_aload_n hx hb dX9_feed_93 rfl (lv_at hl 3 rfl) ?_
                  refine va_get (D := D) (ci := 9) (v := .ref b_tape) (C := RX9) (T := TX9) (N := 58) hx hb hts hi9 hown hK hP 0 rfl rfl 2 (by decide) lf7 (fun _ h9 => h9) rfl dX9_feed_94 ?_
                  refine lv_aload_n hx hb dX9_feed_97 rfl (lv_at hl 3 rfl) ?_
                  refine va_get (D := D) (ci := 9) (v := .int (nI n9)) (C := RX9) (T := TX9) (N := 58) hx hb hts hi9 hown hK hP 0 rfl rfl 1 (by decide) lf148 (fun _ h9 => h9) rfl dX9_feed_98 ?_
                  refine lv_iload hx hb dX9_feed_101 (lv_at hl 0 rfl) ?_
                  refine va_iast hx hb hK hP hD hS 1 0 rfl rfl (vp_in_nI (n := n9) (by omega) (by omega)) dX9_feed_103 (fun H locs hP hD hS => ?_)
                  have hP : va_P D vwCl [(y, kO 9 [.int 0, .int (nI n9), .ref b_tape, .int y_size, .int y_place, .int y_begin, .int y_token, .long y_word, .int y_told, .int y_wrong, y_supper, y_guestName, y_kind, y_offTold, y_pace, y_cooks, y_snow, y_lineFrom, y_lineTo, y_codes, .int y_code, .int y_toldLines, y_opened, y_compared, y_kept, y_keptBy, y_ahead, y_against, y_sum, y_sumBy, y_term, y_termBy, y_byNot, y_valueOf, .int y_given, y_lines, y_lineWhat, y_lineA, y_lineB, y_seens, y_seenIn, y_seenYards, y_seenNear, y_s, y_aside, y_before, y_marked, y_undone, y_isLaid, .int y_done, .int y_snowNow, .int y_cameNow, .int y_cookThen, .int y_tasteThen, y_places, y_comesAt, y_yardsIn, .long y_g]), (b_tape, kI k 1000 (upd f9 (Int32.toNatClampNeg (nI n9)) ((((q3.toUInt64 >>> ((56 - (8 * ((nI j) &&& 7))).toInt64.toUInt64 &&& Int64.toUInt64 63)).toInt64) &&& 255).toInt32)))] H := hP
                  have hD : va_D A [(y, kO 9 [.int 0, .int (nI n9), .ref b_tape, .int y_size, .int y_place, .int y_begin, .int y_token, .long y_word, .int y_told, .int y_wrong, y_supper, y_guestName, y_kind, y_offTold, y_pace, y_cooks, y_snow, y_lineFrom, y_lineTo, y_codes, .int y_code, .int y_toldLines, y_opened, y_compared, y_kept, y_keptBy, y_ahead, y_against, y_sum, y_sumBy, y_term, y_termBy, y_byNot, y_valueOf, .int y_given, y_lines, y_lineWhat, y_lineA, y_lineB, y_seens, y_seenIn, y_seenYards, y_seenNear, y_s, y_aside, y_before, y_marked, y_undone, y_isLaid, .int y_done, .int y_snowNow, .int y_cameNow, .int y_cookThen, .int y_tasteThen, y_places, y_comesAt, y_yardsIn, .long y_g]), (b_tape, kI k 1000 (upd f9 (Int32.toNatClampNeg (nI n9)) ((((q3.toUInt64 >>> ((56 - (8 * ((nI j) &&& 7))).toInt64.toUInt64 &&& Int64.toUInt64 63)).toInt64) &&& 255).toInt32)))] := hD
                  refine lv_aload_n hx hb dX9_feed_104 rfl (lv_at hl 3 rfl) ?_
                  refine lv_dup hx hb dX9_feed_105 rfl ?_
                  refine va_get (D := D) (ci := 9) (v := .int (nI n9)) (C := RX9) (T := TX9) (N := 58) hx hb hts hi9 hown hK hP 0 rfl rfl 1 (by decide) lf148 (fun _ h9 => h9) rfl dX9_feed_106 ?_
                  refine lv_iconst (v := 1) hx hb dX9_feed_109 (by decide) ?_
                  refine lv_iadd hx hb dX9_feed_110 ?_
                  refine lv_topi (fun x9 ex9 => ?_)
                  obtain rfl : x9 = (nI (n9 + 1)) := ex9.trans (nI_add n9 1)
                  refine va_put (D := D) (ci := 9) (v := .int (nI (n9 + 1))) (ty := .int) (C := RX9) (T := TX9) (N := 58) hx hb hts hi9 tyX9 tyX9_ok nmX9 hown hK hP hD hS 0 rfl rfl 1 (by decide) lf148 (fun _ h9 => h9) rfl (by decide +kernel) rfl rfl (Nat.le_of_ble_eq_true rfl) dX9_feed_111 (fun H locs hP hD hS => ?_)
                  have hP : va_P D vwCl [(y, kO 9 [.int 0, .int (nI (n9 + 1)), .ref b_tape, .int y_size, .int y_place, .int y_begin, .int y_token, .long y_word, .int y_told, .int y_wrong, y_supper, y_guestName, y_kind, y_offTold, y_pace, y_cooks, y_snow, y_lineFrom, y_lineTo, y_codes, .int y_code, .int y_toldLines, y_opened, y_compared, y_kept, y_keptBy, y_ahead, y_against, y_sum, y_sumBy, y_term, y_termBy, y_byNot, y_valueOf, .int y_given, y_lines, y_lineWhat, y_lineA, y_lineB, y_seens, y_seenIn, y_seenYards, y_seenNear, y_s, y_aside, y_before, y_marked, y_undone, y_isLaid, .int y_done, .int y_snowNow, .int y_cameNow, .int y_cookThen, .int y_tasteThen, y_places, y_comesAt, y_yardsIn, .long y_g]), (b_tape, kI k 1000 (upd f9 (Int32.toNatClampNeg (nI n9)) ((((q3.toUInt64 >>> ((56 - (8 * ((nI j) &&& 7))).toInt64.toUInt64 &&& Int64.toUInt64 63)).toInt64) &&& 255).toInt32)))] H := hP
                  have hD : va_D A [(y, kO 9 [.int 0, .int (nI (n9 + 1)), .ref b_tape, .int y_size, .int y_place, .int y_begin, .int y_token, .long y_word, .int y_told, .int y_wrong, y_supper, y_guestName, y_kind, y_offTold, y_pace, y_cooks, y_snow, y_lineFrom, y_lineTo, y_codes, .int y_code, .int y_toldLines, y_opened, y_compared, y_kept, y_keptBy, y_ahead, y_against, y_sum, y_sumBy, y_term, y_termBy, y_byNot, y_valueOf, .int y_given, y_lines, y_lineWhat, y_lineA, y_lineB, y_seens, y_seenIn, y_seenYards, y_seenNear, y_s, y_aside, y_before, y_marked, y_undone, y_isLaid, .int y_done, .int y_snowNow, .int y_cameNow, .int y_cookThen, .int y_tasteThen, y_places, y_comesAt, y_yardsIn, .long y_g]), (b_tape, kI k 1000 (upd f9 (Int32.toNatClampNeg (nI n9)) ((((q3.toUInt64 >>> ((56 - (8 * ((nI j) &&& 7))).toInt64.toUInt64 &&& Int64.toUInt64 63)).toInt64) &&& 255).toInt32)))] := hD
                  refine lv_iinc (v := (nI (j + 1))) (lv' := [(7, .int (nI (j + 1))), (10, .int ((((q3.toUInt64 >>> ((56 - (8 * ((nI j) &&& 7))).toInt64.toUInt64 &&& Int64.toUInt64 63)).toInt64) &&& 255).toInt32)), (8, .long q3), (0, .ref y), (1, .long q1), (3, .long q2), (5, .long q3)]) hx hb dX9_feed_114 hl (k := 2) rfl (nI_1 _) (by decide) rfl (fun ls hl => ?_)
                  refine lv_goto (tgt := 8) hx hb dX9_feed_117 (by decide) ?_
                  exact ih8 (j + 1) (n9 + 1) (upd f9 (Int32.toNatClampNeg (nI n9)) ((((q3.toUInt64 >>> ((56 - (8 * ((nI j) &&& 7))).toInt64.toUInt64 &&& Int64.toUInt64 63)).toInt64) &&& 255).toInt32)) (by omega) (by omega) (by have e9 : bytM q1 q2 q3 j = ((((q3.toUInt64 >>> ((56 - (8 * ((nI j) &&& 7))).toInt64.toUInt64 &&& Int64.toUInt64 63)).toInt64) &&& 255).toInt32) := (by unfold bytM; rw [if_neg (by omega), if_neg (by omega)]); show _ = kn (bytM q1 q2 q3) j + kb (bytM q1 q2 q3 j); rw [e9, kb_1 (Or.inr ⟨Int32.not_lt.mp c_7, Int32.not_lt.mp c_8⟩)]; omega) (by omega) _ _ _ (hP.sub [0, 1] rfl) (hD.sub [0, 1] (by decide) rfl) hS (lv_sub hl [0, 3, 4, 5, 6] rfl)
          · skip
            have k_3 : ¬ (16 ≤ j) := fun h => c_3 ((nI_leI (a := 16) (b := j) (by omega) (by omega)).mpr h)
            refine lv_lload_n hx hb dX9_feed_33 rfl (lv_at hl 3 rfl) ?_
            refine lv_goto (tgt := 39) hx hb dX9_feed_34 (by decide) ?_
            refine lv_lstore (lv' := [(8, .long q2), (7, .int (nI j)), (0, .ref y), (1, .long q1), (3, .long q2), (5, .long q3)]) hx hb dX9_feed_39 hl (by decide) rfl (fun ls hl => ?_)
            refine lv_lload hx hb dX9_feed_41 (lv_at hl 0 rfl) ?_
            refine lv_bipush (v := 56) hx hb dX9_feed_43 (by decide) ?_
            refine lv_bipush (v := 8) hx hb dX9_feed_45 (by decide) ?_
            refine lv_iload hx hb dX9_feed_47 (lv_at hl 1 rfl) ?_
            refine lv_bipush (v := 7) hx hb dX9_feed_49 (by decide) ?_
            refine lv_iand hx hb dX9_feed_51 ?_
            refine lv_imul hx hb dX9_feed_52 ?_
            refine lv_isub hx hb dX9_feed_53 ?_
            refine lv_lushr hx hb dX9_feed_54 rfl ?_
            refine lv_ldc2 hx hb hown lc146 dX9_feed_55 ?_
            refine lv_land hx hb dX9_feed_58 ?_
            refine lv_l2i hx hb dX9_feed_59 rfl ?_
            refine lv_istore (lv' := [(10, .int ((((q2.toUInt64 >>> ((56 - (8 * ((nI j) &&& 7))).toInt64.toUInt64 &&& Int64.toUInt64 63)).toInt64) &&& 255).toInt32)), (8, .long q2), (7, .int (nI j)), (0, .ref y), (1, .long q1), (3, .long q2), (5, .long q3)]) hx hb dX9_feed_60 hl (by decide) rfl (fun ls hl => ?_)
            refine lv_aload_n hx hb dX9_feed_62 rfl (lv_at hl 3 rfl) ?_
            refine va_get (D := D) (ci := 9) (v := .int (nI n9)) (C := RX9) (T := TX9) (N := 58) hx hb hts hi9 hown hK hP 0 rfl rfl 1 (by decide) lf148 (fun _ h9 => h9) rfl dX9_feed_63 ?_
            refine lv_sipush (v := 1000) hx hb dX9_feed_66 (by decide) ?_
            refine lv_icmp_ge (tgt := 114) hx hb dX9_feed_69 (by decide) (fun c_10 => absurd c_10 (fun h => absurd ((nI_leI (a := 1000) (b := n9) (by decide) (by omega)).mp h) (by omega))) (fun c_10 => ?_)
            refine lv_iload hx hb dX9_feed_72 (lv_at hl 0 rfl) ?_
            refine lv_bipush (v := 10) hx hb dX9_feed_74 (by decide) ?_
            refine lv_icmp_eq (tgt := 93) hx hb dX9_feed_76 (by decide) (fun c_11 => ?_) (fun c_11 => ?_)
            · skip
              refine lv_aload_n hx hb dX9_feed_93 rfl (lv_at hl 3 rfl) ?_
              refine va_get (D := D) (ci := 9) (v := .ref b_tape) (C := RX9) (T := TX9) (N := 58) hx hb hts hi9 hown hK hP 0 rfl rfl 2 (by decide) lf7 (fun _ h9 => h9) rfl dX9_feed_94 ?_
              refine lv_aload_n hx hb dX9_feed_97 rfl (lv_at hl 3 rfl) ?_
              refine va_get (D := D) (ci := 9) (v := .int (nI n9)) (C := RX9) (T := TX9) (N := 58) hx hb hts hi9 hown hK hP 0 rfl rfl 1 (by decide) lf148 (fun _ h9 => h9) rfl dX9_feed_98 ?_
              refine lv_iload hx hb dX9_feed_101 (lv_at hl 0 rfl) ?_
              refine va_iast hx hb hK hP hD hS 1 0 rfl rfl (vp_in_nI (n := n9) (by omega) (by omega)) dX9_feed_103 (fun H locs hP hD hS => ?_)
              have hP : va_P D vwCl [(y, kO 9 [.int 0, .int (nI n9), .ref b_tape, .int y_size, .int y_place, .int y_begin, .int y_token, .long y_word, .int y_told, .int y_wrong, y_supper, y_guestName, y_kind, y_offTold, y_pace, y_cooks, y_snow, y_lineFrom, y_lineTo, y_codes, .int y_code, .int y_toldLines, y_opened, y_compared, y_kept, y_keptBy, y_ahead, y_against, y_sum, y_sumBy, y_term, y_termBy, y_byNot, y_valueOf, .int y_given, y_lines, y_lineWhat, y_lineA, y_lineB, y_seens, y_seenIn, y_seenYards, y_seenNear, y_s, y_aside, y_before, y_marked, y_undone, y_isLaid, .int y_done, .int y_snowNow, .int y_cameNow, .int y_cookThen, .int y_tasteThen, y_places, y_comesAt, y_yardsIn, .long y_g]), (b_tape, kI k 1000 (upd f9 (Int32.toNatClampNeg (nI n9)) ((((q2.toUInt64 >>> ((56 - (8 * ((nI j) &&& 7))).toInt64.toUInt64 &&& Int64.toUInt64 63)).toInt64) &&& 255).toInt32)))] H := hP
              have hD : va_D A [(y, kO 9 [.int 0, .int (nI n9), .ref b_tape, .int y_size, .int y_place, .int y_begin, .int y_token, .long y_word, .int y_told, .int y_wrong, y_supper, y_guestName, y_kind, y_offTold, y_pace, y_cooks, y_snow, y_lineFrom, y_lineTo, y_codes, .int y_code, .int y_toldLines, y_opened, y_compared, y_kept, y_keptBy, y_ahead, y_against, y_sum, y_sumBy, y_term, y_termBy, y_byNot, y_valueOf, .int y_given, y_lines, y_lineWhat, y_lineA, y_lineB, y_seens, y_seenIn, y_seenYards, y_seenNear, y_s, y_aside, y_before, y_marked, y_undone, y_isLaid, .int y_done, .int y_snowNow, .int y_cameNow, .int y_cookThen, .int y_tasteThen, y_places, y_comesAt, y_yardsIn, .long y_g]), (b_tape, kI k 1000 (upd f9 (Int32.toNatClampNeg (nI n9)) ((((q2.toUInt64 >>> ((56 - (8 * ((nI j) &&& 7))).toInt64.toUInt64 &&& Int64.toUInt64 63)).toInt64) &&& 255).toInt32)))] := hD
              refine lv_aload_n hx hb dX9_feed_104 rfl (lv_at hl 3 rfl) ?_
              refine lv_dup hx hb dX9_feed_105 rfl ?_
              refine va_get (D := D) (ci := 9) (v := .int (nI n9)) (C := RX9) (T := TX9) (N := 58) hx hb hts hi9 hown hK hP 0 rfl rfl 1 (by decide) lf148 (fun _ h9 => h9) rfl dX9_feed_106 ?_
              refine lv_iconst (v := 1) hx hb dX9_feed_109 (by decide) ?_
              refine lv_iadd hx hb dX9_feed_110 ?_
              refine lv_topi (fun x12 ex12 => ?_)
              obtain rfl : x12 = (nI (n9 + 1)) := ex12.trans (nI_add n9 1)
              refine va_put (D := D) (ci := 9) (v := .int (nI (n9 + 1))) (ty := .int) (C := RX9) (T := TX9) (N := 58) hx hb hts hi9 tyX9 tyX9_ok nmX9 hown hK hP hD hS 0 rfl rfl 1 (by decide) lf148 (fun _ h9 => h9) rfl (by decide +kernel) rfl rfl (Nat.le_of_ble_eq_true rfl) dX9_feed_111 (fun H locs hP hD hS => ?_)
              have hP : va_P D vwCl [(y, kO 9 [.int 0, .int (nI (n9 + 1)), .ref b_tape, .int y_size, .int y_place, .int y_begin, .int y_token, .long y_word, .int y_told, .int y_wrong, y_supper, y_guestName, y_kind, y_offTold, y_pace, y_cooks, y_snow, y_lineFrom, y_lineTo, y_codes, .int y_code, .int y_toldLines, y_opened, y_compared, y_kept, y_keptBy, y_ahead, y_against, y_sum, y_sumBy, y_term, y_termBy, y_byNot, y_valueOf, .int y_given, y_lines, y_lineWhat, y_lineA, y_lineB, y_seens, y_seenIn, y_seenYards, y_seenNear, y_s, y_aside, y_before, y_marked, y_undone, y_isLaid, .int y_done, .int y_snowNow, .int y_cameNow, .int y_cookThen, .int y_tasteThen, y_places, y_comesAt, y_yardsIn, .long y_g]), (b_tape, kI k 1000 (upd f9 (Int32.toNatClampNeg (nI n9)) ((((q2.toUInt64 >>> ((56 - (8 * ((nI j) &&& 7))).toInt64.toUInt64 &&& Int64.toUInt64 63)).toInt64) &&& 255).toInt32)))] H := hP
              have hD : va_D A [(y, kO 9 [.int 0, .int (nI (n9 + 1)), .ref b_tape, .int y_size, .int y_place, .int y_begin, .int y_token, .long y_word, .int y_told, .int y_wrong, y_supper, y_guestName, y_kind, y_offTold, y_pace, y_cooks, y_snow, y_lineFrom, y_lineTo, y_codes, .int y_code, .int y_toldLines, y_opened, y_compared, y_kept, y_keptBy, y_ahead, y_against, y_sum, y_sumBy, y_term, y_termBy, y_byNot, y_valueOf, .int y_given, y_lines, y_lineWhat, y_lineA, y_lineB, y_seens, y_seenIn, y_seenYards, y_seenNear, y_s, y_aside, y_before, y_marked, y_undone, y_isLaid, .int y_done, .int y_snowNow, .int y_cameNow, .int y_cookThen, .int y_tasteThen, y_places, y_comesAt, y_yardsIn, .long y_g]), (b_tape, kI k 1000 (upd f9 (Int32.toNatClampNeg (nI n9)) ((((q2.toUInt64 >>> ((56 - (8 * ((nI j) &&& 7))).toInt64.toUInt64 &&& Int64.toUInt64 63)).toInt64) &&& 255).toInt32)))] := hD
              refine lv_iinc (v := (nI (j + 1))) (lv' := [(7, .int (nI (j + 1))), (10, .int ((((q2.toUInt64 >>> ((56 - (8 * ((nI j) &&& 7))).toInt64.toUInt64 &&& Int64.toUInt64 63)).toInt64) &&& 255).toInt32)), (8, .long q2), (0, .ref y), (1, .long q1), (3, .long q2), (5, .long q3)]) hx hb dX9_feed_114 hl (k := 2) rfl (nI_1 _) (by decide) rfl (fun ls hl => ?_)
              refine lv_goto (tgt := 8) hx hb dX9_feed_117 (by decide) ?_
              exact ih8 (j + 1) (n9 + 1) (upd f9 (Int32.toNatClampNeg (nI n9)) ((((q2.toUInt64 >>> ((56 - (8 * ((nI j) &&& 7))).toInt64.toUInt64 &&& Int64.toUInt64 63)).toInt64) &&& 255).toInt32)) (by omega) (by omega) (by have e9 : bytM q1 q2 q3 j = ((((q2.toUInt64 >>> ((56 - (8 * ((nI j) &&& 7))).toInt64.toUInt64 &&& Int64.toUInt64 63)).toInt64) &&& 255).toInt32) := (by unfold bytM; rw [if_neg (by omega), if_pos (by omega)]); show _ = kn (bytM q1 q2 q3) j + kb (bytM q1 q2 q3 j); rw [e9, kb_1 (Or.inl c_11)]; omega) (by omega) _ _ _ (hP.sub [0, 1] rfl) (hD.sub [0, 1] (by decide) rfl) hS (lv_sub hl [0, 3, 4, 5, 6] rfl)
            · skip
              refine lv_iload hx hb dX9_feed_79 (lv_at hl 0 rfl) ?_
              refine lv_bipush (v := 32) hx hb dX9_feed_81 (by decide) ?_
              refine lv_icmp_lt (tgt := 114) hx hb dX9_feed_83 (by decide) (fun c_13 => ?_) (fun c_13 => ?_)
              · skip
                refine lv_iinc (v := (nI (j + 1))) (lv' := [(7, .int (nI (j + 1))), (10, .int ((((q2.toUInt64 >>> ((56 - (8 * ((nI j) &&& 7))).toInt64.toUInt64 &&& Int64.toUInt64 63)).toInt64) &&& 255).toInt32)), (8, .long q2), (0, .ref y), (1, .long q1), (3, .long q2), (5, .long q3)]) hx hb dX9_feed_114 hl (k := 2) rfl (nI_1 _) (by decide) rfl (fun ls hl => ?_)
                refine lv_goto (tgt := 8) hx hb dX9_feed_117 (by decide) ?_
                exact ih8 (j + 1) n9 f9 (by omega) (by omega) (by have e9 : bytM q1 q2 q3 j = ((((q2.toUInt64 >>> ((56 - (8 * ((nI j) &&& 7))).toInt64.toUInt64 &&& Int64.toUInt64 63)).toInt64) &&& 255).toInt32) := (by unfold bytM; rw [if_neg (by omega), if_pos (by omega)]); show _ = kn (bytM q1 q2 q3) j + kb (bytM q1 q2 q3 j); rw [e9, kb_0 (fun h => h.elim (fun h => c_11 h) (fun h => absurd h.1 (Int32.not_le.mpr c_13)))]; omega) (by omega) _ _ _ (hP.sub [0, 1] rfl) (hD.sub [0, 1] (by decide) rfl) hS (lv_sub hl [0, 3, 4, 5, 6] rfl)
              · skip
                refine lv_iload hx hb dX9_feed_86 (lv_at hl 0 rfl) ?_
                refine lv_bipush (v := 126) hx hb dX9_feed_88 (by decide) ?_
                refine lv_icmp_gt (tgt := 114) hx hb dX9_feed_90 (by decide) (fun c_14 => ?_) (fun c_14 => ?_)
                · skip
                  refine lv_iinc (v := (nI (j + 1))) (lv' := [(7, .int (nI (j + 1))), (10, .int ((((q2.toUInt64 >>> ((56 - (8 * ((nI j) &&& 7))).toInt64.toUInt64 &&& Int64.toUInt64 63)).toInt64) &&& 255).toInt32)), (8, .long q2), (0, .ref y), (1, .long q1), (3, .long q2), (5, .long q3)]) hx hb dX9_feed_114 hl (k := 2) rfl (nI_1 _) (by decide) rfl (fun ls hl => ?_)
                  refine lv_goto (tgt := 8) hx hb dX9_feed_117 (by decide) ?_
                  exact ih8 (j + 1) n9 f9 (by omega) (by omega) (by have e9 : bytM q1 q2 q3 j = ((((q2.toUInt64 >>> ((56 - (8 * ((nI j) &&& 7))).toInt64.toUInt64 &&& Int64.toUInt64 63)).toInt64) &&& 255).toInt32) := (by unfold bytM; rw [if_neg (by omega), if_pos (by omega)]); show _ = kn (bytM q1 q2 q3) j + kb (bytM q1 q2 q3 j); rw [e9, kb_0 (fun h => h.elim (fun h => c_11 h) (fun h => absurd h.2 (Int32.not_le.mpr c_14)))]; omega) (by omega) _ _ _ (hP.sub [0, 1] rfl) (hD.sub [0, 1] (by decide) rfl) hS (lv_sub hl [0, 3, 4, 5, 6] rfl)
                · skip
                  refine lv_aload_n hx hb dX9_feed_93 rfl (lv_at hl 3 rfl) ?_
                  refine va_get (D := D) (ci := 9) (v := .ref b_tape) (C := RX9) (T := TX9) (N := 58) hx hb hts hi9 hown hK hP 0 rfl rfl 2 (by decide) lf7 (fun _ h9 => h9) rfl dX9_feed_94 ?_
                  refine lv_aload_n hx hb dX9_feed_97 rfl (lv_at hl 3 rfl) ?_
                  refine va_get (D := D) (ci := 9) (v := .int (nI n9)) (C := RX9) (T := TX9) (N := 58) hx hb hts hi9 hown hK hP 0 rfl rfl 1 (by decide) lf148 (fun _ h9 => h9) rfl dX9_feed_98 ?_
                  refine lv_iload hx hb dX9_feed_101 (lv_at hl 0 rfl) ?_
                  refine va_iast hx hb hK hP hD hS 1 0 rfl rfl (vp_in_nI (n := n9) (by omega) (by omega)) dX9_feed_103 (fun H locs hP hD hS => ?_)
                  have hP : va_P D vwCl [(y, kO 9 [.int 0, .int (nI n9), .ref b_tape, .int y_size, .int y_place, .int y_begin, .int y_token, .long y_word, .int y_told, .int y_wrong, y_supper, y_guestName, y_kind, y_offTold, y_pace, y_cooks, y_snow, y_lineFrom, y_lineTo, y_codes, .int y_code, .int y_toldLines, y_opened, y_compared, y_kept, y_keptBy, y_ahead, y_against, y_sum, y_sumBy, y_term, y_termBy, y_byNot, y_valueOf, .int y_given, y_lines, y_lineWhat, y_lineA, y_lineB, y_seens, y_seenIn, y_seenYards, y_seenNear, y_s, y_aside, y_before, y_marked, y_undone, y_isLaid, .int y_done, .int y_snowNow, .int y_cameNow, .int y_cookThen, .int y_tasteThen, y_places, y_comesAt, y_yardsIn, .long y_g]), (b_tape, kI k 1000 (upd f9 (Int32.toNatClampNeg (nI n9)) ((((q2.toUInt64 >>> ((56 - (8 * ((nI j) &&& 7))).toInt64.toUInt64 &&& Int64.toUInt64 63)).toInt64) &&& 255).toInt32)))] H := hP
                  have hD : va_D A [(y, kO 9 [.int 0, .int (nI n9), .ref b_tape, .int y_size, .int y_place, .int y_begin, .int y_token, .long y_word, .int y_told, .int y_wrong, y_supper, y_guestName, y_kind, y_offTold, y_pace, y_cooks, y_snow, y_lineFrom, y_lineTo, y_codes, .int y_code, .int y_toldLines, y_opened, y_compared, y_kept, y_keptBy, y_ahead, y_against, y_sum, y_sumBy, y_term, y_termBy, y_byNot, y_valueOf, .int y_given, y_lines, y_lineWhat, y_lineA, y_lineB, y_seens, y_seenIn, y_seenYards, y_seenNear, y_s, y_aside, y_before, y_marked, y_undone, y_isLaid, .int y_done, .int y_snowNow, .int y_cameNow, .int y_cookThen, .int y_tasteThen, y_places, y_comesAt, y_yardsIn, .long y_g]), (b_tape, kI k 1000 (upd f9 (Int32.toNatClampNeg (nI n9)) ((((q2.toUInt64 >>> ((56 - (8 * ((nI j) &&& 7))).toInt64.toUInt64 &&& Int64.toUInt64 63)).toInt64) &&& 255).toInt32)))] := hD
                  refine lv_aload_n hx hb dX9_feed_104 rfl (lv_at hl 3 rfl) ?_
                  refine lv_dup hx hb dX9_feed_105 rfl ?_
                  refine va_get (D := D) (ci := 9) (v := .int (nI n9)) (C := RX9) (T := TX9) (N := 58) hx hb hts hi9 hown hK hP 0 rfl rfl 1 (by decide) lf148 (fun _ h9 => h9) rfl dX9_feed_106 ?_
                  refine lv_iconst (v := 1) hx hb dX9_feed_109 (by decide) ?_
                  refine lv_iadd hx hb dX9_feed_110 ?_
                  refine lv_topi (fun x15 ex15 => ?_)
                  obtain rfl : x15 = (nI (n9 + 1)) := ex15.trans (nI_add n9 1)
                  refine va_put (D := D) (ci := 9) (v := .int (nI (n9 + 1))) (ty := .int) (C := RX9) (T := TX9) (N := 58) hx hb hts hi9 tyX9 tyX9_ok nmX9 hown hK hP hD hS 0 rfl rfl 1 (by decide) lf148 (fun _ h9 => h9) rfl (by decide +kernel) rfl rfl (Nat.le_of_ble_eq_true rfl) dX9_feed_111 (fun H locs hP hD hS => ?_)
                  have hP : va_P D vwCl [(y, kO 9 [.int 0, .int (nI (n9 + 1)), .ref b_tape, .int y_size, .int y_place, .int y_begin, .int y_token, .long y_word, .int y_told, .int y_wrong, y_supper, y_guestName, y_kind, y_offTold, y_pace, y_cooks, y_snow, y_lineFrom, y_lineTo, y_codes, .int y_code, .int y_toldLines, y_opened, y_compared, y_kept, y_keptBy, y_ahead, y_against, y_sum, y_sumBy, y_term, y_termBy, y_byNot, y_valueOf, .int y_given, y_lines, y_lineWhat, y_lineA, y_lineB, y_seens, y_seenIn, y_seenYards, y_seenNear, y_s, y_aside, y_before, y_marked, y_undone, y_isLaid, .int y_done, .int y_snowNow, .int y_cameNow, .int y_cookThen, .int y_tasteThen, y_places, y_comesAt, y_yardsIn, .long y_g]), (b_tape, kI k 1000 (upd f9 (Int32.toNatClampNeg (nI n9)) ((((q2.toUInt64 >>> ((56 - (8 * ((nI j) &&& 7))).toInt64.toUInt64 &&& Int64.toUInt64 63)).toInt64) &&& 255).toInt32)))] H := hP
                  have hD : va_D A [(y, kO 9 [.int 0, .int (nI (n9 + 1)), .ref b_tape, .int y_size, .int y_place, .int y_begin, .int y_token, .long y_word, .int y_told, .int y_wrong, y_supper, y_guestName, y_kind, y_offTold, y_pace, y_cooks, y_snow, y_lineFrom, y_lineTo, y_codes, .int y_code, .int y_toldLines, y_opened, y_compared, y_kept, y_keptBy, y_ahead, y_against, y_sum, y_sumBy, y_term, y_termBy, y_byNot, y_valueOf, .int y_given, y_lines, y_lineWhat, y_lineA, y_lineB, y_seens, y_seenIn, y_seenYards, y_seenNear, y_s, y_aside, y_before, y_marked, y_undone, y_isLaid, .int y_done, .int y_snowNow, .int y_cameNow, .int y_cookThen, .int y_tasteThen, y_places, y_comesAt, y_yardsIn, .long y_g]), (b_tape, kI k 1000 (upd f9 (Int32.toNatClampNeg (nI n9)) ((((q2.toUInt64 >>> ((56 - (8 * ((nI j) &&& 7))).toInt64.toUInt64 &&& Int64.toUInt64 63)).toInt64) &&& 255).toInt32)))] := hD
                  refine lv_iinc (v := (nI (j + 1))) (lv' := [(7, .int (nI (j + 1))), (10, .int ((((q2.toUInt64 >>> ((56 - (8 * ((nI j) &&& 7))).toInt64.toUInt64 &&& Int64.toUInt64 63)).toInt64) &&& 255).toInt32)), (8, .long q2), (0, .ref y), (1, .long q1), (3, .long q2), (5, .long q3)]) hx hb dX9_feed_114 hl (k := 2) rfl (nI_1 _) (by decide) rfl (fun ls hl => ?_)
                  refine lv_goto (tgt := 8) hx hb dX9_feed_117 (by decide) ?_
                  exact ih8 (j + 1) (n9 + 1) (upd f9 (Int32.toNatClampNeg (nI n9)) ((((q2.toUInt64 >>> ((56 - (8 * ((nI j) &&& 7))).toInt64.toUInt64 &&& Int64.toUInt64 63)).toInt64) &&& 255).toInt32)) (by omega) (by omega) (by have e9 : bytM q1 q2 q3 j = ((((q2.toUInt64 >>> ((56 - (8 * ((nI j) &&& 7))).toInt64.toUInt64 &&& Int64.toUInt64 63)).toInt64) &&& 255).toInt32) := (by unfold bytM; rw [if_neg (by omega), if_pos (by omega)]); show _ = kn (bytM q1 q2 q3) j + kb (bytM q1 q2 q3 j); rw [e9, kb_1 (Or.inr ⟨Int32.not_lt.mp c_13, Int32.not_lt.mp c_14⟩)]; omega) (by omega) _ _ _ (hP.sub [0, 1] rfl) (hD.sub [0, 1] (by decide) rfl) hS (lv_sub hl [0, 3, 4, 5, 6] rfl)
        · skip
          have k_2 : ¬ (8 ≤ j) := fun h => c_2 ((nI_leI (a := 8) (b := j) (by omega) (by omega)).mpr h)
          refine lv_lload_n hx hb dX9_feed_22 rfl (lv_at hl 2 rfl) ?_
          refine lv_goto (tgt := 39) hx hb dX9_feed_23 (by decide) ?_
          refine lv_lstore (lv' := [(8, .long q1), (7, .int (nI j)), (0, .ref y), (1, .long q1), (3, .long q2), (5, .long q3)]) hx hb dX9_feed_39 hl (by decide) rfl (fun ls hl => ?_)
          refine lv_lload hx hb dX9_feed_41 (lv_at hl 0 rfl) ?_
          refine lv_bipush (v := 56) hx hb dX9_feed_43 (by decide) ?_
          refine lv_bipush (v := 8) hx hb dX9_feed_45 (by decide) ?_
          refine lv_iload hx hb dX9_feed_47 (lv_at hl 1 rfl) ?_
          refine lv_bipush (v := 7) hx hb dX9_feed_49 (by decide) ?_
          refine lv_iand hx hb dX9_feed_51 ?_
          refine lv_imul hx hb dX9_feed_52 ?_
          refine lv_isub hx hb dX9_feed_53 ?_
          refine lv_lushr hx hb dX9_feed_54 rfl ?_
          refine lv_ldc2 hx hb hown lc146 dX9_feed_55 ?_
          refine lv_land hx hb dX9_feed_58 ?_
          refine lv_l2i hx hb dX9_feed_59 rfl ?_
          refine lv_istore (lv' := [(10, .int ((((q1.toUInt64 >>> ((56 - (8 * ((nI j) &&& 7))).toInt64.toUInt64 &&& Int64.toUInt64 63)).toInt64) &&& 255).toInt32)), (8, .long q1), (7, .int (nI j)), (0, .ref y), (1, .long q1), (3, .long q2), (5, .long q3)]) hx hb dX9_feed_60 hl (by decide) rfl (fun ls hl => ?_)
          refine lv_aload_n hx hb dX9_feed_62 rfl (lv_at hl 3 rfl) ?_
          refine va_get (D := D) (ci := 9) (v := .int (nI n9)) (C := RX9) (T := TX9) (N := 58) hx hb hts hi9 hown hK hP 0 rfl rfl 1 (by decide) lf148 (fun _ h9 => h9) rfl dX9_feed_63 ?_
          refine lv_sipush (v := 1000) hx hb dX9_feed_66 (by decide) ?_
          refine lv_icmp_ge (tgt := 114) hx hb dX9_feed_69 (by decide) (fun c_16 => absurd c_16 (fun h => absurd ((nI_leI (a := 1000) (b := n9) (by decide) (by omega)).mp h) (by omega))) (fun c_16 => ?_)
          refine lv_iload hx hb dX9_feed_72 (lv_at hl 0 rfl) ?_
          refine lv_bipush (v := 10) hx hb dX9_feed_74 (by decide) ?_
          refine lv_icmp_eq (tgt := 93) hx hb dX9_feed_76 (by decide) (fun c_17 => ?_) (fun c_17 => ?_)
          · skip
            refine lv_aload_n hx hb dX9_feed_93 rfl (lv_at hl 3 rfl) ?_
            refine va_get (D := D) (ci := 9) (v := .ref b_tape) (C := RX9) (T := TX9) (N := 58) hx hb hts hi9 hown hK hP 0 rfl rfl 2 (by decide) lf7 (fun _ h9 => h9) rfl dX9_feed_94 ?_
            refine lv_aload_n hx hb dX9_feed_97 rfl (lv_at hl 3 rfl) ?_
            refine va_get (D := D) (ci := 9) (v := .int (nI n9)) (C := RX9) (T := TX9) (N := 58) hx hb hts hi9 hown hK hP 0 rfl rfl 1 (by decide) lf148 (fun _ h9 => h9) rfl dX9_feed_98 ?_
            refine lv_iload hx hb dX9_feed_101 (lv_at hl 0 rfl) ?_
            refine va_iast hx hb hK hP hD hS 1 0 rfl rfl (vp_in_nI (n := n9) (by omega) (by omega)) dX9_feed_103 (fun H locs hP hD hS => ?_)
            have hP : va_P D vwCl [(y, kO 9 [.int 0, .int (nI n9), .ref b_tape, .int y_size, .int y_place, .int y_begin, .int y_token, .long y_word, .int y_told, .int y_wrong, y_supper, y_guestName, y_kind, y_offTold, y_pace, y_cooks, y_snow, y_lineFrom, y_lineTo, y_codes, .int y_code, .int y_toldLines, y_opened, y_compared, y_kept, y_keptBy, y_ahead, y_against, y_sum, y_sumBy, y_term, y_termBy, y_byNot, y_valueOf, .int y_given, y_lines, y_lineWhat, y_lineA, y_lineB, y_seens, y_seenIn, y_seenYards, y_seenNear, y_s, y_aside, y_before, y_marked, y_undone, y_isLaid, .int y_done, .int y_snowNow, .int y_cameNow, .int y_cookThen, .int y_tasteThen, y_places, y_comesAt, y_yardsIn, .long y_g]), (b_tape, kI k 1000 (upd f9 (Int32.toNatClampNeg (nI n9)) ((((q1.toUInt64 >>> ((56 - (8 * ((nI j) &&& 7))).toInt64.toUInt64 &&& Int64.toUInt64 63)).toInt64) &&& 255).toInt32)))] H := hP
            have hD : va_D A [(y, kO 9 [.int 0, .int (nI n9), .ref b_tape, .int y_size, .int y_place, .int y_begin, .int y_token, .long y_word, .int y_told, .int y_wrong, y_supper, y_guestName, y_kind, y_offTold, y_pace, y_cooks, y_snow, y_lineFrom, y_lineTo, y_codes, .int y_code, .int y_toldLines, y_opened, y_compared, y_kept, y_keptBy, y_ahead, y_against, y_sum, y_sumBy, y_term, y_termBy, y_byNot, y_valueOf, .int y_given, y_lines, y_lineWhat, y_lineA, y_lineB, y_seens, y_seenIn, y_seenYards, y_seenNear, y_s, y_aside, y_before, y_marked, y_undone, y_isLaid, .int y_done, .int y_snowNow, .int y_cameNow, .int y_cookThen, .int y_tasteThen, y_places, y_comesAt, y_yardsIn, .long y_g]), (b_tape, kI k 1000 (upd f9 (Int32.toNatClampNeg (nI n9)) ((((q1.toUInt64 >>> ((56 - (8 * ((nI j) &&& 7))).toInt64.toUInt64 &&& Int64.toUInt64 63)).toInt64) &&& 255).toInt32)))] := hD
            refine lv_aload_n hx hb dX9_feed_104 rfl (lv_at hl 3 rfl) ?_
            refine lv_dup hx hb dX9_feed_105 rfl ?_
            refine va_get (D := D) (ci := 9) (v := .int (nI n9)) (C := RX9) (T := TX9) (N := 58) hx hb hts hi9 hown hK hP 0 rfl rfl 1 (by decide) lf148 (fun _ h9 => h9) rfl dX9_feed_106 ?_
            refine lv_iconst (v := 1) hx hb dX9_feed_109 (by decide) ?_
            refine lv_iadd hx hb dX9_feed_110 ?_
            refine lv_topi (fun x18 ex18 => ?_)
            obtain rfl : x18 = (nI (n9 + 1)) := ex18.trans (nI_add n9 1)
            refine va_put (D := D) (ci := 9) (v := .int (nI (n9 + 1))) (ty := .int) (C := RX9) (T := TX9) (N := 58) hx hb hts hi9 tyX9 tyX9_ok nmX9 hown hK hP hD hS 0 rfl rfl 1 (by decide) lf148 (fun _ h9 => h9) rfl (by decide +kernel) rfl rfl (Nat.le_of_ble_eq_true rfl) dX9_feed_111 (fun H locs hP hD hS => ?_)
            have hP : va_P D vwCl [(y, kO 9 [.int 0, .int (nI (n9 + 1)), .ref b_tape, .int y_size, .int y_place, .int y_begin, .int y_token, .long y_word, .int y_told, .int y_wrong, y_supper, y_guestName, y_kind, y_offTold, y_pace, y_cooks, y_snow, y_lineFrom, y_lineTo, y_codes, .int y_code, .int y_toldLines, y_opened, y_compared, y_kept, y_keptBy, y_ahead, y_against, y_sum, y_sumBy, y_term, y_termBy, y_byNot, y_valueOf, .int y_given, y_lines, y_lineWhat, y_lineA, y_lineB, y_seens, y_seenIn, y_seenYards, y_seenNear, y_s, y_aside, y_before, y_marked, y_undone, y_isLaid, .int y_done, .int y_snowNow, .int y_cameNow, .int y_cookThen, .int y_tasteThen, y_places, y_comesAt, y_yardsIn, .long y_g]), (b_tape, kI k 1000 (upd f9 (Int32.toNatClampNeg (nI n9)) ((((q1.toUInt64 >>> ((56 - (8 * ((nI j) &&& 7))).toInt64.toUInt64 &&& Int64.toUInt64 63)).toInt64) &&& 255).toInt32)))] H := hP
            have hD : va_D A [(y, kO 9 [.int 0, .int (nI (n9 + 1)), .ref b_tape, .int y_size, .int y_place, .int y_begin, .int y_token, .long y_word, .int y_told, .int y_wrong, y_supper, y_guestName, y_kind, y_offTold, y_pace, y_cooks, y_snow, y_lineFrom, y_lineTo, y_codes, .int y_code, .int y_toldLines, y_opened, y_compared, y_kept, y_keptBy, y_ahead, y_against, y_sum, y_sumBy, y_term, y_termBy, y_byNot, y_valueOf, .int y_given, y_lines, y_lineWhat, y_lineA, y_lineB, y_seens, y_seenIn, y_seenYards, y_seenNear, y_s, y_aside, y_before, y_marked, y_undone, y_isLaid, .int y_done, .int y_snowNow, .int y_cameNow, .int y_cookThen, .int y_tasteThen, y_places, y_comesAt, y_yardsIn, .long y_g]), (b_tape, kI k 1000 (upd f9 (Int32.toNatClampNeg (nI n9)) ((((q1.toUInt64 >>> ((56 - (8 * ((nI j) &&& 7))).toInt64.toUInt64 &&& Int64.toUInt64 63)).toInt64) &&& 255).toInt32)))] := hD
            refine lv_iinc (v := (nI (j + 1))) (lv' := [(7, .int (nI (j + 1))), (10, .int ((((q1.toUInt64 >>> ((56 - (8 * ((nI j) &&& 7))).toInt64.toUInt64 &&& Int64.toUInt64 63)).toInt64) &&& 255).toInt32)), (8, .long q1), (0, .ref y), (1, .long q1), (3, .long q2), (5, .long q3)]) hx hb dX9_feed_114 hl (k := 2) rfl (nI_1 _) (by decide) rfl (fun ls hl => ?_)
            refine lv_goto (tgt := 8) hx hb dX9_feed_117 (by decide) ?_
            exact ih8 (j + 1) (n9 + 1) (upd f9 (Int32.toNatClampNeg (nI n9)) ((((q1.toUInt64 >>> ((56 - (8 * ((nI j) &&& 7))).toInt64.toUInt64 &&& Int64.toUInt64 63)).toInt64) &&& 255).toInt32)) (by omega) (by omega) (by have e9 : bytM q1 q2 q3 j = ((((q1.toUInt64 >>> ((56 - (8 * ((nI j) &&& 7))).toInt64.toUInt64 &&& Int64.toUInt64 63)).toInt64) &&& 255).toInt32) := (by unfold bytM; rw [if_pos (by omega)]); show _ = kn (bytM q1 q2 q3) j + kb (bytM q1 q2 q3 j); rw [e9, kb_1 (Or.inl c_17)]; omega) (by omega) _ _ _ (hP.sub [0, 1] rfl) (hD.sub [0, 1] (by decide) rfl) hS (lv_sub hl [0, 3, 4, 5, 6] rfl)
          · skip
            refine lv_iload hx hb dX9_feed_79 (lv_at hl 0 rfl) ?_
            refine lv_bipush (v := 32) hx hb dX9_feed_81 (by decide) ?_
            refine lv_icmp_lt (tgt := 114) hx hb dX9_feed_83 (by decide) (fun c_19 => ?_) (fun c_19 => ?_)
            · skip
              refine lv_iinc (v := (nI (j + 1))) (lv' := [(7, .int (nI (j + 1))), (10, .int ((((q1.toUInt64 >>> ((56 - (8 * ((nI j) &&& 7))).toInt64.toUInt64 &&& Int64.toUInt64 63)).toInt64) &&& 255).toInt32)), (8, .long q1), (0, .ref y), (1, .long q1), (3, .long q2), (5, .long q3)]) hx hb dX9_feed_114 hl (k := 2) rfl (nI_1 _) (by decide) rfl (fun ls hl => ?_)
              refine lv_goto (tgt := 8) hx hb dX9_feed_117 (by decide) ?_
              exact ih8 (j + 1) n9 f9 (by omega) (by omega) (by have e9 : bytM q1 q2 q3 j = ((((q1.toUInt64 >>> ((56 - (8 * ((nI j) &&& 7))).toInt64.toUInt64 &&& Int64.toUInt64 63)).toInt64) &&& 255).toInt32) := (by unfold bytM; rw [if_pos (by omega)]); show _ = kn (bytM q1 q2 q3) j + kb (bytM q1 q2 q3 j); rw [e9, kb_0 (fun h => h.elim (fun h => c_17 h) (fun h => absurd h.1 (Int32.not_le.mpr c_19)))]; omega) (by omega) _ _ _ (hP.sub [0, 1] rfl) (hD.sub [0, 1] (by decide) rfl) hS (lv_sub hl [0, 3, 4, 5, 6] rfl)
            · skip
              refine lv_iload hx hb dX9_feed_86 (lv_at hl 0 rfl) ?_
              refine lv_bipush (v := 126) hx hb dX9_feed_88 (by decide) ?_
              refine lv_icmp_gt (tgt := 114) hx hb dX9_feed_90 (by decide) (fun c_20 => ?_) (fun c_20 => ?_)
              · skip
                refine lv_iinc (v := (nI (j + 1))) (lv' := [(7, .int (nI (j + 1))), (10, .int ((((q1.toUInt64 >>> ((56 - (8 * ((nI j) &&& 7))).toInt64.toUInt64 &&& Int64.toUInt64 63)).toInt64) &&& 255).toInt32)), (8, .long q1), (0, .ref y), (1, .long q1), (3, .long q2), (5, .long q3)]) hx hb dX9_feed_114 hl (k := 2) rfl (nI_1 _) (by decide) rfl (fun ls hl => ?_)
                refine lv_goto (tgt := 8) hx hb dX9_feed_117 (by decide) ?_
                exact ih8 (j + 1) n9 f9 (by omega) (by omega) (by have e9 : bytM q1 q2 q3 j = ((((q1.toUInt64 >>> ((56 - (8 * ((nI j) &&& 7))).toInt64.toUInt64 &&& Int64.toUInt64 63)).toInt64) &&& 255).toInt32) := (by unfold bytM; rw [if_pos (by omega)]); show _ = kn (bytM q1 q2 q3) j + kb (bytM q1 q2 q3 j); rw [e9, kb_0 (fun h => h.elim (fun h => c_17 h) (fun h => absurd h.2 (Int32.not_le.mpr c_20)))]; omega) (by omega) _ _ _ (hP.sub [0, 1] rfl) (hD.sub [0, 1] (by decide) rfl) hS (lv_sub hl [0, 3, 4, 5, 6] rfl)
              · skip
                refine lv_aload_n hx hb dX9_feed_93 rfl (lv_at hl 3 rfl) ?_
                refine va_get (D := D) (ci := 9) (v := .ref b_tape) (C := RX9) (T := TX9) (N := 58) hx hb hts hi9 hown hK hP 0 rfl rfl 2 (by decide) lf7 (fun _ h9 => h9) rfl dX9_feed_94 ?_
                refine lv_aload_n hx hb dX9_feed_97 rfl (lv_at hl 3 rfl) ?_
                refine va_get (D := D) (ci := 9) (v := .int (nI n9)) (C := RX9) (T := TX9) (N := 58) hx hb hts hi9 hown hK hP 0 rfl rfl 1 (by decide) lf148 (fun _ h9 => h9) rfl dX9_feed_98 ?_
                refine lv_iload hx hb dX9_feed_101 (lv_at hl 0 rfl) ?_
                refine va_iast hx hb hK hP hD hS 1 0 rfl rfl (vp_in_nI (n := n9) (by omega) (by omega)) dX9_feed_103 (fun H locs hP hD hS => ?_)
                have hP : va_P D vwCl [(y, kO 9 [.int 0, .int (nI n9), .ref b_tape, .int y_size, .int y_place, .int y_begin, .int y_token, .long y_word, .int y_told, .int y_wrong, y_supper, y_guestName, y_kind, y_offTold, y_pace, y_cooks, y_snow, y_lineFrom, y_lineTo, y_codes, .int y_code, .int y_toldLines, y_opened, y_compared, y_kept, y_keptBy, y_ahead, y_against, y_sum, y_sumBy, y_term, y_termBy, y_byNot, y_valueOf, .int y_given, y_lines, y_lineWhat, y_lineA, y_lineB, y_seens, y_seenIn, y_seenYards, y_seenNear, y_s, y_aside, y_before, y_marked, y_undone, y_isLaid, .int y_done, .int y_snowNow, .int y_cameNow, .int y_cookThen, .int y_tasteThen, y_places, y_comesAt, y_yardsIn, .long y_g]), (b_tape, kI k 1000 (upd f9 (Int32.toNatClampNeg (nI n9)) ((((q1.toUInt64 >>> ((56 - (8 * ((nI j) &&& 7))).toInt64.toUInt64 &&& Int64.toUInt64 63)).toInt64) &&& 255).toInt32)))] H := hP
                have hD : va_D A [(y, kO 9 [.int 0, .int (nI n9), .ref b_tape, .int y_size, .int y_place, .int y_begin, .int y_token, .long y_word, .int y_told, .int y_wrong, y_supper, y_guestName, y_kind, y_offTold, y_pace, y_cooks, y_snow, y_lineFrom, y_lineTo, y_codes, .int y_code, .int y_toldLines, y_opened, y_compared, y_kept, y_keptBy, y_ahead, y_against, y_sum, y_sumBy, y_term, y_termBy, y_byNot, y_valueOf, .int y_given, y_lines, y_lineWhat, y_lineA, y_lineB, y_seens, y_seenIn, y_seenYards, y_seenNear, y_s, y_aside, y_before, y_marked, y_undone, y_isLaid, .int y_done, .int y_snowNow, .int y_cameNow, .int y_cookThen, .int y_tasteThen, y_places, y_comesAt, y_yardsIn, .long y_g]), (b_tape, kI k 1000 (upd f9 (Int32.toNatClampNeg (nI n9)) ((((q1.toUInt64 >>> ((56 - (8 * ((nI j) &&& 7))).toInt64.toUInt64 &&& Int64.toUInt64 63)).toInt64) &&& 255).toInt32)))] := hD
                refine lv_aload_n hx hb dX9_feed_104 rfl (lv_at hl 3 rfl) ?_
                refine lv_dup hx hb dX9_feed_105 rfl ?_
                refine va_get (D := D) (ci := 9) (v := .int (nI n9)) (C := RX9) (T := TX9) (N := 58) hx hb hts hi9 hown hK hP 0 rfl rfl 1 (by decide) lf148 (fun _ h9 => h9) rfl dX9_feed_106 ?_
                refine lv_iconst (v := 1) hx hb dX9_feed_109 (by decide) ?_
                refine lv_iadd hx hb dX9_feed_110 ?_
                refine lv_topi (fun x21 ex21 => ?_)
                obtain rfl : x21 = (nI (n9 + 1)) := ex21.trans (nI_add n9 1)
                refine va_put (D := D) (ci := 9) (v := .int (nI (n9 + 1))) (ty := .int) (C := RX9) (T := TX9) (N := 58) hx hb hts hi9 tyX9 tyX9_ok nmX9 hown hK hP hD hS 0 rfl rfl 1 (by decide) lf148 (fun _ h9 => h9) rfl (by decide +kernel) rfl rfl (Nat.le_of_ble_eq_true rfl) dX9_feed_111 (fun H locs hP hD hS => ?_)
                have hP : va_P D vwCl [(y, kO 9 [.int 0, .int (nI (n9 + 1)), .ref b_tape, .int y_size, .int y_place, .int y_begin, .int y_token, .long y_word, .int y_told, .int y_wrong, y_supper, y_guestName, y_kind, y_offTold, y_pace, y_cooks, y_snow, y_lineFrom, y_lineTo, y_codes, .int y_code, .int y_toldLines, y_opened, y_compared, y_kept, y_keptBy, y_ahead, y_against, y_sum, y_sumBy, y_term, y_termBy, y_byNot, y_valueOf, .int y_given, y_lines, y_lineWhat, y_lineA, y_lineB, y_seens, y_seenIn, y_seenYards, y_seenNear, y_s, y_aside, y_before, y_marked, y_undone, y_isLaid, .int y_done, .int y_snowNow, .int y_cameNow, .int y_cookThen, .int y_tasteThen, y_places, y_comesAt, y_yardsIn, .long y_g]), (b_tape, kI k 1000 (upd f9 (Int32.toNatClampNeg (nI n9)) ((((q1.toUInt64 >>> ((56 - (8 * ((nI j) &&& 7))).toInt64.toUInt64 &&& Int64.toUInt64 63)).toInt64) &&& 255).toInt32)))] H := hP
                have hD : va_D A [(y, kO 9 [.int 0, .int (nI (n9 + 1)), .ref b_tape, .int y_size, .int y_place, .int y_begin, .int y_token, .long y_word, .int y_told, .int y_wrong, y_supper, y_guestName, y_kind, y_offTold, y_pace, y_cooks, y_snow, y_lineFrom, y_lineTo, y_codes, .int y_code, .int y_toldLines, y_opened, y_compared, y_kept, y_keptBy, y_ahead, y_against, y_sum, y_sumBy, y_term, y_termBy, y_byNot, y_valueOf, .int y_given, y_lines, y_lineWhat, y_lineA, y_lineB, y_seens, y_seenIn, y_seenYards, y_seenNear, y_s, y_aside, y_before, y_marked, y_undone, y_isLaid, .int y_done, .int y_snowNow, .int y_cameNow, .int y_cookThen, .int y_tasteThen, y_places, y_comesAt, y_yardsIn, .long y_g]), (b_tape, kI k 1000 (upd f9 (Int32.toNatClampNeg (nI n9)) ((((q1.toUInt64 >>> ((56 - (8 * ((nI j) &&& 7))).toInt64.toUInt64 &&& Int64.toUInt64 63)).toInt64) &&& 255).toInt32)))] := hD
                refine lv_iinc (v := (nI (j + 1))) (lv' := [(7, .int (nI (j + 1))), (10, .int ((((q1.toUInt64 >>> ((56 - (8 * ((nI j) &&& 7))).toInt64.toUInt64 &&& Int64.toUInt64 63)).toInt64) &&& 255).toInt32)), (8, .long q1), (0, .ref y), (1, .long q1), (3, .long q2), (5, .long q3)]) hx hb dX9_feed_114 hl (k := 2) rfl (nI_1 _) (by decide) rfl (fun ls hl => ?_)
                refine lv_goto (tgt := 8) hx hb dX9_feed_117 (by decide) ?_
                exact ih8 (j + 1) (n9 + 1) (upd f9 (Int32.toNatClampNeg (nI n9)) ((((q1.toUInt64 >>> ((56 - (8 * ((nI j) &&& 7))).toInt64.toUInt64 &&& Int64.toUInt64 63)).toInt64) &&& 255).toInt32)) (by omega) (by omega) (by have e9 : bytM q1 q2 q3 j = ((((q1.toUInt64 >>> ((56 - (8 * ((nI j) &&& 7))).toInt64.toUInt64 &&& Int64.toUInt64 63)).toInt64) &&& 255).toInt32) := (by unfold bytM; rw [if_pos (by omega)]); show _ = kn (bytM q1 q2 q3) j + kb (bytM q1 q2 q3 j); rw [e9, kb_1 (Or.inr ⟨Int32.not_lt.mp c_19, Int32.not_lt.mp c_20⟩)]; omega) (by omega) _ _ _ (hP.sub [0, 1] rfl) (hD.sub [0, 1] (by decide) rfl) hS (lv_sub hl [0, 3, 4, 5, 6] rfl)
  exact hloop8 ((24 - 0) + 1) 0 0 c_tape (Nat.lt_succ_self _) (by omega) (rfl) (by omega) _ _ _ (hP.sub [0, 1] rfl) (hD.sub [0, 1] (by decide) rfl) hS (lv_sub hl [0, 1, 2, 3, 4] rfl)
