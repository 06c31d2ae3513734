theorem dX9_held_0 : decode cX9_held 0 = .ok (.aload_n 0, 1) := by decide +kernel
theorem dX9_held_1 : decode cX9_held 1 = .ok (.iconst 0, 1) := by decide +kernel
theorem dX9_held_2 : decode cX9_held 2 = .ok (.putfield 143, 3) := by decide +kernel
theorem dX9_held_5 : decode cX9_held 5 = .ok (.aload_n 0, 1) := by decide +kernel
theorem dX9_held_6 : decode cX9_held 6 = .ok (.invokevirtual 363, 3) := by decide +kernel
theorem dX9_held_9 : decode cX9_held 9 = .ok (.istore_n 1, 1) := by decide +kernel
theorem dX9_held_10 : decode cX9_held 10 = .ok (.iconst 0, 1) := by decide +kernel
theorem dX9_held_11 : decode cX9_held 11 = .ok (.istore_n 2, 1) := by decide +kernel
theorem dX9_held_12 : decode cX9_held 12 = .ok (.iconst 0, 1) := by decide +kernel
theorem dX9_held_13 : decode cX9_held 13 = .ok (.istore_n 3, 1) := by decide +kernel
theorem dX9_held_14 : decode cX9_held 14 = .ok (.iload_n 3, 1) := by decide +kernel
theorem dX9_held_15 : decode cX9_held 15 = .ok (.aload_n 0, 1) := by decide +kernel
theorem dX9_held_16 : decode cX9_held 16 = .ok (.getfield 13, 3) := by decide +kernel
theorem dX9_held_19 : decode cX9_held 19 = .ok (.iconst 0, 1) := by decide +kernel
theorem dX9_held_20 : decode cX9_held 20 = .ok (.iaload, 1) := by decide +kernel
theorem dX9_held_21 : decode cX9_held 21 = .ok (.if_icmp .ge 54, 3) := by decide +kernel
theorem dX9_held_75 : decode cX9_held 75 = .ok (.iload_n 2, 1) := by decide +kernel
theorem dX9_held_76 : decode cX9_held 76 = .ok (.ireturn, 1) := by decide +kernel
set_option maxRecDepth 20000 in
theorem ggX9_held_X9_onRoad : GoodIn wsX9_held wsX9_onRoad := goodIn_r _ [8, 2, 9, 10, 11, 7, 12, 3, 22, 23, 24, 25, 26, 27, 28, 29, 30, 31, 32, 33, 34, 35, 36, 37, 38, 39, 40, 41, 42, 43, 44, 45, 46, 47, 48, 49, 50, 51, 52, 53, 54, 55, 56, 57, 58, 59, 60, 61, 62, 63, 64, 65, 66, 67, 68, 69, 70, 71, 72, 73, 74, 75, 76, 77, 78, 79] rfl (by decide +kernel)
set_option maxRecDepth 20000 in
theorem gX9_held_X9_onRoad : GoodIn wsX9_held (wsV RX9 363 RX9 yX9_onRoad wsX9_onRoad) := goodIn_app (goodIn_of _ (by decide +kernel)) ggX9_held_X9_onRoad
set_option maxHeartbeats 4000000 in
set_option maxRecDepth 100000 in
theorem mX9_held (l : Launch) (D : va_G) (k : Nat → ClassId) (sz : Nat) (y : Nat) (y_thrown : Int32) (y_taped : Int32) (y_tape : Value) (y_size : Int32) (y_place : Int32) (y_begin : Int32) (y_token : Int32) (y_word : Int64) (y_told : Int32) (y_wrong : Int32) (b_supper : Nat) (y_guestName : Value) (y_kind : Value) (y_offTold : Value) (y_pace : Value) (y_cooks : Value) (y_snow : Value) (y_lineFrom : Value) (y_lineTo : Value) (y_codes : Value) (y_code : Int32) (y_toldLines : Int32) (y_opened : Value) (y_compared : Value) (y_kept : Value) (y_keptBy : Value) (y_ahead : Value) (y_against : Value) (y_sum : Value) (y_sumBy : Value) (y_term : Value) (y_termBy : Value) (y_byNot : Value) (y_valueOf : Value) (y_given : Int32) (y_lines : Value) (y_lineWhat : Value) (y_lineA : Value) (y_lineB : Value) (y_seens : Value) (y_seenIn : Value) (y_seenYards : Value) (y_seenNear : Value) (y_s : Value) (y_aside : Value) (y_before : Value) (y_marked : Value) (y_undone : Value) (y_isLaid : Value) (y_done : Int32) (y_snowNow : Int32) (y_cameNow : Int32) (y_cookThen : Int32) (y_tasteThen : Int32) (y_places : Value) (y_comesAt : Value) (y_yardsIn : Value) (y_g : Int64) (c_supper : Nat → Int32) (hs0 : c_supper 0 = 0) : Met l yX9_held wsX9_held ({ frames := 1, cells := 0, slots := 0, locals := 70 }) (va_Pc [.ref y] (kz_Pre D k [(y, kO 9 [.int y_thrown, .int y_taped, y_tape, .int y_size, .int y_place, .int y_begin, .int y_token, .long y_word, .int y_told, .int y_wrong, .ref b_supper, y_guestName, y_kind, y_offTold, y_pace, y_cooks, y_snow, y_lineFrom, y_lineTo, y_codes, .int y_code, .int y_toldLines, y_opened, y_compared, y_kept, y_keptBy, y_ahead, y_against, y_sum, y_sumBy, y_term, y_termBy, y_byNot, y_valueOf, .int y_given, y_lines, y_lineWhat, y_lineA, y_lineB, y_seens, y_seenIn, y_seenYards, y_seenNear, y_s, y_aside, y_before, y_marked, y_undone, y_isLaid, .int y_done, .int y_snowNow, .int y_cameNow, .int y_cookThen, .int y_tasteThen, y_places, y_comesAt, y_yardsIn, .long y_g]), (b_supper, kI k 8 c_supper)] sz)) (va_Qi (fun (rr : Int32) (uu : Unit) => rr = 0) (fun uu zt => kz_B D (va_A [(y, kO 9 [.int y_thrown, .int y_taped, y_tape, .int y_size, .int y_place, .int y_begin, .int y_token, .long y_word, .int y_told, .int y_wrong, .ref b_supper, y_guestName, y_kind, y_offTold, y_pace, y_cooks, y_snow, y_lineFrom, y_lineTo, y_codes, .int y_code, .int y_toldLines, y_opened, y_compared, y_kept, y_keptBy, y_ahead, y_against, y_sum, y_sumBy, y_term, y_termBy, y_byNot, y_valueOf, .int y_given, y_lines, y_lineWhat, y_lineA, y_lineB, y_seens, y_seenIn, y_seenYards, y_seenNear, y_s, y_aside, y_before, y_marked, y_undone, y_isLaid, .int y_done, .int y_snowNow, .int y_cameNow, .int y_cookThen, .int y_tasteThen, y_places, y_comesAt, y_yardsIn, .long y_g]), (b_supper, kI k 8 c_supper)] sz) [] zt) (va_A [(y, kO 9 [.int y_thrown, .int y_taped, y_tape, .int y_size, .int y_place, .int y_begin, .int y_token, .long y_word, .int y_told, .int y_wrong, .ref b_supper, y_guestName, y_kind, y_offTold, y_pace, y_cooks, y_snow, y_lineFrom, y_lineTo, y_codes, .int y_code, .int y_toldLines, y_opened, y_compared, y_kept, y_keptBy, y_ahead, y_against, y_sum, y_sumBy, y_term, y_termBy, y_byNot, y_valueOf, .int y_given, y_lines, y_lineWhat, y_lineA, y_lineB, y_seens, y_seenIn, y_seenYards, y_seenNear, y_s, y_aside, y_before, y_marked, y_undone, y_isLaid, .int y_done, .int y_snowNow, .int y_cameNow, .int y_cookThen, .int y_tasteThen, y_places, y_comesAt, y_yardsIn, .long y_g]), (b_supper, kI k 8 c_supper)] sz)) 0 0 (va_A [(y, kO 9 [.int y_thrown, .int y_taped, y_tape, .int y_size, .int y_place, .int y_begin, .int y_token, .long y_word, .int y_told, .int y_wrong, .ref b_supper, y_guestName, y_kind, y_offTold, y_pace, y_cooks, y_snow, y_lineFrom, y_lineTo, y_codes, .int y_code, .int y_toldLines, y_opened, y_compared, y_kept, y_keptBy, y_ahead, y_against, y_sum, y_sumBy, y_term, y_termBy, y_byNot, y_valueOf, .int y_given, y_lines, y_lineWhat, y_lineA, y_lineB, y_seens, y_seenIn, y_seenYards, y_seenNear, y_s, y_aside, y_before, y_marked, y_undone, y_isLaid, .int y_done, .int y_snowNow, .int y_cameNow, .int y_cookThen, .int y_tasteThen, y_places, y_comesAt, y_yardsIn, .long y_g]), (b_supper, kI k 8 c_supper)] sz) := by
  refine Met.ofW (cc := cX9_held) (maxL := 4) (ret := (some .int)) (by decide) rfl ?_
  intro p e s m args below meth c s₁ B hml hv
  obtain ⟨hav, hsz, hP, hK, hD0, hE⟩ := hv
  have hx := B.exec
  have hb := B.bytes
  have hr := B.returns
  have hts := atoms_spec (ws := wsX9_held) B.pre
  have hown : s.vm.findClass RX9 = some m.cls := findClass_of_methodNamed B.named
  have hlocks := B.notSynchronized
  have hi9 : ∀ w ∈ u_ws RX9 TX9 58, w ∈ wsX9_held := by decide +kernel
  have lf143 := hts (.fieldLink RX9 143 "LastCookModel" "thrown" "I") (by decide +kernel)
  have lf13 := hts (.fieldLink RX9 13 "LastCookModel" "supper" "[I") (by decide +kernel)
  subst hsz
  have hD := hD0.self (sz := s.heap.size)
  generalize hAe : va_A [(y, kO 9 [.int y_thrown, .int y_taped, y_tape, .int y_size, .int y_place, .int y_begin, .int y_token, .long y_word, .int y_told, .int y_wrong, .ref b_supper, y_guestName, y_kind, y_offTold, y_pace, y_cooks, y_snow, y_lineFrom, y_lineTo, y_codes, .int y_code, .int y_toldLines, y_opened, y_compared, y_kept, y_keptBy, y_ahead, y_against, y_sum, y_sumBy, y_term, y_termBy, y_byNot, y_valueOf, .int y_given, y_lines, y_lineWhat, y_lineA, y_lineB, y_seens, y_seenIn, y_seenYards, y_seenNear, y_s, y_aside, y_before, y_marked, y_undone, y_isLaid, .int y_done, .int y_snowNow, .int y_cameNow, .int y_cookThen, .int y_tasteThen, y_places, y_comesAt, y_yardsIn, .long y_g]), (b_supper, kI k 8 c_supper)] s.heap.size = A at hD ⊢
  have hA : ∀ q : Nat, s.heap.size ≤ q → A q := fun q h => by rw [← hAe]; exact Or.inr h
  have hS : va_S A s.heap s.heap [] := va_S.rf
  have hl := lv_entry ([.ref y]) (n := 4) (Nat.le_of_ble_eq_true rfl)
  rw [show entryFrame m args 4 = entryFrame m ([.ref y] : List Value).toArray 4 by rw [hav], lg_entry_eq]
  generalize (lg_sl ([.ref y]) ++ List.replicate (4 - (lg_sl ([.ref y])).length) Slot.unset).toArray = ls at hl ⊢
  have hl : lv_has ls 4 [(0, .ref y)] := hl
  obtain ⟨R, hR⟩ : ∃ R, R = (headSpec wsX9_held ({ frames := 1, cells := 0, slots := 0, locals := 70 } : Room)).room := ⟨_, rfl⟩
  rw [← hR]
  generalize hQ : MQ below _ args s 0 0 A = Q
  replace hQ := hQ.symm
  obtain ⟨H, hH⟩ : ∃ H, H = s.heap := ⟨_, rfl⟩
  rw [← hH] at hP ⊢
  have hS : va_S A s.heap H [] := by rw [hH]; exact hS
  refine lv_aload_n hx hb dX9_held_0 rfl (lv_at hl 0 rfl) ?_
  refine lv_iconst (v := 0) hx hb dX9_held_1 (by decide) ?_
  refine va_put (D := D) (ci := 9) (v := .int 0) (ty := .int) (C := RX9) (T := TX9) (N := 58) hx hb hts hi9 tyX9 tyX9_ok nmX9 hown hK hP hD hS 0 rfl rfl 0 (by decide) lf143 (fun _ h9 => h9) rfl (by decide +kernel) rfl rfl (Nat.le_of_ble_eq_true rfl) dX9_held_2 (fun H locs hP hD hS => ?_)
  have hP : va_P D vwCl [(y, kO 9 [.int 0, .int y_taped, y_tape, .int y_size, .int y_place, .int y_begin, .int y_token, .long y_word, .int y_told, .int y_wrong, .ref b_supper, y_guestName, y_kind, y_offTold, y_pace, y_cooks, y_snow, y_lineFrom, y_lineTo, y_codes, .int y_code, .int y_toldLines, y_opened, y_compared, y_kept, y_keptBy, y_ahead, y_against, y_sum, y_sumBy, y_term, y_termBy, y_byNot, y_valueOf, .int y_given, y_lines, y_lineWhat, y_lineA, y_lineB, y_seens, y_seenIn, y_seenYards, y_seenNear, y_s, y_aside, y_before, y_marked, y_undone, y_isLaid, .int y_done, .int y_snowNow, .int y_cameNow, .int y_cookThen, .int y_tasteThen, y_places, y_comesAt, y_yardsIn, .long y_g]), (b_supper, kI k 8 c_supper)] H := hP
  have hD : va_D A [(y, kO 9 [.int 0, .int y_taped, y_tape, .int y_size, .int y_place, .int y_begin, .int y_token, .long y_word, .int y_told, .int y_wrong, .ref b_supper, y_guestName, y_kind, y_offTold, y_pace, y_cooks, y_snow, y_lineFrom, y_lineTo, y_codes, .int y_code, .int y_toldLines, y_opened, y_compared, y_kept, y_keptBy, y_ahead, y_against, y_sum, y_sumBy, y_term, y_termBy, y_byNot, y_valueOf, .int y_given, y_lines, y_lineWhat, y_lineA, y_lineB, y_seens, y_seenIn, y_seenYards, y_seenNear, y_s, y_aside, y_before, y_marked, y_undone, y_isLaid, .int y_done, .int y_snowNow, .int y_cameNow, .int y_cookThen, .int y_tasteThen, y_places, y_comesAt, y_yardsIn, .long y_g]), (b_supper, kI k 8 c_supper)] := hD
  refine lv_aload_n hx hb dX9_held_5 rfl (lv_at hl 0 rfl) ?_
  refine kz_Vi (As := []) (rest := []) (wc := [(y, kO 9 [.int 0, .int y_taped, y_tape, .int y_size, .int y_place, .int y_begin, .int y_token, .long y_word, .int y_told, .int y_wrong, .ref b_supper, y_guestName, y_kind, y_offTold, y_pace, y_cooks, y_snow, y_lineFrom, y_lineTo, y_codes, .int y_code, .int y_toldLines, y_opened, y_compared, y_kept, y_keptBy, y_ahead, y_against, y_sum, y_sumBy, y_term, y_termBy, y_byNot, y_valueOf, .int y_given, y_lines, y_lineWhat, y_lineA, y_lineB, y_seens, y_seenIn, y_seenYards, y_seenNear, y_s, y_aside, y_before, y_marked, y_undone, y_isLaid, .int y_done, .int y_snowNow, .int y_cameNow, .int y_cookThen, .int y_tasteThen, y_places, y_comesAt, y_yardsIn, .long y_g]), (b_supper, kI k 8 c_supper)]) (wr := []) ⟨hx, hb, hml, hown, hts⟩ hK hE hP hD hS hA (mX9_onRoad l D k H.size y 0 y_taped y_tape y_size y_place y_begin y_token y_word y_told y_wrong b_supper y_guestName y_kind y_offTold y_pace y_cooks y_snow y_lineFrom y_lineTo y_codes y_code y_toldLines y_opened y_compared y_kept y_keptBy y_ahead y_against y_sum y_sumBy y_term y_termBy y_byNot y_valueOf y_given y_lines y_lineWhat y_lineA y_lineB y_seens y_seenIn y_seenYards y_seenNear y_s y_aside y_before y_marked y_undone y_isLaid y_done y_snowNow y_cameNow y_cookThen y_tasteThen y_places y_comesAt y_yardsIn y_g c_supper hs0) (cwV 0 hts gX9_held_X9_onRoad rfl rfl rfl (by decide +kernel) (by rw [hR]; exact ⟨Nat.le_of_ble_eq_true rfl, Nat.le_of_ble_eq_true rfl⟩)) [0, 1] [] rfl rfl (by decide) (by decide) (by decide) 0 rfl rfl rfl hl.1 rfl (Nat.le_of_ble_eq_true rfl) dX9_held_6 (by rw [hR]; exact ⟨Nat.le_of_ble_eq_true rfl, Nat.le_of_ble_eq_true rfl⟩) (fun r1 u1 H locs hw1 hP hD hS => ?_)
  try dsimp only at hw1
  obtain rfl : r1 = 0 := hw1
  have hP : va_P D vwCl [(y, kO 9 [.int 0, .int y_taped, y_tape, .int y_size, .int y_place, .int y_begin, .int y_token, .long y_word, .int y_told, .int y_wrong, .ref b_supper, y_guestName, y_kind, y_offTold, y_pace, y_cooks, y_snow, y_lineFrom, y_lineTo, y_codes, .int y_code, .int y_toldLines, y_opened, y_compared, y_kept, y_keptBy, y_ahead, y_against, y_sum, y_sumBy, y_term, y_termBy, y_byNot, y_valueOf, .int y_given, y_lines, y_lineWhat, y_lineA, y_lineB, y_seens, y_seenIn, y_seenYards, y_seenNear, y_s, y_aside, y_before, y_marked, y_undone, y_isLaid, .int y_done, .int y_snowNow, .int y_cameNow, .int y_cookThen, .int y_tasteThen, y_places, y_comesAt, y_yardsIn, .long y_g]), (b_supper, kI k 8 c_supper)] H := hP
  have hD : va_D A [(y, kO 9 [.int 0, .int y_taped, y_tape, .int y_size, .int y_place, .int y_begin, .int y_token, .long y_word, .int y_told, .int y_wrong, .ref b_supper, y_guestName, y_kind, y_offTold, y_pace, y_cooks, y_snow, y_lineFrom, y_lineTo, y_codes, .int y_code, .int y_toldLines, y_opened, y_compared, y_kept, y_keptBy, y_ahead, y_against, y_sum, y_sumBy, y_term, y_termBy, y_byNot, y_valueOf, .int y_given, y_lines, y_lineWhat, y_lineA, y_lineB, y_seens, y_seenIn, y_seenYards, y_seenNear, y_s, y_aside, y_before, y_marked, y_undone, y_isLaid, .int y_done, .int y_snowNow, .int y_cameNow, .int y_cookThen, .int y_tasteThen, y_places, y_comesAt, y_yardsIn, .long y_g]), (b_supper, kI k 8 c_supper)] := hD
  refine lv_istore_n (lv' := [(1, .int 0), (0, .ref y)]) hx hb dX9_held_9 rfl hl (by decide) rfl (fun ls hl => ?_)
  refine lv_iconst (v := 0) hx hb dX9_held_10 (by decide) ?_
  refine lv_istore_n (lv' := [(2, .int 0), (1, .int 0), (0, .ref y)]) hx hb dX9_held_11 rfl hl (by decide) rfl (fun ls hl => ?_)
  refine lv_iconst (v := 0) hx hb dX9_held_12 (by decide) ?_
  refine lv_istore_n (lv' := [(3, .int 0), (2, .int 0), (1, .int 0), (0, .ref y)]) hx hb dX9_held_13 rfl hl (by decide) rfl (fun ls hl => ?_)
  refine lv_iload_n hx hb dX9_held_14 rfl (lv_at hl 0 rfl) ?_
  refine lv_aload_n hx hb dX9_held_15 rfl (lv_at hl 3 rfl) ?_
  refine va_get (D := D) (ci := 9) (v := .ref b_supper) (C := RX9) (T := TX9) (N := 58) hx hb hts hi9 hown hK hP 0 rfl rfl 10 (by decide) lf13 (fun _ h9 => h9) rfl dX9_held_16 ?_
  refine lv_iconst (v := 0) hx hb dX9_held_19 (by decide) ?_
  refine va_iald hx hb hK hP 1 0 rfl rfl (vp_in_iff.mpr (by decide)) dX9_held_20 ?_
  refine lv_topi (fun x2 ex2 => ?_)
  obtain rfl : x2 = 0 := ex2.trans (show _ = _ from hs0)
  refine lv_icmp_ge (tgt := 75) hx hb dX9_held_21 (by decide) (fun c_3 => ?_) (fun c_3 => absurd (by decide) c_3)
  refine lv_iload_n hx hb dX9_held_75 rfl (lv_at hl 1 rfl) ?_
  rw [hQ]
  have hP9 := hP.sub (ws' := []) [] rfl
  have hD9 := hD.sub (ws' := []) [] (by decide) rfl
  exact W.iret (v := 0) hx hb hr (fun zt ht hW => ⟨⟨0, (), rfl, rfl, by rw [ht]; exact hP9, hD9⟩, hS.F ht⟩) hS.2.2 dX9_held_76
theorem dX9_fair_0 : decode cX9_fair 0 = .ok (.aload_n 0, 1) := by decide +kernel
theorem dX9_fair_1 : decode cX9_fair 1 = .ok (.iconst 0, 1) := by decide +kernel
theorem dX9_fair_2 : decode cX9_fair 2 = .ok (.putfield 143, 3) := by decide +kernel
theorem dX9_fair_5 : decode cX9_fair 5 = .ok (.iconst 0, 1) := by decide +kernel
theorem dX9_fair_6 : decode cX9_fair 6 = .ok (.istore_n 1, 1) := by decide +kernel
theorem dX9_fair_7 : decode cX9_fair 7 = .ok (.aload_n 0, 1) := by decide +kernel
theorem dX9_fair_8 : decode cX9_fair 8 = .ok (.getfield 13, 3) := by decide +kernel
theorem dX9_fair_11 : decode cX9_fair 11 = .ok (.iconst 0, 1) := by decide +kernel
theorem dX9_fair_12 : decode cX9_fair 12 = .ok (.iaload, 1) := by decide +kernel
theorem dX9_fair_13 : decode cX9_fair 13 = .ok (.ifCond .ne 7, 3) := by decide +kernel
theorem dX9_fair_16 : decode cX9_fair 16 = .ok (.iconst 0, 1) := by decide +kernel
theorem dX9_fair_17 : decode cX9_fair 17 = .ok (.goto 10, 3) := by decide +kernel
theorem dX9_fair_27 : decode cX9_fair 27 = .ok (.istore_n 2, 1) := by decide +kernel
theorem dX9_fair_28 : decode cX9_fair 28 = .ok (.iconst 0, 1) := by decide +kernel
theorem dX9_fair_29 : decode cX9_fair 29 = .ok (.istore_n 3, 1) := by decide +kernel
theorem dX9_fair_30 : decode cX9_fair 30 = .ok (.iload_n 3, 1) := by decide +kernel
theorem dX9_fair_31 : decode cX9_fair 31 = .ok (.aload_n 0, 1) := by decide +kernel
theorem dX9_fair_32 : decode cX9_fair 32 = .ok (.getfield 13, 3) := by decide +kernel
theorem dX9_fair_35 : decode cX9_fair 35 = .ok (.iconst 0, 1) := by decide +kernel
theorem dX9_fair_36 : decode cX9_fair 36 = .ok (.iaload, 1) := by decide +kernel
theorem dX9_fair_37 : decode cX9_fair 37 = .ok (.if_icmp .ge 37, 3) := by decide +kernel
theorem dX9_fair_74 : decode cX9_fair 74 = .ok (.iload_n 1, 1) := by decide +kernel
theorem dX9_fair_75 : decode cX9_fair 75 = .ok (.iload_n 2, 1) := by decide +kernel
theorem dX9_fair_76 : decode cX9_fair 76 = .ok (.isub, 1) := by decide +kernel
theorem dX9_fair_77 : decode cX9_fair 77 = .ok (.ireturn, 1) := by decide +kernel
set_option maxHeartbeats 4000000 in
set_option maxRecDepth 100000 in
theorem mX9_fair (l : Launch) (D : va_G) (k : Nat → ClassId) (sz : Nat) (y : Nat) (y_thrown : Int32) (y_taped : Int32) (y_tape : Value) (y_size : Int32) (y_place : Int32) (y_begin : Int32) (y_token : Int32) (y_word : Int64) (y_told : Int32) (y_wrong : Int32) (b_supper : Nat) (y_guestName : Value) (y_kind : Value) (y_offTold : Value) (y_pace : Value) (y_cooks : Value) (y_snow : Value) (y_lineFrom : Value) (y_lineTo : Value) (y_codes : Value) (y_code : Int32) (y_toldLines : Int32) (y_opened : Value) (y_compared : Value) (y_kept : Value) (y_keptBy : Value) (y_ahead : Value) (y_against : Value) (y_sum : Value) (y_sumBy : Value) (y_term : Value) (y_termBy : Value) (y_byNot : Value) (y_valueOf : Value) (y_given : Int32) (y_lines : Value) (y_lineWhat : Value) (y_lineA : Value) (y_lineB : Value) (y_seens : Value) (y_seenIn : Value) (y_seenYards : Value) (y_seenNear : Value) (y_s : Value) (y_aside : Value) (y_before : Value) (y_marked : Value) (y_undone : Value) (y_isLaid : Value) (y_done : Int32) (y_snowNow : Int32) (y_cameNow : Int32) (y_cookThen : Int32) (y_tasteThen : Int32) (y_places : Value) (y_comesAt : Value) (y_yardsIn : Value) (y_g : Int64) (c_supper : Nat → Int32) (hs0 : c_supper 0 = 0) : Met l yX9_fair wsX9_fair ({ frames := 0, cells := 0, slots := 0, locals := 0 }) (va_Pc [.ref y] (kz_Pre D k [(y, kO 9 [.int y_thrown, .int y_taped, y_tape, .int y_size, .int y_place, .int y_begin, .int y_token, .long y_word, .int y_told, .int y_wrong, .ref b_supper, y_guestName, y_kind, y_offTold, y_pace, y_cooks, y_snow, y_lineFrom, y_lineTo, y_codes, .int y_code, .int y_toldLines, y_opened, y_compared, y_kept, y_keptBy, y_ahead, y_against, y_sum, y_sumBy, y_term, y_termBy, y_byNot, y_valueOf, .int y_given, y_lines, y_lineWhat, y_lineA, y_lineB, y_seens, y_seenIn, y_seenYards, y_seenNear, y_s, y_aside, y_before, y_marked, y_undone, y_isLaid, .int y_done, .int y_snowNow, .int y_cameNow, .int y_cookThen, .int y_tasteThen, y_places, y_comesAt, y_yardsIn, .long y_g]), (b_supper, kI k 8 c_supper)] sz)) (va_Qi (fun (rr : Int32) (uu : Unit) => rr = 0) (fun uu zt => kz_B D (va_A [(y, kO 9 [.int y_thrown, .int y_taped, y_tape, .int y_size, .int y_place, .int y_begin, .int y_token, .long y_word, .int y_told, .int y_wrong, .ref b_supper, y_guestName, y_kind, y_offTold, y_pace, y_cooks, y_snow, y_lineFrom, y_lineTo, y_codes, .int y_code, .int y_toldLines, y_opened, y_compared, y_kept, y_keptBy, y_ahead, y_against, y_sum, y_sumBy, y_term, y_termBy, y_byNot, y_valueOf, .int y_given, y_lines, y_lineWhat, y_lineA, y_lineB, y_seens, y_seenIn, y_seenYards, y_seenNear, y_s, y_aside, y_before, y_marked, y_undone, y_isLaid, .int y_done, .int y_snowNow, .int y_cameNow, .int y_cookThen, .int y_tasteThen, y_places, y_comesAt, y_yardsIn, .long y_g]), (b_supper, kI k 8 c_supper)] sz) [] zt) (va_A [(y, kO 9 [.int y_thrown, .int y_taped, y_tape, .int y_size, .int y_place, .int y_begin, .int y_token, .long y_word, .int y_told, .int y_wrong, .ref b_supper, y_guestName, y_kind, y_offTold, y_pace, y_cooks, y_snow, y_lineFrom, y_lineTo, y_codes, .int y_code, .int y_toldLines, y_opened, y_compared, y_kept, y_keptBy, y_ahead, y_against, y_sum, y_sumBy, y_term, y_termBy, y_byNot, y_valueOf, .int y_given, y_lines, y_lineWhat, y_lineA, y_lineB, y_seens, y_seenIn, y_seenYards, y_seenNear, y_s, y_aside, y_before, y_marked, y_undone, y_isLaid, .int y_done, .int y_snowNow, .int y_cameNow, .int y_cookThen, .int y_tasteThen, y_places, y_comesAt, y_yardsIn, .long y_g]), (b_supper, kI k 8 c_supper)] sz)) 0 0 (va_A [(y, kO 9 [.int y_thrown, .int y_taped, y_tape, .int y_size, .int y_place, .int y_begin, .int y_token, .long y_word, .int y_told, .int y_wrong, .ref b_supper, y_guestName, y_kind, y_offTold, y_pace, y_cooks, y_snow, y_lineFrom, y_lineTo, y_codes, .int y_code, .int y_toldLines, y_opened, y_compared, y_kept, y_keptBy, y_ahead, y_against, y_sum, y_sumBy, y_term, y_termBy, y_byNot, y_valueOf, .int y_given, y_lines, y_lineWhat, y_lineA, y_lineB, y_seens, y_seenIn, y_seenYards, y_seenNear, y_s, y_aside, y_before, y_marked, y_undone, y_isLaid, .int y_done, .int y_snowNow, .int y_cameNow, .int y_cookThen, .int y_tasteThen, y_places, y_comesAt, y_yardsIn, .long y_g]), (b_supper, kI k 8 c_supper)] sz) := by
  refine Met.ofW (cc := cX9_fair) (maxL := 4) (ret := (some .int)) (by decide) rfl ?_
  intro p e s m args below meth c s₁ B hml hv
  obtain ⟨hav, hsz, hP, hK, hD0, hE⟩ := hv
  have hx := B.exec
  have hb := B.bytes
  have hr := B.returns
  have hts := atoms_spec (ws := wsX9_fair) B.pre
  have hown : s.vm.findClass RX9 = some m.cls := findClass_of_methodNamed B.named
  have hlocks := B.notSynchronized
  have hi9 : ∀ w ∈ u_ws RX9 TX9 58, w ∈ wsX9_fair := by decide +kernel
  have lf143 := hts (.fieldLink RX9 143 "LastCookModel" "thrown" "I") (by decide +kernel)
  have lf13 := hts (.fieldLink RX9 13 "LastCookModel" "supper" "[I") (by decide +kernel)
  subst hsz
  have hD := hD0.self (sz := s.heap.size)
  generalize hAe : va_A [(y, kO 9 [.int y_thrown, .int y_taped, y_tape, .int y_size, .int y_place, .int y_begin, .int y_token, .long y_word, .int y_told, .int y_wrong, .ref b_supper, y_guestName, y_kind, y_offTold, y_pace, y_cooks, y_snow, y_lineFrom, y_lineTo, y_codes, .int y_code, .int y_toldLines, y_opened, y_compared, y_kept, y_keptBy, y_ahead, y_against, y_sum, y_sumBy, y_term, y_termBy, y_byNot, y_valueOf, .int y_given, y_lines, y_lineWhat, y_lineA, y_lineB, y_seens, y_seenIn, y_seenYards, y_seenNear, y_s, y_aside, y_before, y_marked, y_undone, y_isLaid, .int y_done, .int y_snowNow, .int y_cameNow, .int y_cookThen, .int y_tasteThen, y_places, y_comesAt, y_yardsIn, .long y_g]), (b_supper, kI k 8 c_supper)] s.heap.size = A at hD ⊢
  have hA : ∀ q : Nat, s.heap.size ≤ q → A q := fun q h => by rw [← hAe]; exact Or.inr h
  have hS : va_S A s.heap s.heap [] := va_S.rf
  have hl := lv_entry ([.ref y]) (n := 4) (Nat.le_of_ble_eq_true rfl)
  rw [show entryFrame m args 4 = entryFrame m ([.ref y] : List Value).toArray 4 by rw [hav], lg_entry_eq]
  generalize (lg_sl ([.ref y]) ++ List.replicate (4 - (lg_sl ([.ref y])).length) Slot.unset).toArray = ls at hl ⊢
  have hl : lv_has ls 4 [(0, .ref y)] := hl
  obtain ⟨R, hR⟩ : ∃ R, R = (headSpec wsX9_fair ({ frames := 0, cells := 0, slots := 0, locals := 0 } : Room)).room := ⟨_, rfl⟩
  rw [← hR]
  generalize hQ : MQ below _ args s 0 0 A = Q
  replace hQ := hQ.symm
  obtain ⟨H, hH⟩ : ∃ H, H = s.heap := ⟨_, rfl⟩
  rw [← hH] at hP ⊢
  have hS : va_S A s.heap H [] := by rw [hH]; exact hS
  refine lv_aload_n hx hb dX9_fair_0 rfl (lv_at hl 0 rfl) ?_
  refine lv_iconst (v := 0) hx hb dX9_fair_1 (by decide) ?_
  refine va_put (D := D) (ci := 9) (v := .int 0) (ty := .int) (C := RX9) (T := TX9) (N := 58) hx hb hts hi9 tyX9 tyX9_ok nmX9 hown hK hP hD hS 0 rfl rfl 0 (by decide) lf143 (fun _ h9 => h9) rfl (by decide +kernel) rfl rfl (Nat.le_of_ble_eq_true rfl) dX9_fair_2 (fun H locs hP hD hS => ?_)
  have hP : va_P D vwCl [(y, kO 9 [.int 0, .int y_taped, y_tape, .int y_size, .int y_place, .int y_begin, .int y_token, .long y_word, .int y_told, .int y_wrong, .ref b_supper, y_guestName, y_kind, y_offTold, y_pace, y_cooks, y_snow, y_lineFrom, y_lineTo, y_codes, .int y_code, .int y_toldLines, y_opened, y_compared, y_kept, y_keptBy, y_ahead, y_against, y_sum, y_sumBy, y_term, y_termBy, y_byNot, y_valueOf, .int y_given, y_lines, y_lineWhat, y_lineA, y_lineB, y_seens, y_seenIn, y_seenYards, y_seenNear, y_s, y_aside, y_before, y_marked, y_undone, y_isLaid, .int y_done, .int y_snowNow, .int y_cameNow, .int y_cookThen, .int y_tasteThen, y_places, y_comesAt, y_yardsIn, .long y_g]), (b_supper, kI k 8 c_supper)] H := hP
  have hD : va_D A [(y, kO 9 [.int 0, .int y_taped, y_tape, .int y_size, .int y_place, .int y_begin, .int y_token, .long y_word, .int y_told, .int y_wrong, .ref b_supper, y_guestName, y_kind, y_offTold, y_pace, y_cooks, y_snow, y_lineFrom, y_lineTo, y_codes, .int y_code, .int y_toldLines, y_opened, y_compared, y_kept, y_keptBy, y_ahead, y_against, y_sum, y_sumBy, y_term, y_termBy, y_byNot, y_valueOf, .int y_given, y_lines, y_lineWhat, y_lineA, y_lineB, y_seens, y_seenIn, y_seenYards, y_seenNear, y_s, y_aside, y_before, y_marked, y_undone, y_isLaid, .int y_done, .int y_snowNow, .int y_cameNow, .int y_cookThen, .int y_tasteThen, y_places, y_comesAt, y_yardsIn, .long y_g]), (b_supper, kI k 8 c_supper)] := hD
  refine lv_iconst (v := 0) hx hb dX9_fair_5 (by decide) ?_
  refine lv_istore_n (lv' := [(1, .int 0), (0, .ref y)]) hx hb dX9_fair_6 rfl hl (by decide) rfl (fun ls hl => ?_)
  refine lv_aload_n hx hb dX9_fair_7 rfl (lv_at hl 1 rfl) ?_
  refine va_get (D := D) (ci := 9) (v := .ref b_supper) (C := RX9) (T := TX9) (N := 58) hx hb hts hi9 hown hK hP 0 rfl rfl 10 (by decide) lf13 (fun _ h9 => h9) rfl dX9_fair_8 ?_
  refine lv_iconst (v := 0) hx hb dX9_fair_11 (by decide) ?_
  refine va_iald hx hb hK hP 1 0 rfl rfl (vp_in_iff.mpr (by decide)) dX9_fair_12 ?_
  refine lv_topi (fun x1 ex1 => ?_)
  obtain rfl : x1 = 0 := ex1.trans (show _ = _ from hs0)
  refine lv_if_ne (tgt := 20) hx hb dX9_fair_13 (by decide) (fun c_2 => absurd (by decide) c_2) (fun c_2 => ?_)
  refine lv_iconst (v := 0) hx hb dX9_fair_16 (by decide) ?_
  refine lv_goto (tgt := 27) hx hb dX9_fair_17 (by decide) ?_
  refine lv_istore_n (lv' := [(2, .int 0), (1, .int 0), (0, .ref y)]) hx hb dX9_fair_27 rfl hl (by decide) rfl (fun ls hl => ?_)
  refine lv_iconst (v := 0) hx hb dX9_fair_28 (by decide) ?_
  refine lv_istore_n (lv' := [(3, .int 0), (2, .int 0), (1, .int 0), (0, .ref y)]) hx hb dX9_fair_29 rfl hl (by decide) rfl (fun ls hl => ?_)
  refine lv_iload_n hx hb dX9_fair_30 rfl (lv_at hl 0 rfl) ?_
  refine lv_aload_n hx hb dX9_fair_31 rfl (lv_at hl 3 rfl) ?_
  refine va_get (D := D) (ci := 9) (v := .ref b_supper) (C := RX9) (T := TX9) (N := 58) hx hb hts hi9 hown hK hP 0 rfl rfl 10 (by decide) lf13 (fun _ h9 => h9) rfl dX9_fair_32 ?_
  refine lv_iconst (v := 0) hx hb dX9_fair_35 (by decide) ?_
  refine va_iald hx hb hK hP 1 0 rfl rfl (vp_in_iff.mpr (by decide)) dX9_fair_36 ?_
  refine lv_topi (fun x3 ex3 => ?_)
  obtain rfl : x3 = 0 := ex3.trans (show _ = _ from hs0)
  refine lv_icmp_ge (tgt := 74) hx hb dX9_fair_37 (by decide) (fun c_4 => ?_) (fun c_4 => absurd (by decide) c_4)
  refine lv_iload_n hx hb dX9_fair_74 rfl (lv_at hl 2 rfl) ?_
  refine lv_iload_n hx hb dX9_fair_75 rfl (lv_at hl 1 rfl) ?_
  refine lv_isub hx hb dX9_fair_76 ?_
  refine lv_topi (fun x5 ex5 => ?_)
  obtain rfl : x5 = 0 := ex5.trans (by decide)
  rw [hQ]
  have hP9 := hP.sub (ws' := []) [] rfl
  have hD9 := hD.sub (ws' := []) [] (by decide) rfl
  exact W.iret (v := 0) hx hb hr (fun zt ht hW => ⟨⟨0, (), rfl, rfl, by rw [ht]; exact hP9, hD9⟩, hS.F ht⟩) hS.2.2 dX9_fair_77
theorem dX9_see_0 : decode cX9_see 0 = .ok (.aload_n 0, 1) := by decide +kernel
theorem dX9_see_1 : decode cX9_see 1 = .ok (.iconst 0, 1) := by decide +kernel
theorem dX9_see_2 : decode cX9_see 2 = .ok (.putfield 143, 3) := by decide +kernel
theorem dX9_see_5 : decode cX9_see 5 = .ok (.iload_n 1, 1) := by decide +kernel
theorem dX9_see_6 : decode cX9_see 6 = .ok (.iconst 0, 1) := by decide +kernel
theorem dX9_see_7 : decode cX9_see 7 = .ok (.bipush 60, 2) := by decide +kernel
theorem dX9_see_9 : decode cX9_see 9 = .ok (.invokestatic 260, 3) := by decide +kernel
theorem dX9_see_12 : decode cX9_see 12 = .ok (.ifCond .eq 25, 3) := by decide +kernel
theorem dX9_see_15 : decode cX9_see 15 = .ok (.iload_n 2, 1) := by decide +kernel
theorem dX9_see_16 : decode cX9_see 16 = .ok (.iconst 0, 1) := by decide +kernel
theorem dX9_see_17 : decode cX9_see 17 = .ok (.sipush 300, 3) := by decide +kernel
theorem dX9_see_20 : decode cX9_see 20 = .ok (.invokestatic 260, 3) := by decide +kernel
theorem dX9_see_23 : decode cX9_see 23 = .ok (.ifCond .eq 14, 3) := by decide +kernel
theorem dX9_see_26 : decode cX9_see 26 = .ok (.aload_n 0, 1) := by decide +kernel
theorem dX9_see_27 : decode cX9_see 27 = .ok (.getfield 93, 3) := by decide +kernel
theorem dX9_see_30 : decode cX9_see 30 = .ok (.iconst 0, 1) := by decide +kernel
theorem dX9_see_31 : decode cX9_see 31 = .ok (.iaload, 1) := by decide +kernel
theorem dX9_see_32 : decode cX9_see 32 = .ok (.bipush 8, 2) := by decide +kernel
theorem dX9_see_34 : decode cX9_see 34 = .ok (.if_icmp .ne 5, 3) := by decide +kernel
theorem dX9_see_37 : decode cX9_see 37 = .ok (.iconst 0, 1) := by decide +kernel
theorem dX9_see_38 : decode cX9_see 38 = .ok (.ireturn, 1) := by decide +kernel
theorem dX9_see_39 : decode cX9_see 39 = .ok (.aload_n 0, 1) := by decide +kernel
theorem dX9_see_40 : decode cX9_see 40 = .ok (.getfield 96, 3) := by decide +kernel
theorem dX9_see_43 : decode cX9_see 43 = .ok (.aload_n 0, 1) := by decide +kernel
theorem dX9_see_44 : decode cX9_see 44 = .ok (.getfield 93, 3) := by decide +kernel
theorem dX9_see_47 : decode cX9_see 47 = .ok (.iconst 0, 1) := by decide +kernel
theorem dX9_see_48 : decode cX9_see 48 = .ok (.iaload, 1) := by decide +kernel
theorem dX9_see_49 : decode cX9_see 49 = .ok (.iload_n 1, 1) := by decide +kernel
theorem dX9_see_50 : decode cX9_see 50 = .ok (.iastore, 1) := by decide +kernel
theorem dX9_see_51 : decode cX9_see 51 = .ok (.aload_n 0, 1) := by decide +kernel
theorem dX9_see_52 : decode cX9_see 52 = .ok (.getfield 99, 3) := by decide +kernel
theorem dX9_see_55 : decode cX9_see 55 = .ok (.aload_n 0, 1) := by decide +kernel
theorem dX9_see_56 : decode cX9_see 56 = .ok (.getfield 93, 3) := by decide +kernel
theorem dX9_see_59 : decode cX9_see 59 = .ok (.iconst 0, 1) := by decide +kernel
theorem dX9_see_60 : decode cX9_see 60 = .ok (.iaload, 1) := by decide +kernel
theorem dX9_see_61 : decode cX9_see 61 = .ok (.iload_n 2, 1) := by decide +kernel
theorem dX9_see_62 : decode cX9_see 62 = .ok (.iastore, 1) := by decide +kernel
theorem dX9_see_63 : decode cX9_see 63 = .ok (.aload_n 0, 1) := by decide +kernel
theorem dX9_see_64 : decode cX9_see 64 = .ok (.getfield 102, 3) := by decide +kernel
theorem dX9_see_67 : decode cX9_see 67 = .ok (.aload_n 0, 1) := by decide +kernel
theorem dX9_see_68 : decode cX9_see 68 = .ok (.getfield 93, 3) := by decide +kernel
theorem dX9_see_71 : decode cX9_see 71 = .ok (.iconst 0, 1) := by decide +kernel
theorem dX9_see_72 : decode cX9_see 72 = .ok (.iaload, 1) := by decide +kernel
theorem dX9_see_73 : decode cX9_see 73 = .ok (.iload_n 3, 1) := by decide +kernel
theorem dX9_see_74 : decode cX9_see 74 = .ok (.bastore, 1) := by decide +kernel
theorem dX9_see_75 : decode cX9_see 75 = .ok (.aload_n 0, 1) := by decide +kernel
theorem dX9_see_76 : decode cX9_see 76 = .ok (.getfield 93, 3) := by decide +kernel
theorem dX9_see_79 : decode cX9_see 79 = .ok (.iconst 0, 1) := by decide +kernel
theorem dX9_see_80 : decode cX9_see 80 = .ok (.dup2, 1) := by decide +kernel
theorem dX9_see_81 : decode cX9_see 81 = .ok (.iaload, 1) := by decide +kernel
theorem dX9_see_82 : decode cX9_see 82 = .ok (.iconst 1, 1) := by decide +kernel
theorem dX9_see_83 : decode cX9_see 83 = .ok (.iadd, 1) := by decide +kernel
theorem dX9_see_84 : decode cX9_see 84 = .ok (.iastore, 1) := by decide +kernel
theorem dX9_see_85 : decode cX9_see 85 = .ok (.iconst 1, 1) := by decide +kernel
theorem dX9_see_86 : decode cX9_see 86 = .ok (.ireturn, 1) := by decide +kernel
set_option maxRecDepth 20000 in
theorem ggX9_see_X9_within : GoodIn wsX9_see wsX9_within := goodIn_r _ [9] rfl (by decide +kernel)
set_option maxRecDepth 20000 in
theorem gX9_see_X9_within : GoodIn wsX9_see (va_wsS RX9 260 yX9_within wsX9_within) := goodIn_app (goodIn_of _ (by decide +kernel)) ggX9_see_X9_within
set_option maxHeartbeats 4000000 in
set_option maxRecDepth 100000 in
theorem mX9_see (l : Launch) (D : va_G) (k : Nat → ClassId) (sz : Nat) (y : Nat) (q1 : Int32) (q2 : Int32) (q3 : Int32) (y_thrown : Int32) (y_taped : Int32) (y_tape : Value) (y_size : Int32) (y_place : Int32) (y_begin : Int32) (y_token : Int32) (y_word : Int64) (y_told : Int32) (y_wrong : Int32) (y_supper : Value) (y_guestName : Value) (y_kind : Value) (y_offTold : Value) (y_pace : Value) (y_cooks : Value) (y_snow : Value) (y_lineFrom : Value) (y_lineTo : Value) (y_codes : Value) (y_code : Int32) (y_toldLines : Int32) (y_opened : Value) (y_compared : Value) (y_kept : Value) (y_keptBy : Value) (y_ahead : Value) (y_against : Value) (y_sum : Value) (y_sumBy : Value) (y_term : Value) (y_termBy : Value) (y_byNot : Value) (y_valueOf : Value) (y_given : Int32) (y_lines : Value) (y_lineWhat : Value) (y_lineA : Value) (y_lineB : Value) (b_seens : Nat) (b_seenIn : Nat) (b_seenYards : Nat) (b_seenNear : Nat) (y_s : Value) (y_aside : Value) (y_before : Value) (y_marked : Value) (y_undone : Value) (y_isLaid : Value) (y_done : Int32) (y_snowNow : Int32) (y_cameNow : Int32) (y_cookThen : Int32) (y_tasteThen : Int32) (y_places : Value) (y_comesAt : Value) (y_yardsIn : Value) (y_g : Int64) (c_seens : Nat → Int32) (c_seenIn : Nat → Int32) (c_seenYards : Nat → Int32) (c_seenNear : Nat → Int32) (he0 : c_seens 0 = 0) : Met l yX9_see wsX9_see ({ frames := 1, cells := 0, slots := 0, locals := 70 }) (va_Pc [.ref y, .int q1, .int q2, .int q3] (kz_Pre D k [(y, kO 9 [.int y_thrown, .int y_taped, y_tape, .int y_size, .int y_place, .int y_begin, .int y_token, .long y_word, .int y_told, .int y_wrong, y_supper, y_guestName, y_kind, y_offTold, y_pace, y_cooks, y_snow, y_lineFrom, y_lineTo, y_codes, .int y_code, .int y_toldLines, y_opened, y_compared, y_kept, y_keptBy, y_ahead, y_against, y_sum, y_sumBy, y_term, y_termBy, y_byNot, y_valueOf, .int y_given, y_lines, y_lineWhat, y_lineA, y_lineB, .ref b_seens, .ref b_seenIn, .ref b_seenYards, .ref b_seenNear, y_s, y_aside, y_before, y_marked, y_undone, y_isLaid, .int y_done, .int y_snowNow, .int y_cameNow, .int y_cookThen, .int y_tasteThen, y_places, y_comesAt, y_yardsIn, .long y_g]), (b_seens, kI k 5 c_seens), (b_seenIn, kI k 40 c_seenIn), (b_seenYards, kI k 40 c_seenYards), (b_seenNear, kZ k 40 c_seenNear)] sz)) (va_Qi (fun (rr : Int32) (uu : Unit) => rr = aS q1 q2) (fun uu zt => kz_B D (va_A [(y, kO 9 [.int y_thrown, .int y_taped, y_tape, .int y_size, .int y_place, .int y_begin, .int y_token, .long y_word, .int y_told, .int y_wrong, y_supper, y_guestName, y_kind, y_offTold, y_pace, y_cooks, y_snow, y_lineFrom, y_lineTo, y_codes, .int y_code, .int y_toldLines, y_opened, y_compared, y_kept, y_keptBy, y_ahead, y_against, y_sum, y_sumBy, y_term, y_termBy, y_byNot, y_valueOf, .int y_given, y_lines, y_lineWhat, y_lineA, y_lineB, .ref b_seens, .ref b_seenIn, .ref b_seenYards, .ref b_seenNear, y_s, y_aside, y_before, y_marked, y_undone, y_isLaid, .int y_done, .int y_snowNow, .int y_cameNow, .int y_cookThen, .int y_tasteThen, y_places, y_comesAt, y_yardsIn, .long y_g]), (b_seens, kI k 5 c_seens), (b_seenIn, kI k 40 c_seenIn), (b_seenYards, kI k 40 c_seenYards), (b_seenNear, kZ k 40 c_seenNear)] sz) [] zt) (va_A [(y, kO 9 [.int y_thrown, .int y_taped, y_tape, .int y_size, .int y_place, .int y_begin, .int y_token, .long y_word, .int y_told, .int y_wrong, y_supper, y_guestName, y_kind, y_offTold, y_pace, y_cooks, y_snow, y_lineFrom, y_lineTo, y_codes, .int y_code, .int y_toldLines, y_opened, y_compared, y_kept, y_keptBy, y_ahead, y_against, y_sum, y_sumBy, y_term, y_termBy, y_byNot, y_valueOf, .int y_given, y_lines, y_lineWhat, y_lineA, y_lineB, .ref b_seens, .ref b_seenIn, .ref b_seenYards, .ref b_seenNear, y_s, y_aside, y_before, y_marked, y_undone, y_isLaid, .int y_done, .int y_snowNow, .int y_cameNow, .int y_cookThen, .int y_tasteThen, y_places, y_comesAt, y_yardsIn, .long y_g]), (b_seens, kI k 5 c_seens), (b_seenIn, kI k 40 c_seenIn), (b_seenYards, kI k 40 c_seenYards), (b_seenNear, kZ k 40 c_seenNear)] sz)) 0 0 (va_A [(y, kO 9 [.int y_thrown, .int y_taped, y_tape, .int y_size, .int y_place, .int y_begin, .int y_token, .long y_word, .int y_told, .int y_wrong, y_supper, y_guestName, y_kind, y_offTold, y_pace, y_cooks, y_snow, y_lineFrom, y_lineTo, y_codes, .int y_code, .int y_toldLines, y_opened, y_compared, y_kept, y_keptBy, y_ahead, y_against, y_sum, y_sumBy, y_term, y_termBy, y_byNot, y_valueOf, .int y_given, y_lines, y_lineWhat, y_lineA, y_lineB, .ref b_seens, .ref b_seenIn, .ref b_seenYards, .ref b_seenNear, y_s, y_aside, y_before, y_marked, y_undone, y_isLaid, .int y_done, .int y_snowNow, .int y_cameNow, .int y_cookThen, .int y_tasteThen, y_places, y_comesAt, y_yardsIn, .long y_g]), (b_seens, kI k 5 c_seens), (b_seenIn, kI k 40 c_seenIn), (b_seenYards, kI k 40 c_seenYards), (b_seenNear, kZ k 40 c_seenNear)] sz) := by
  refine Met.ofW (cc := cX9_see) (maxL := 4) (ret := (some .boolean)) (by decide) rfl ?_
  intro p e s m args below meth c s₁ B hml hv
  obtain ⟨hav, hsz, hP, hK, hD0, hE⟩ := hv
  have hx := B.exec
  have hb := B.bytes
  have hr := B.returns
  have hts := atoms_spec (ws := wsX9_see) B.pre
  have hown : s.vm.findClass RX9 = some m.cls := findClass_of_methodNamed B.named
  have hlocks := B.notSynchronized
  have hi9 : ∀ w ∈ u_ws RX9 TX9 58, w ∈ wsX9_see := by decide +kernel
  have lf143 := hts (.fieldLink RX9 143 "LastCookModel" "thrown" "I") (by decide +kernel)
  have lf93 := hts (.fieldLink RX9 93 "LastCookModel" "seens" "[I") (by decide +kernel)
  have lf96 := hts (.fieldLink RX9 96 "LastCookModel" "seenIn" "[I") (by decide +kernel)
  have lf99 := hts (.fieldLink RX9 99 "LastCookModel" "seenYards" "[I") (by decide +kernel)
  have lf102 := hts (.fieldLink RX9 102 "LastCookModel" "seenNear" "[Z") (by decide +kernel)
  subst hsz
  have hD := hD0.self (sz := s.heap.size)
  generalize hAe : va_A [(y, kO 9 [.int y_thrown, .int y_taped, y_tape, .int y_size, .int y_place, .int y_begin, .int y_token, .long y_word, .int y_told, .int y_wrong, y_supper, y_guestName, y_kind, y_offTold, y_pace, y_cooks, y_snow, y_lineFrom, y_lineTo, y_codes, .int y_code, .int y_toldLines, y_opened, y_compared, y_kept, y_keptBy, y_ahead, y_against, y_sum, y_sumBy, y_term, y_termBy, y_byNot, y_valueOf, .int y_given, y_lines, y_lineWhat, y_lineA, y_lineB, .ref b_seens, .ref b_seenIn, .ref b_seenYards, .ref b_seenNear, y_s, y_aside, y_before, y_marked, y_undone, y_isLaid, .int y_done, .int y_snowNow, .int y_cameNow, .int y_cookThen, .int y_tasteThen, y_places, y_comesAt, y_yardsIn, .long y_g]), (b_seens, kI k 5 c_seens), (b_seenIn, kI k 40 c_seenIn), (b_seenYards, kI k 40 c_seenYards), (b_seenNear, kZ k 40 c_seenNear)] s.heap.size = A at hD ⊢
  have hA : ∀ q : Nat, s.heap.size ≤ q → A q := fun q h => by rw [← hAe]; exact Or.inr h
  have hS : va_S A s.heap s.heap [] := va_S.rf
  have hl := lv_entry ([.ref y, .int q1, .int q2, .int q3]) (n := 4) (Nat.le_of_ble_eq_true rfl)
  rw [show entryFrame m args 4 = entryFrame m ([.ref y, .int q1, .int q2, .int q3] : List Value).toArray 4 by rw [hav], lg_entry_eq]
  generalize (lg_sl ([.ref y, .int q1, .int q2, .int q3]) ++ List.replicate (4 - (lg_sl ([.ref y, .int q1, .int q2, .int q3])).length) Slot.unset).toArray = ls at hl ⊢
  have hl : lv_has ls 4 [(0, .ref y), (1, .int q1), (2, .int q2), (3, .int q3)] := hl
  obtain ⟨R, hR⟩ : ∃ R, R = (headSpec wsX9_see ({ frames := 1, cells := 0, slots := 0, locals := 70 } : Room)).room := ⟨_, rfl⟩
  rw [← hR]
  generalize hQ : MQ below _ args s 0 0 A = Q
  replace hQ := hQ.symm
  obtain ⟨H, hH⟩ : ∃ H, H = s.heap := ⟨_, rfl⟩
  rw [← hH] at hP ⊢
  have hS : va_S A s.heap H [] := by rw [hH]; exact hS
  refine lv_aload_n hx hb dX9_see_0 rfl (lv_at hl 0 rfl) ?_
  refine lv_iconst (v := 0) hx hb dX9_see_1 (by decide) ?_
  refine va_put (D := D) (ci := 9) (v := .int 0) (ty := .int) (C := RX9) (T := TX9) (N := 58) hx hb hts hi9 tyX9 tyX9_ok nmX9 hown hK hP hD hS 0 rfl rfl 0 (by decide) lf143 (fun _ h9 => h9) rfl (by decide +kernel) rfl rfl (Nat.le_of_ble_eq_true rfl) dX9_see_2 (fun H locs hP hD hS => ?_)
  have hP : va_P D vwCl [(y, kO 9 [.int 0, .int y_taped, y_tape, .int y_size, .int y_place, .int y_begin, .int y_token, .long y_word, .int y_told, .int y_wrong, y_supper, y_guestName, y_kind, y_offTold, y_pace, y_cooks, y_snow, y_lineFrom, y_lineTo, y_codes, .int y_code, .int y_toldLines, y_opened, y_compared, y_kept, y_keptBy, y_ahead, y_against, y_sum, y_sumBy, y_term, y_termBy, y_byNot, y_valueOf, .int y_given, y_lines, y_lineWhat, y_lineA, y_lineB, .ref b_seens, .ref b_seenIn, .ref b_seenYards, .ref b_seenNear, y_s, y_aside, y_before, y_marked, y_undone, y_isLaid, .int y_done, .int y_snowNow, .int y_cameNow, .int y_cookThen, .int y_tasteThen, y_places, y_comesAt, y_yardsIn, .long y_g]), (b_seens, kI k 5 c_seens), (b_seenIn, kI k 40 c_seenIn), (b_seenYards, kI k 40 c_seenYards), (b_seenNear, kZ k 40 c_seenNear)] H := hP
  have hD : va_D A [(y, kO 9 [.int 0, .int y_taped, y_tape, .int y_size, .int y_place, .int y_begin, .int y_token, .long y_word, .int y_told, .int y_wrong, y_supper, y_guestName, y_kind, y_offTold, y_pace, y_cooks, y_snow, y_lineFrom, y_lineTo, y_codes, .int y_code, .int y_toldLines, y_opened, y_compared, y_kept, y_keptBy, y_ahead, y_against, y_sum, y_sumBy, y_term, y_termBy, y_byNot, y_valueOf, .int y_given, y_lines, y_lineWhat, y_lineA, y_lineB, .ref b_seens, .ref b_seenIn, .ref b_seenYards, .ref b_seenNear, y_s, y_aside, y_before, y_marked, y_undone, y_isLaid, .int y_done, .int y_snowNow, .int y_cameNow, .int y_cookThen, .int y_tasteThen, y_places, y_comesAt, y_yardsIn, .long y_g]), (b_seens, kI k 5 c_seens), (b_seenIn, kI k 40 c_seenIn), (b_seenYards, kI k 40 c_seenYards), (b_seenNear, kZ k 40 c_seenNear)] := hD
  refine lv_iload_n hx hb dX9_see_5 rfl (lv_at hl 1 rfl) ?_
  refine lv_iconst (v := 0) hx hb dX9_see_6 (by decide) ?_
  refine lv_bipush (v := 60) hx hb dX9_see_7 (by decide) ?_
  refine kz_Si (As := [.int q1, .int 0, .int 60]) (rest := []) (wc := []) (wr := [(y, kO 9 [.int 0, .int y_taped, y_tape, .int y_size, .int y_place, .int y_begin, .int y_token, .long y_word, .int y_told, .int y_wrong, y_supper, y_guestName, y_kind, y_offTold, y_pace, y_cooks, y_snow, y_lineFrom, y_lineTo, y_codes, .int y_code, .int y_toldLines, y_opened, y_compared, y_kept, y_keptBy, y_ahead, y_against, y_sum, y_sumBy, y_term, y_termBy, y_byNot, y_valueOf, .int y_given, y_lines, y_lineWhat, y_lineA, y_lineB, .ref b_seens, .ref b_seenIn, .ref b_seenYards, .ref b_seenNear, y_s, y_aside, y_before, y_marked, y_undone, y_isLaid, .int y_done, .int y_snowNow, .int y_cameNow, .int y_cookThen, .int y_tasteThen, y_places, y_comesAt, y_yardsIn, .long y_g]), (b_seens, kI k 5 c_seens), (b_seenIn, kI k 40 c_seenIn), (b_seenYards, kI k 40 c_seenYards), (b_seenNear, kZ k 40 c_seenNear)]) ⟨hx, hb, hml, hown, hts⟩ hK hE hP hD hS hA (mX9_within l D k H.size q1 0 60) (va_cwS 3 hts gX9_see_X9_within rfl rfl rfl (by decide +kernel) (by rw [hR]; exact ⟨Nat.le_of_ble_eq_true rfl, Nat.le_of_ble_eq_true rfl⟩)) [] [0, 1, 2, 3, 4] rfl rfl (by decide) (by decide) (by decide) rfl hl.1 rfl (Nat.le_of_ble_eq_true rfl) dX9_see_9 (by rw [hR]; exact ⟨Nat.le_of_ble_eq_true rfl, Nat.le_of_ble_eq_true rfl⟩) (fun r1 u1 H locs hw1 hP hD hS => ?_)
  try dsimp only at hw1
  obtain rfl : r1 = bz (0 ≤ q1 ∧ q1 ≤ 60) := hw1
  have hP : va_P D vwCl [(y, kO 9 [.int 0, .int y_taped, y_tape, .int y_size, .int y_place, .int y_begin, .int y_token, .long y_word, .int y_told, .int y_wrong, y_supper, y_guestName, y_kind, y_offTold, y_pace, y_cooks, y_snow, y_lineFrom, y_lineTo, y_codes, .int y_code, .int y_toldLines, y_opened, y_compared, y_kept, y_keptBy, y_ahead, y_against, y_sum, y_sumBy, y_term, y_termBy, y_byNot, y_valueOf, .int y_given, y_lines, y_lineWhat, y_lineA, y_lineB, .ref b_seens, .ref b_seenIn, .ref b_seenYards, .ref b_seenNear, y_s, y_aside, y_before, y_marked, y_undone, y_isLaid, .int y_done, .int y_snowNow, .int y_cameNow, .int y_cookThen, .int y_tasteThen, y_places, y_comesAt, y_yardsIn, .long y_g]), (b_seens, kI k 5 c_seens), (b_seenIn, kI k 40 c_seenIn), (b_seenYards, kI k 40 c_seenYards), (b_seenNear, kZ k 40 c_seenNear)] H := hP
  have hD : va_D A [(y, kO 9 [.int 0, .int y_taped, y_tape, .int y_size, .int y_place, .int y_begin, .int y_token, .long y_word, .int y_told, .int y_wrong, y_supper, y_guestName, y_kind, y_offTold, y_pace, y_cooks, y_snow, y_lineFrom, y_lineTo, y_codes, .int y_code, .int y_toldLines, y_opened, y_compared, y_kept, y_keptBy, y_ahead, y_against, y_sum, y_sumBy, y_term, y_termBy, y_byNot, y_valueOf, .int y_given, y_lines, y_lineWhat, y_lineA, y_lineB, .ref b_seens, .ref b_seenIn, .ref b_seenYards, .ref b_seenNear, y_s, y_aside, y_before, y_marked, y_undone, y_isLaid, .int y_done, .int y_snowNow, .int y_cameNow, .int y_cookThen, .int y_tasteThen, y_places, y_comesAt, y_yardsIn, .long y_g]), (b_seens, kI k 5 c_seens), (b_seenIn, kI k 40 c_seenIn), (b_seenYards, kI k 40 c_seenYards), (b_seenNear, kZ k 40 c_seenNear)] := hD
  refine lv_if_eq (tgt := 37) hx hb dX9_see_12 (by decide) (fun c_2 => ?_) (fun c_2 => ?_)
  · skip
    refine lv_iconst (v := 0) hx hb dX9_see_37 (by decide) ?_
    rw [hQ]
    have hP9 := hP.sub (ws' := []) [] rfl
    have hD9 := hD.sub (ws' := []) [] (by decide) rfl
    exact W.zret (v := 0) hx hb hr rfl (fun zt ht hW => ⟨⟨0, (), rfl, (by unfold aS; rw [if_neg (bz_0 c_2)]), by rw [ht]; exact hP9, hD9⟩, hS.F ht⟩) hS.2.2 dX9_see_38
  · skip
    refine lv_iload_n hx hb dX9_see_15 rfl (lv_at hl 2 rfl) ?_
    refine lv_iconst (v := 0) hx hb dX9_see_16 (by decide) ?_
    refine lv_sipush (v := 300) hx hb dX9_see_17 (by decide) ?_
    refine kz_Si (As := [.int q2, .int 0, .int 300]) (rest := []) (wc := []) (wr := [(y, kO 9 [.int 0, .int y_taped, y_tape, .int y_size, .int y_place, .int y_begin, .int y_token, .long y_word, .int y_told, .int y_wrong, y_supper, y_guestName, y_kind, y_offTold, y_pace, y_cooks, y_snow, y_lineFrom, y_lineTo, y_codes, .int y_code, .int y_toldLines, y_opened, y_compared, y_kept, y_keptBy, y_ahead, y_against, y_sum, y_sumBy, y_term, y_termBy, y_byNot, y_valueOf, .int y_given, y_lines, y_lineWhat, y_lineA, y_lineB, .ref b_seens, .ref b_seenIn, .ref b_seenYards, .ref b_seenNear, y_s, y_aside, y_before, y_marked, y_undone, y_isLaid, .int y_done, .int y_snowNow, .int y_cameNow, .int y_cookThen, .int y_tasteThen, y_places, y_comesAt, y_yardsIn, .long y_g]), (b_seens, kI k 5 c_seens), (b_seenIn, kI k 40 c_seenIn), (b_seenYards, kI k 40 c_seenYards), (b_seenNear, kZ k 40 c_seenNear)]) ⟨hx, hb, hml, hown, hts⟩ hK hE hP hD hS hA (mX9_within l D k H.size q2 0 300) (va_cwS 3 hts gX9_see_X9_within rfl rfl rfl (by decide +kernel) (by rw [hR]; exact ⟨Nat.le_of_ble_eq_true rfl, Nat.le_of_ble_eq_true rfl⟩)) [] [0, 1, 2, 3, 4] rfl rfl (by decide) (by decide) (by decide) rfl hl.1 rfl (Nat.le_of_ble_eq_true rfl) dX9_see_20 (by rw [hR]; exact ⟨Nat.le_of_ble_eq_true rfl, Nat.le_of_ble_eq_true rfl⟩) (fun r3 u3 H locs hw3 hP hD hS => ?_)
    try dsimp only at hw3
    obtain rfl : r3 = bz (0 ≤ q2 ∧ q2 ≤ 300) := hw3
    have hP : va_P D vwCl [(y, kO 9 [.int 0, .int y_taped, y_tape, .int y_size, .int y_place, .int y_begin, .int y_token, .long y_word, .int y_told, .int y_wrong, y_supper, y_guestName, y_kind, y_offTold, y_pace, y_cooks, y_snow, y_lineFrom, y_lineTo, y_codes, .int y_code, .int y_toldLines, y_opened, y_compared, y_kept, y_keptBy, y_ahead, y_against, y_sum, y_sumBy, y_term, y_termBy, y_byNot, y_valueOf, .int y_given, y_lines, y_lineWhat, y_lineA, y_lineB, .ref b_seens, .ref b_seenIn, .ref b_seenYards, .ref b_seenNear, y_s, y_aside, y_before, y_marked, y_undone, y_isLaid, .int y_done, .int y_snowNow, .int y_cameNow, .int y_cookThen, .int y_tasteThen, y_places, y_comesAt, y_yardsIn, .long y_g]), (b_seens, kI k 5 c_seens), (b_seenIn, kI k 40 c_seenIn), (b_seenYards, kI k 40 c_seenYards), (b_seenNear, kZ k 40 c_seenNear)] H := hP
    have hD : va_D A [(y, kO 9 [.int 0, .int y_taped, y_tape, .int y_size, .int y_place, .int y_begin, .int y_token, .long y_word, .int y_told, .int y_wrong, y_supper, y_guestName, y_kind, y_offTold, y_pace, y_cooks, y_snow, y_lineFrom, y_lineTo, y_codes, .int y_code, .int y_toldLines, y_opened, y_compared, y_kept, y_keptBy, y_ahead, y_against, y_sum, y_sumBy, y_term, y_termBy, y_byNot, y_valueOf, .int y_given, y_lines, y_lineWhat, y_lineA, y_lineB, .ref b_seens, .ref b_seenIn, .ref b_seenYards, .ref b_seenNear, y_s, y_aside, y_before, y_marked, y_undone, y_isLaid, .int y_done, .int y_snowNow, .int y_cameNow, .int y_cookThen, .int y_tasteThen, y_places, y_comesAt, y_yardsIn, .long y_g]), (b_seens, kI k 5 c_seens), (b_seenIn, kI k 40 c_seenIn), (b_seenYards, kI k 40 c_seenYards), (b_seenNear, kZ k 40 c_seenNear)] := hD
    refine lv_if_eq (tgt := 37) hx hb dX9_see_23 (by decide) (fun c_4 => ?_) (fun c_4 => ?_)
    · skip
      refine lv_iconst (v := 0) hx hb dX9_see_37 (by decide) ?_
      rw [hQ]
      have hP9 := hP.sub (ws' := []) [] rfl
      have hD9 := hD.sub (ws' := []) [] (by decide) rfl
      exact W.zret (v := 0) hx hb hr rfl (fun zt ht hW => ⟨⟨0, (), rfl, (by unfold aS; rw [if_pos (bz_1 c_2), if_neg (bz_0 c_4)]), by rw [ht]; exact hP9, hD9⟩, hS.F ht⟩) hS.2.2 dX9_see_38
    · skip
      refine lv_aload_n hx hb dX9_see_26 rfl (lv_at hl 0 rfl) ?_
      refine va_get (D := D) (ci := 9) (v := .ref b_seens) (C := RX9) (T := TX9) (N := 58) hx hb hts hi9 hown hK hP 0 rfl rfl 39 (by decide) lf93 (fun _ h9 => h9) rfl dX9_see_27 ?_
      refine lv_iconst (v := 0) hx hb dX9_see_30 (by decide) ?_
      refine va_iald hx hb hK hP 1 0 rfl rfl (vp_in_iff.mpr (by decide)) dX9_see_31 ?_
      refine lv_topi (fun x5 ex5 => ?_)
      obtain rfl : x5 = 0 := ex5.trans (show _ = _ from he0)
      refine lv_bipush (v := 8) hx hb dX9_see_32 (by decide) ?_
      refine lv_icmp_ne (tgt := 39) hx hb dX9_see_34 (by decide) (fun c_6 => ?_) (fun c_6 => absurd c_6 (by decide))
      refine lv_aload_n hx hb dX9_see_39 rfl (lv_at hl 0 rfl) ?_
      refine va_get (D := D) (ci := 9) (v := .ref b_seenIn) (C := RX9) (T := TX9) (N := 58) hx hb hts hi9 hown hK hP 0 rfl rfl 40 (by decide) lf96 (fun _ h9 => h9) rfl dX9_see_40 ?_
      refine lv_aload_n hx hb dX9_see_43 rfl (lv_at hl 0 rfl) ?_
      refine va_get (D := D) (ci := 9) (v := .ref b_seens) (C := RX9) (T := TX9) (N := 58) hx hb hts hi9 hown hK hP 0 rfl rfl 39 (by decide) lf93 (fun _ h9 => h9) rfl dX9_see_44 ?_
      refine lv_iconst (v := 0) hx hb dX9_see_47 (by decide) ?_
      refine va_iald hx hb hK hP 1 0 rfl rfl (vp_in_iff.mpr (by decide)) dX9_see_48 ?_
      refine lv_topi (fun x7 ex7 => ?_)
      obtain rfl : x7 = 0 := ex7.trans (show _ = _ from he0)
      refine lv_iload_n hx hb dX9_see_49 rfl (lv_at hl 1 rfl) ?_
      refine va_iast hx hb hK hP hD hS 2 0 rfl rfl (vp_in_iff.mpr (by decide)) dX9_see_50 (fun H locs hP hD hS => ?_)
      have hP : va_P D vwCl [(y, kO 9 [.int 0, .int y_taped, y_tape, .int y_size, .int y_place, .int y_begin, .int y_token, .long y_word, .int y_told, .int y_wrong, y_supper, y_guestName, y_kind, y_offTold, y_pace, y_cooks, y_snow, y_lineFrom, y_lineTo, y_codes, .int y_code, .int y_toldLines, y_opened, y_compared, y_kept, y_keptBy, y_ahead, y_against, y_sum, y_sumBy, y_term, y_termBy, y_byNot, y_valueOf, .int y_given, y_lines, y_lineWhat, y_lineA, y_lineB, .ref b_seens, .ref b_seenIn, .ref b_seenYards, .ref b_seenNear, y_s, y_aside, y_before, y_marked, y_undone, y_isLaid, .int y_done, .int y_snowNow, .int y_cameNow, .int y_cookThen, .int y_tasteThen, y_places, y_comesAt, y_yardsIn, .long y_g]), (b_seens, kI k 5 c_seens), (b_seenIn, kI k 40 (upd c_seenIn (Int32.toNatClampNeg 0) q1)), (b_seenYards, kI k 40 c_seenYards), (b_seenNear, kZ k 40 c_seenNear)] H := hP
      have hD : va_D A [(y, kO 9 [.int 0, .int y_taped, y_tape, .int y_size, .int y_place, .int y_begin, .int y_token, .long y_word, .int y_told, .int y_wrong, y_supper, y_guestName, y_kind, y_offTold, y_pace, y_cooks, y_snow, y_lineFrom, y_lineTo, y_codes, .int y_code, .int y_toldLines, y_opened, y_compared, y_kept, y_keptBy, y_ahead, y_against, y_sum, y_sumBy, y_term, y_termBy, y_byNot, y_valueOf, .int y_given, y_lines, y_lineWhat, y_lineA, y_lineB, .ref b_seens, .ref b_seenIn, .ref b_seenYards, .ref b_seenNear, y_s, y_aside, y_before, y_marked, y_undone, y_isLaid, .int y_done, .int y_snowNow, .int y_cameNow, .int y_cookThen, .int y_tasteThen, y_places, y_comesAt, y_yardsIn, .long y_g]), (b_seens, kI k 5 c_seens), (b_seenIn, kI k 40 (upd c_seenIn (Int32.toNatClampNeg 0) q1)), (b_seenYards, kI k 40 c_seenYards), (b_seenNear, kZ k 40 c_seenNear)] := hD
      refine lv_aload_n hx hb dX9_see_51 rfl (lv_at hl 0 rfl) ?_
      refine va_get (D := D) (ci := 9) (v := .ref b_seenYards) (C := RX9) (T := TX9) (N := 58) hx hb hts hi9 hown hK hP 0 rfl rfl 41 (by decide) lf99 (fun _ h9 => h9) rfl dX9_see_52 ?_
      refine lv_aload_n hx hb dX9_see_55 rfl (lv_at hl 0 rfl) ?_
      refine va_get (D := D) (ci := 9) (v := .ref b_seens) (C := RX9) (T := TX9) (N := 58) hx hb hts hi9 hown hK hP 0 rfl rfl 39 (by decide) lf93 (fun _ h9 => h9) rfl dX9_see_56 ?_
      refine lv_iconst (v := 0) hx hb dX9_see_59 (by decide) ?_
      refine va_iald hx hb hK hP 1 0 rfl rfl (vp_in_iff.mpr (by decide)) dX9_see_60 ?_
      refine lv_topi (fun x8 ex8 => ?_)
      obtain rfl : x8 = 0 := ex8.trans (show _ = _ from he0)
      refine lv_iload_n hx hb dX9_see_61 rfl (lv_at hl 2 rfl) ?_
      refine va_iast hx hb hK hP hD hS 3 0 rfl rfl (vp_in_iff.mpr (by decide)) dX9_see_62 (fun H locs hP hD hS => ?_)
      have hP : va_P D vwCl [(y, kO 9 [.int 0, .int y_taped, y_tape, .int y_size, .int y_place, .int y_begin, .int y_token, .long y_word, .int y_told, .int y_wrong, y_supper, y_guestName, y_kind, y_offTold, y_pace, y_cooks, y_snow, y_lineFrom, y_lineTo, y_codes, .int y_code, .int y_toldLines, y_opened, y_compared, y_kept, y_keptBy, y_ahead, y_against, y_sum, y_sumBy, y_term, y_termBy, y_byNot, y_valueOf, .int y_given, y_lines, y_lineWhat, y_lineA, y_lineB, .ref b_seens, .ref b_seenIn, .ref b_seenYards, .ref b_seenNear, y_s, y_aside, y_before, y_marked, y_undone, y_isLaid, .int y_done, .int y_snowNow, .int y_cameNow, .int y_cookThen, .int y_tasteThen, y_places, y_comesAt, y_yardsIn, .long y_g]), (b_seens, kI k 5 c_seens), (b_seenIn, kI k 40 (upd c_seenIn (Int32.toNatClampNeg 0) q1)), (b_seenYards, kI k 40 (upd c_seenYards (Int32.toNatClampNeg 0) q2)), (b_seenNear, kZ k 40 c_seenNear)] H := hP
      have hD : va_D A [(y, kO 9 [.int 0, .int y_taped, y_tape, .int y_size, .int y_place, .int y_begin, .int y_token, .long y_word, .int y_told, .int y_wrong, y_supper, y_guestName, y_kind, y_offTold, y_pace, y_cooks, y_snow, y_lineFrom, y_lineTo, y_codes, .int y_code, .int y_toldLines, y_opened, y_compared, y_kept, y_keptBy, y_ahead, y_against, y_sum, y_sumBy, y_term, y_termBy, y_byNot, y_valueOf, .int y_given, y_lines, y_lineWhat, y_lineA, y_lineB, .ref b_seens, .ref b_seenIn, .ref b_seenYards, .ref b_seenNear, y_s, y_aside, y_before, y_marked, y_undone, y_isLaid, .int y_done, .int y_snowNow, .int y_cameNow, .int y_cookThen, .int y_tasteThen, y_places, y_comesAt, y_yardsIn, .long y_g]), (b_seens, kI k 5 c_seens), (b_seenIn, kI k 40 (upd c_seenIn (Int32.toNatClampNeg 0) q1)), (b_seenYards, kI k 40 (upd c_seenYards (Int32.toNatClampNeg 0) q2)), (b_seenNear, kZ k 40 c_seenNear)] := hD
      refine lv_aload_n hx hb dX9_see_63 rfl (lv_at hl 0 rfl) ?_
      refine va_get (D := D) (ci := 9) (v := .ref b_seenNear) (C := RX9) (T := TX9) (N := 58) hx hb hts hi9 hown hK hP 0 rfl rfl 42 (by decide) lf102 (fun _ h9 => h9) rfl dX9_see_64 ?_
      refine lv_aload_n hx hb dX9_see_67 rfl (lv_at hl 0 rfl) ?_
      refine va_get (D := D) (ci := 9) (v := .ref b_seens) (C := RX9) (T := TX9) (N := 58) hx hb hts hi9 hown hK hP 0 rfl rfl 39 (by decide) lf93 (fun _ h9 => h9) rfl dX9_see_68 ?_
      refine lv_iconst (v := 0) hx hb dX9_see_71 (by decide) ?_
      refine va_iald hx hb hK hP 1 0 rfl rfl (vp_in_iff.mpr (by decide)) dX9_see_72 ?_
      refine lv_topi (fun x9 ex9 => ?_)
      obtain rfl : x9 = 0 := ex9.trans (show _ = _ from he0)
      refine lv_iload_n hx hb dX9_see_73 rfl (lv_at hl 3 rfl) ?_
      refine va_zast hx hb hK hP hD hS 4 3 rfl rfl (vp_in_iff.mpr (by decide)) dX9_see_74 (fun H locs hP hD hS => ?_)
      have hP : va_P D vwCl [(y, kO 9 [.int 0, .int y_taped, y_tape, .int y_size, .int y_place, .int y_begin, .int y_token, .long y_word, .int y_told, .int y_wrong, y_supper, y_guestName, y_kind, y_offTold, y_pace, y_cooks, y_snow, y_lineFrom, y_lineTo, y_codes, .int y_code, .int y_toldLines, y_opened, y_compared, y_kept, y_keptBy, y_ahead, y_against, y_sum, y_sumBy, y_term, y_termBy, y_byNot, y_valueOf, .int y_given, y_lines, y_lineWhat, y_lineA, y_lineB, .ref b_seens, .ref b_seenIn, .ref b_seenYards, .ref b_seenNear, y_s, y_aside, y_before, y_marked, y_undone, y_isLaid, .int y_done, .int y_snowNow, .int y_cameNow, .int y_cookThen, .int y_tasteThen, y_places, y_comesAt, y_yardsIn, .long y_g]), (b_seens, kI k 5 c_seens), (b_seenIn, kI k 40 (upd c_seenIn (Int32.toNatClampNeg 0) q1)), (b_seenYards, kI k 40 (upd c_seenYards (Int32.toNatClampNeg 0) q2)), (b_seenNear, kZ k 40 (upd c_seenNear (Int32.toNatClampNeg 0) (vp_nar .boolean q3)))] H := hP
      have hD : va_D A [(y, kO 9 [.int 0, .int y_taped, y_tape, .int y_size, .int y_place, .int y_begin, .int y_token, .long y_word, .int y_told, .int y_wrong, y_supper, y_guestName, y_kind, y_offTold, y_pace, y_cooks, y_snow, y_lineFrom, y_lineTo, y_codes, .int y_code, .int y_toldLines, y_opened, y_compared, y_kept, y_keptBy, y_ahead, y_against, y_sum, y_sumBy, y_term, y_termBy, y_byNot, y_valueOf, .int y_given, y_lines, y_lineWhat, y_lineA, y_lineB, .ref b_seens, .ref b_seenIn, .ref b_seenYards, .ref b_seenNear, y_s, y_aside, y_before, y_marked, y_undone, y_isLaid, .int y_done, .int y_snowNow, .int y_cameNow, .int y_cookThen, .int y_tasteThen, y_places, y_comesAt, y_yardsIn, .long y_g]), (b_seens, kI k 5 c_seens), (b_seenIn, kI k 40 (upd c_seenIn (Int32.toNatClampNeg 0) q1)), (b_seenYards, kI k 40 (upd c_seenYards (Int32.toNatClampNeg 0) q2)), (b_seenNear, kZ k 40 (upd c_seenNear (Int32.toNatClampNeg 0) (vp_nar .boolean q3)))] := hD
      refine lv_aload_n hx hb dX9_see_75 rfl (lv_at hl 0 rfl) ?_
      refine va_get (D := D) (ci := 9) (v := .ref b_seens) (C := RX9) (T := TX9) (N := 58) hx hb hts hi9 hown hK hP 0 rfl rfl 39 (by decide) lf93 (fun _ h9 => h9) rfl dX9_see_76 ?_
      refine lv_iconst (v := 0) hx hb dX9_see_79 (by decide) ?_
      refine lv_dup2_11 hx hb dX9_see_80 rfl rfl ?_
      refine va_iald hx hb hK hP 1 0 rfl rfl (vp_in_iff.mpr (by decide)) dX9_see_81 ?_
      refine lv_topi (fun x10 ex10 => ?_)
      obtain rfl : x10 = 0 := ex10.trans (show _ = _ from he0)
      refine lv_iconst (v := 1) hx hb dX9_see_82 (by decide) ?_
      refine lv_iadd hx hb dX9_see_83 ?_
      refine lv_topi (fun x11 ex11 => ?_)
      obtain rfl : x11 = 1 := ex11.trans (by decide)
      refine va_iast hx hb hK hP hD hS 1 0 rfl rfl (vp_in_iff.mpr (by decide)) dX9_see_84 (fun H locs hP hD hS => ?_)
      have hP : va_P D vwCl [(y, kO 9 [.int 0, .int y_taped, y_tape, .int y_size, .int y_place, .int y_begin, .int y_token, .long y_word, .int y_told, .int y_wrong, y_supper, y_guestName, y_kind, y_offTold, y_pace, y_cooks, y_snow, y_lineFrom, y_lineTo, y_codes, .int y_code, .int y_toldLines, y_opened, y_compared, y_kept, y_keptBy, y_ahead, y_against, y_sum, y_sumBy, y_term, y_termBy, y_byNot, y_valueOf, .int y_given, y_lines, y_lineWhat, y_lineA, y_lineB, .ref b_seens, .ref b_seenIn, .ref b_seenYards, .ref b_seenNear, y_s, y_aside, y_before, y_marked, y_undone, y_isLaid, .int y_done, .int y_snowNow, .int y_cameNow, .int y_cookThen, .int y_tasteThen, y_places, y_comesAt, y_yardsIn, .long y_g]), (b_seens, kI k 5 (upd c_seens (Int32.toNatClampNeg 0) 1)), (b_seenIn, kI k 40 (upd c_seenIn (Int32.toNatClampNeg 0) q1)), (b_seenYards, kI k 40 (upd c_seenYards (Int32.toNatClampNeg 0) q2)), (b_seenNear, kZ k 40 (upd c_seenNear (Int32.toNatClampNeg 0) (vp_nar .boolean q3)))] H := hP
      have hD : va_D A [(y, kO 9 [.int 0, .int y_taped, y_tape, .int y_size, .int y_place, .int y_begin, .int y_token, .long y_word, .int y_told, .int y_wrong, y_supper, y_guestName, y_kind, y_offTold, y_pace, y_cooks, y_snow, y_lineFrom, y_lineTo, y_codes, .int y_code, .int y_toldLines, y_opened, y_compared, y_kept, y_keptBy, y_ahead, y_against, y_sum, y_sumBy, y_term, y_termBy, y_byNot, y_valueOf, .int y_given, y_lines, y_lineWhat, y_lineA, y_lineB, .ref b_seens, .ref b_seenIn, .ref b_seenYards, .ref b_seenNear, y_s, y_aside, y_before, y_marked, y_undone, y_isLaid, .int y_done, .int y_snowNow, .int y_cameNow, .int y_cookThen, .int y_tasteThen, y_places, y_comesAt, y_yardsIn, .long y_g]), (b_seens, kI k 5 (upd c_seens (Int32.toNatClampNeg 0) 1)), (b_seenIn, kI k 40 (upd c_seenIn (Int32.toNatClampNeg 0) q1)), (b_seenYards, kI k 40 (upd c_seenYards (Int32.toNatClampNeg 0) q2)), (b_seenNear, kZ k 40 (upd c_seenNear (Int32.toNatClampNeg 0) (vp_nar .boolean q3)))] := hD
      refine lv_iconst (v := 1) hx hb dX9_see_85 (by decide) ?_
      rw [hQ]
      have hP9 := hP.sub (ws' := []) [] rfl
      have hD9 := hD.sub (ws' := []) [] (by decide) rfl
      exact W.zret (v := 1) hx hb hr rfl (fun zt ht hW => ⟨⟨1, (), rfl, (by unfold aS; rw [if_pos (bz_1 c_2), if_pos (bz_1 c_4)]), by rw [ht]; exact hP9, hD9⟩, hS.F ht⟩) hS.2.2 dX9_see_86
theorem dX9_laysYards_0 : decode cX9_laysYards 0 = .ok (.aload_n 0, 1) := by decide +kernel
theorem dX9_laysYards_1 : decode cX9_laysYards 1 = .ok (.getfield 105, 3) := by decide +kernel
theorem dX9_laysYards_4 : decode cX9_laysYards 4 = .ok (.iconst 0, 1) := by decide +kernel
theorem dX9_laysYards_5 : decode cX9_laysYards 5 = .ok (.aload_n 0, 1) := by decide +kernel
theorem dX9_laysYards_6 : decode cX9_laysYards 6 = .ok (.getfield 111, 3) := by decide +kernel
theorem dX9_laysYards_9 : decode cX9_laysYards 9 = .ok (.iconst 0, 1) := by decide +kernel
theorem dX9_laysYards_10 : decode cX9_laysYards 10 = .ok (.invokestatic 384, 3) := by decide +kernel
theorem dX9_laysYards_13 : decode cX9_laysYards 13 = .ok (.iconst 0, 1) := by decide +kernel
theorem dX9_laysYards_14 : decode cX9_laysYards 14 = .ok (.istore_n 1, 1) := by decide +kernel
theorem dX9_laysYards_15 : decode cX9_laysYards 15 = .ok (.iload_n 1, 1) := by decide +kernel
theorem dX9_laysYards_16 : decode cX9_laysYards 16 = .ok (.bipush 60, 2) := by decide +kernel
theorem dX9_laysYards_18 : decode cX9_laysYards 18 = .ok (.if_icmp .gt 51, 3) := by decide +kernel
theorem dX9_laysYards_21 : decode cX9_laysYards 21 = .ok (.iconst 0, 1) := by decide +kernel
theorem dX9_laysYards_22 : decode cX9_laysYards 22 = .ok (.istore_n 2, 1) := by decide +kernel
theorem dX9_laysYards_23 : decode cX9_laysYards 23 = .ok (.iload_n 2, 1) := by decide +kernel
theorem dX9_laysYards_24 : decode cX9_laysYards 24 = .ok (.aload_n 0, 1) := by decide +kernel
theorem dX9_laysYards_25 : decode cX9_laysYards 25 = .ok (.getfield 13, 3) := by decide +kernel
theorem dX9_laysYards_28 : decode cX9_laysYards 28 = .ok (.iconst 0, 1) := by decide +kernel
theorem dX9_laysYards_29 : decode cX9_laysYards 29 = .ok (.iaload, 1) := by decide +kernel
theorem dX9_laysYards_30 : decode cX9_laysYards 30 = .ok (.if_icmp .ge 28, 3) := by decide +kernel
theorem dX9_laysYards_58 : decode cX9_laysYards 58 = .ok (.aload_n 0, 1) := by decide +kernel
theorem dX9_laysYards_59 : decode cX9_laysYards 59 = .ok (.invokevirtual 403, 3) := by decide +kernel
theorem dX9_laysYards_62 : decode cX9_laysYards 62 = .ok (.pop, 1) := by decide +kernel
theorem dX9_laysYards_63 : decode cX9_laysYards 63 = .ok (.iinc 1 1, 3) := by decide +kernel
theorem dX9_laysYards_66 : decode cX9_laysYards 66 = .ok (.goto (-51), 3) := by decide +kernel
theorem dX9_laysYards_69 : decode cX9_laysYards 69 = .ok (.aload_n 0, 1) := by decide +kernel
theorem dX9_laysYards_70 : decode cX9_laysYards 70 = .ok (.getfield 111, 3) := by decide +kernel
theorem dX9_laysYards_73 : decode cX9_laysYards 73 = .ok (.iconst 0, 1) := by decide +kernel
theorem dX9_laysYards_74 : decode cX9_laysYards 74 = .ok (.aload_n 0, 1) := by decide +kernel
theorem dX9_laysYards_75 : decode cX9_laysYards 75 = .ok (.getfield 105, 3) := by decide +kernel
theorem dX9_laysYards_78 : decode cX9_laysYards 78 = .ok (.iconst 0, 1) := by decide +kernel
theorem dX9_laysYards_79 : decode cX9_laysYards 79 = .ok (.invokestatic 384, 3) := by decide +kernel
theorem dX9_laysYards_82 : decode cX9_laysYards 82 = .ok (.return_, 1) := by decide +kernel
set_option maxRecDepth 20000 in
theorem ggX9_laysYards_X9_copies : GoodIn wsX9_laysYards wsX9_copies := goodIn_r _ [8] rfl (by decide +kernel)
set_option maxRecDepth 20000 in
theorem gX9_laysYards_X9_copies : GoodIn wsX9_laysYards (va_wsS RX9 384 yX9_copies wsX9_copies) := goodIn_app (goodIn_of _ (by decide +kernel)) ggX9_laysYards_X9_copies
set_option maxRecDepth 20000 in
theorem ggX9_laysYards_X9_passes : GoodIn wsX9_laysYards wsX9_passes := goodIn_r _ [12, 3, 13, 1, 14, 15, 16, 7, 17, 18, 19, 20, 21, 22, 23, 24, 25, 26, 27, 28, 29, 30, 31, 32, 33, 34, 35, 36, 37, 38, 39, 40, 41, 42, 43, 44, 45, 46, 47, 48, 49, 50, 51, 52, 53, 54, 55, 56, 57, 58, 59, 60, 61, 62, 63, 64, 65, 66, 67, 68, 69, 70, 71, 72, 73, 74, 75, 76, 77, 78, 79, 80, 81, 82, 83, 84, 85, 86, 87, 88, 89, 90, 91, 92, 93, 94, 95, 96, 97, 98, 99, 100, 101, 102, 103, 104, 105, 106, 107, 108, 109, 110, 111, 112, 113, 114, 115, 116, 117, 118, 119, 120, 121, 122, 123, 124, 125, 126, 127, 128, 129, 130, 131, 132, 133, 134, 135, 136, 137, 138, 139, 140, 141, 142, 143, 144, 145, 146, 147, 148, 149, 150, 151, 152, 153, 154, 155, 156, 157, 158, 159] rfl (by decide +kernel)
set_option maxRecDepth 20000 in
theorem gX9_laysYards_X9_passes : GoodIn wsX9_laysYards (wsV RX9 403 RX9 yX9_passes wsX9_passes) := goodIn_app (goodIn_of _ (by decide +kernel)) ggX9_laysYards_X9_passes
set_option maxHeartbeats 4000000 in
set_option maxRecDepth 100000 in
theorem mX9_laysYards (l : Launch) (D : va_G) (k : Nat → ClassId) (sz : Nat) (y : Nat) (y_thrown : Int32) (y_taped : Int32) (y_tape : Value) (y_size : Int32) (y_place : Int32) (y_begin : Int32) (y_token : Int32) (y_word : Int64) (y_told : Int32) (y_wrong : Int32) (b_supper : Nat) (y_guestName : Value) (y_kind : Value) (y_offTold : Value) (y_pace : Value) (y_cooks : Value) (y_snow : Value) (y_lineFrom : Value) (y_lineTo : Value) (y_codes : Value) (y_code : Int32) (y_toldLines : Int32) (y_opened : Value) (y_compared : Value) (y_kept : Value) (y_keptBy : Value) (y_ahead : Value) (y_against : Value) (y_sum : Value) (y_sumBy : Value) (y_term : Value) (y_termBy : Value) (y_byNot : Value) (y_valueOf : Value) (y_given : Int32) (y_lines : Value) (y_lineWhat : Value) (y_lineA : Value) (y_lineB : Value) (y_seens : Value) (y_seenIn : Value) (y_seenYards : Value) (y_seenNear : Value) (b_s : Nat) (y_aside : Value) (b_before : Nat) (y_marked : Value) (y_undone : Value) (y_isLaid : Value) (y_done : Int32) (y_snowNow : Int32) (y_cameNow : Int32) (y_cookThen : Int32) (y_tasteThen : Int32) (y_places : Value) (y_comesAt : Value) (y_yardsIn : Value) (y_g : Int64) (c_supper : Nat → Int32) (c_s : Nat → Int32) (c_before : Nat → Int32) (hs0 : c_supper 0 = 0) : Met l yX9_laysYards wsX9_laysYards ({ frames := 2, cells := 0, slots := 0, locals := 140 }) (va_Pc [.ref y] (kz_Pre D k [(y, kO 9 [.int y_thrown, .int y_taped, y_tape, .int y_size, .int y_place, .int y_begin, .int y_token, .long y_word, .int y_told, .int y_wrong, .ref b_supper, y_guestName, y_kind, y_offTold, y_pace, y_cooks, y_snow, y_lineFrom, y_lineTo, y_codes, .int y_code, .int y_toldLines, y_opened, y_compared, y_kept, y_keptBy, y_ahead, y_against, y_sum, y_sumBy, y_term, y_termBy, y_byNot, y_valueOf, .int y_given, y_lines, y_lineWhat, y_lineA, y_lineB, y_seens, y_seenIn, y_seenYards, y_seenNear, .ref b_s, y_aside, .ref b_before, y_marked, y_undone, y_isLaid, .int y_done, .int y_snowNow, .int y_cameNow, .int y_cookThen, .int y_tasteThen, y_places, y_comesAt, y_yardsIn, .long y_g]), (b_supper, kI k 8 c_supper), (b_s, kI k 46 c_s), (b_before, kI k 46 c_before)] sz)) (va_Qv (fun (uu : Int32) => True) (fun uu zt => kz_B D (va_A [(y, kO 9 [.int y_thrown, .int y_taped, y_tape, .int y_size, .int y_place, .int y_begin, .int y_token, .long y_word, .int y_told, .int y_wrong, .ref b_supper, y_guestName, y_kind, y_offTold, y_pace, y_cooks, y_snow, y_lineFrom, y_lineTo, y_codes, .int y_code, .int y_toldLines, y_opened, y_compared, y_kept, y_keptBy, y_ahead, y_against, y_sum, y_sumBy, y_term, y_termBy, y_byNot, y_valueOf, .int y_given, y_lines, y_lineWhat, y_lineA, y_lineB, y_seens, y_seenIn, y_seenYards, y_seenNear, .ref b_s, y_aside, .ref b_before, y_marked, y_undone, y_isLaid, .int y_done, .int y_snowNow, .int y_cameNow, .int y_cookThen, .int y_tasteThen, y_places, y_comesAt, y_yardsIn, .long y_g]), (b_supper, kI k 8 c_supper), (b_s, kI k 46 c_s), (b_before, kI k 46 c_before)] sz) [(y, kO 9 [.int y_thrown, .int y_taped, y_tape, .int y_size, .int y_place, .int y_begin, .int y_token, .long y_word, .int y_told, .int y_wrong, .ref b_supper, y_guestName, y_kind, y_offTold, y_pace, y_cooks, y_snow, y_lineFrom, y_lineTo, y_codes, .int y_code, .int y_toldLines, y_opened, y_compared, y_kept, y_keptBy, y_ahead, y_against, y_sum, y_sumBy, y_term, y_termBy, y_byNot, y_valueOf, .int y_given, y_lines, y_lineWhat, y_lineA, y_lineB, y_seens, y_seenIn, y_seenYards, y_seenNear, .ref b_s, y_aside, .ref b_before, y_marked, y_undone, y_isLaid, .int y_done, .int y_snowNow, .int uu, .int y_cookThen, .int y_tasteThen, y_places, y_comesAt, y_yardsIn, .long y_g]), (b_supper, kI k 8 c_supper)] zt) (va_A [(y, kO 9 [.int y_thrown, .int y_taped, y_tape, .int y_size, .int y_place, .int y_begin, .int y_token, .long y_word, .int y_told, .int y_wrong, .ref b_supper, y_guestName, y_kind, y_offTold, y_pace, y_cooks, y_snow, y_lineFrom, y_lineTo, y_codes, .int y_code, .int y_toldLines, y_opened, y_compared, y_kept, y_keptBy, y_ahead, y_against, y_sum, y_sumBy, y_term, y_termBy, y_byNot, y_valueOf, .int y_given, y_lines, y_lineWhat, y_lineA, y_lineB, y_seens, y_seenIn, y_seenYards, y_seenNear, .ref b_s, y_aside, .ref b_before, y_marked, y_undone, y_isLaid, .int y_done, .int y_snowNow, .int y_cameNow, .int y_cookThen, .int y_tasteThen, y_places, y_comesAt, y_yardsIn, .long y_g]), (b_supper, kI k 8 c_supper), (b_s, kI k 46 c_s), (b_before, kI k 46 c_before)] sz)) 0 0 (va_A [(y, kO 9 [.int y_thrown, .int y_taped, y_tape, .int y_size, .int y_place, .int y_begin, .int y_token, .long y_word, .int y_told, .int y_wrong, .ref b_supper, y_guestName, y_kind, y_offTold, y_pace, y_cooks, y_snow, y_lineFrom, y_lineTo, y_codes, .int y_code, .int y_toldLines, y_opened, y_compared, y_kept, y_keptBy, y_ahead, y_against, y_sum, y_sumBy, y_term, y_termBy, y_byNot, y_valueOf, .int y_given, y_lines, y_lineWhat, y_lineA, y_lineB, y_seens, y_seenIn, y_seenYards, y_seenNear, .ref b_s, y_aside, .ref b_before, y_marked, y_undone, y_isLaid, .int y_done, .int y_snowNow, .int y_cameNow, .int y_cookThen, .int y_tasteThen, y_places, y_comesAt, y_yardsIn, .long y_g]), (b_supper, kI k 8 c_supper), (b_s, kI k 46 c_s), (b_before, kI k 46 c_before)] sz) := by
  refine Met.ofW (cc := cX9_laysYards) (maxL := 3) (ret := none) (by decide) rfl ?_
  intro p e s m args below meth c s₁ B hml hv
  obtain ⟨hav, hsz, hP, hK, hD0, hE⟩ := hv
  have hx := B.exec
  have hb := B.bytes
  have hr := B.returns
  have hts := atoms_spec (ws := wsX9_laysYards) B.pre
  have hown : s.vm.findClass RX9 = some m.cls := findClass_of_methodNamed B.named
  have hlocks := B.notSynchronized
  have hi9 : ∀ w ∈ u_ws RX9 TX9 58, w ∈ wsX9_laysYards := by decide +kernel
  have lf105 := hts (.fieldLink RX9 105 "LastCookModel" "s" "[I") (by decide +kernel)
  have lf111 := hts (.fieldLink RX9 111 "LastCookModel" "before" "[I") (by decide +kernel)
  have lf13 := hts (.fieldLink RX9 13 "LastCookModel" "supper" "[I") (by decide +kernel)
  subst hsz
  have hD := hD0.self (sz := s.heap.size)
  generalize hAe : va_A [(y, kO 9 [.int y_thrown, .int y_taped, y_tape, .int y_size, .int y_place, .int y_begin, .int y_token, .long y_word, .int y_told, .int y_wrong, .ref b_supper, y_guestName, y_kind, y_offTold, y_pace, y_cooks, y_snow, y_lineFrom, y_lineTo, y_codes, .int y_code, .int y_toldLines, y_opened, y_compared, y_kept, y_keptBy, y_ahead, y_against, y_sum, y_sumBy, y_term, y_termBy, y_byNot, y_valueOf, .int y_given, y_lines, y_lineWhat, y_lineA, y_lineB, y_seens, y_seenIn, y_seenYards, y_seenNear, .ref b_s, y_aside, .ref b_before, y_marked, y_undone, y_isLaid, .int y_done, .int y_snowNow, .int y_cameNow, .int y_cookThen, .int y_tasteThen, y_places, y_comesAt, y_yardsIn, .long y_g]), (b_supper, kI k 8 c_supper), (b_s, kI k 46 c_s), (b_before, kI k 46 c_before)] s.heap.size = A at hD ⊢
  have hA : ∀ q : Nat, s.heap.size ≤ q → A q := fun q h => by rw [← hAe]; exact Or.inr h
  have hS : va_S A s.heap s.heap [] := va_S.rf
  have hl := lv_entry ([.ref y]) (n := 3) (Nat.le_of_ble_eq_true rfl)
  rw [show entryFrame m args 3 = entryFrame m ([.ref y] : List Value).toArray 3 by rw [hav], lg_entry_eq]
  generalize (lg_sl ([.ref y]) ++ List.replicate (3 - (lg_sl ([.ref y])).length) Slot.unset).toArray = ls at hl ⊢
  have hl : lv_has ls 3 [(0, .ref y)] := hl
  obtain ⟨R, hR⟩ : ∃ R, R = (headSpec wsX9_laysYards ({ frames := 2, cells := 0, slots := 0, locals := 140 } : Room)).room := ⟨_, rfl⟩
  rw [← hR]
  generalize hQ : MQ below _ args s 0 0 A = Q
  replace hQ := hQ.symm
  obtain ⟨H, hH⟩ : ∃ H, H = s.heap := ⟨_, rfl⟩
  rw [← hH] at hP ⊢
  have hS : va_S A s.heap H [] := by rw [hH]; exact hS
  refine lv_aload_n hx hb dX9_laysYards_0 rfl (lv_at hl 0 rfl) ?_
  refine va_get (D := D) (ci := 9) (v := .ref b_s) (C := RX9) (T := TX9) (N := 58) hx hb hts hi9 hown hK hP 0 rfl rfl 43 (by decide) lf105 (fun _ h9 => h9) rfl dX9_laysYards_1 ?_
  refine lv_iconst (v := 0) hx hb dX9_laysYards_4 (by decide) ?_
  refine lv_aload_n hx hb dX9_laysYards_5 rfl (lv_at hl 0 rfl) ?_
  refine va_get (D := D) (ci := 9) (v := .ref b_before) (C := RX9) (T := TX9) (N := 58) hx hb hts hi9 hown hK hP 0 rfl rfl 45 (by decide) lf111 (fun _ h9 => h9) rfl dX9_laysYards_6 ?_
  refine lv_iconst (v := 0) hx hb dX9_laysYards_9 (by decide) ?_
  refine kz_Sv (As := [.ref b_s, .int 0, .ref b_before, .int 0]) (rest := []) (wc := [(b_s, kI k 46 c_s), (b_before, kI k 46 c_before)]) (wr := [(y, kO 9 [.int y_thrown, .int y_taped, y_tape, .int y_size, .int y_place, .int y_begin, .int y_token, .long y_word, .int y_told, .int y_wrong, .ref b_supper, y_guestName, y_kind, y_offTold, y_pace, y_cooks, y_snow, y_lineFrom, y_lineTo, y_codes, .int y_code, .int y_toldLines, y_opened, y_compared, y_kept, y_keptBy, y_ahead, y_against, y_sum, y_sumBy, y_term, y_termBy, y_byNot, y_valueOf, .int y_given, y_lines, y_lineWhat, y_lineA, y_lineB, y_seens, y_seenIn, y_seenYards, y_seenNear, .ref b_s, y_aside, .ref b_before, y_marked, y_undone, y_isLaid, .int y_done, .int y_snowNow, .int y_cameNow, .int y_cookThen, .int y_tasteThen, y_places, y_comesAt, y_yardsIn, .long y_g]), (b_supper, kI k 8 c_supper)]) ⟨hx, hb, hml, hown, hts⟩ hK hE hP hD hS hA (mX9_copies l D k H.size b_s b_before 46 46 0 0 c_s c_before (by first | decide | omega) (by first | decide | omega) (by first | decide | omega) (by first | decide | omega)) (va_cwS 4 hts gX9_laysYards_X9_copies rfl rfl rfl (by decide +kernel) (by rw [hR]; exact ⟨Nat.le_of_ble_eq_true rfl, Nat.le_of_ble_eq_true rfl⟩)) [2, 3] [0, 1] rfl rfl (by decide) (by decide) (by decide) rfl hl.1 rfl (Nat.le_of_ble_eq_true rfl) dX9_laysYards_10 (by rw [hR]; exact ⟨Nat.le_of_ble_eq_true rfl, Nat.le_of_ble_eq_true rfl⟩) (fun u1 H locs hw1 hP hD hS => ?_)
  have hP : va_P D vwCl [(y, kO 9 [.int y_thrown, .int y_taped, y_tape, .int y_size, .int y_place, .int y_begin, .int y_token, .long y_word, .int y_told, .int y_wrong, .ref b_supper, y_guestName, y_kind, y_offTold, y_pace, y_cooks, y_snow, y_lineFrom, y_lineTo, y_codes, .int y_code, .int y_toldLines, y_opened, y_compared, y_kept, y_keptBy, y_ahead, y_against, y_sum, y_sumBy, y_term, y_termBy, y_byNot, y_valueOf, .int y_given, y_lines, y_lineWhat, y_lineA, y_lineB, y_seens, y_seenIn, y_seenYards, y_seenNear, .ref b_s, y_aside, .ref b_before, y_marked, y_undone, y_isLaid, .int y_done, .int y_snowNow, .int y_cameNow, .int y_cookThen, .int y_tasteThen, y_places, y_comesAt, y_yardsIn, .long y_g]), (b_supper, kI k 8 c_supper), (b_s, kI k 46 c_s), (b_before, kI k 46 (va_cpy c_s c_before 0 0 46))] H := hP
  have hD : va_D A [(y, kO 9 [.int y_thrown, .int y_taped, y_tape, .int y_size, .int y_place, .int y_begin, .int y_token, .long y_word, .int y_told, .int y_wrong, .ref b_supper, y_guestName, y_kind, y_offTold, y_pace, y_cooks, y_snow, y_lineFrom, y_lineTo, y_codes, .int y_code, .int y_toldLines, y_opened, y_compared, y_kept, y_keptBy, y_ahead, y_against, y_sum, y_sumBy, y_term, y_termBy, y_byNot, y_valueOf, .int y_given, y_lines, y_lineWhat, y_lineA, y_lineB, y_seens, y_seenIn, y_seenYards, y_seenNear, .ref b_s, y_aside, .ref b_before, y_marked, y_undone, y_isLaid, .int y_done, .int y_snowNow, .int y_cameNow, .int y_cookThen, .int y_tasteThen, y_places, y_comesAt, y_yardsIn, .long y_g]), (b_supper, kI k 8 c_supper), (b_s, kI k 46 c_s), (b_before, kI k 46 (va_cpy c_s c_before 0 0 46))] := hD
  refine lv_iconst (v := 0) hx hb dX9_laysYards_13 (by decide) ?_
  refine lv_istore_n (lv' := [(1, .int 0), (0, .ref y)]) hx hb dX9_laysYards_14 rfl hl (by decide) rfl (fun ls hl => ?_)
  have hloop15 : ∀ (n : Nat) (j : Nat) (w9 : Int32) (s9 : Nat → Int32), 61 - j < n → (j ≤ 61) → ∀ (H : Heap) (locs : List Loc) (ls : Array Slot), va_P D vwCl [(y, kO 9 [.int y_thrown, .int y_taped, y_tape, .int y_size, .int y_place, .int y_begin, .int y_token, .long y_word, .int y_told, .int y_wrong, .ref b_supper, y_guestName, y_kind, y_offTold, y_pace, y_cooks, y_snow, y_lineFrom, y_lineTo, y_codes, .int y_code, .int y_toldLines, y_opened, y_compared, y_kept, y_keptBy, y_ahead, y_against, y_sum, y_sumBy, y_term, y_termBy, y_byNot, y_valueOf, .int y_given, y_lines, y_lineWhat, y_lineA, y_lineB, y_seens, y_seenIn, y_seenYards, y_seenNear, .ref b_s, y_aside, .ref b_before, y_marked, y_undone, y_isLaid, .int y_done, .int y_snowNow, .int w9, .int y_cookThen, .int y_tasteThen, y_places, y_comesAt, y_yardsIn, .long y_g]), (b_supper, kI k 8 c_supper), (b_s, kI k 46 s9), (b_before, kI k 46 (va_cpy c_s c_before 0 0 46))] H → va_D A [(y, kO 9 [.int y_thrown, .int y_taped, y_tape, .int y_size, .int y_place, .int y_begin, .int y_token, .long y_word, .int y_told, .int y_wrong, .ref b_supper, y_guestName, y_kind, y_offTold, y_pace, y_cooks, y_snow, y_lineFrom, y_lineTo, y_codes, .int y_code, .int y_toldLines, y_opened, y_compared, y_kept, y_keptBy, y_ahead, y_against, y_sum, y_sumBy, y_term, y_termBy, y_byNot, y_valueOf, .int y_given, y_lines, y_lineWhat, y_lineA, y_lineB, y_seens, y_seenIn, y_seenYards, y_seenNear, .ref b_s, y_aside, .ref b_before, y_marked, y_undone, y_isLaid, .int y_done, .int y_snowNow, .int w9, .int y_cookThen, .int y_tasteThen, y_places, y_comesAt, y_yardsIn, .long y_g]), (b_supper, kI k 8 c_supper), (b_s, kI k 46 s9), (b_before, kI k 46 (va_cpy c_s c_before 0 0 46))] → va_S A s.heap H locs → lv_has ls 3 [(1, .int (nI j)), (0, .ref y)] → W p l e R s m args below meth c H locs 0 0 Q (F0 m 15 ls []) := by
    intro n15
    induction n15 with
    | zero => intro j w9 s9 hm; exact absurd hm (Nat.not_lt_zero _)
    | succ n15 ih15 =>
      intro j w9 s9 hm15 hj H locs ls hP hD hS hl
      refine lv_iload_n hx hb dX9_laysYards_15 rfl (lv_at hl 0 rfl) ?_
      refine lv_bipush (v := 60) hx hb dX9_laysYards_16 (by decide) ?_
      refine lv_icmp_gt (tgt := 69) hx hb dX9_laysYards_18 (by decide) (fun c_2 => ?_) (fun c_2 => ?_)
      · skip
        have k_2 : 60 < j := (nI_ltI (a := 60) (b := j) (by omega) (by omega)).mp c_2
        refine lv_aload_n hx hb dX9_laysYards_69 rfl (lv_at hl 1 rfl) ?_
        refine va_get (D := D) (ci := 9) (v := .ref b_before) (C := RX9) (T := TX9) (N := 58) hx hb hts hi9 hown hK hP 0 rfl rfl 45 (by decide) lf111 (fun _ h9 => h9) rfl dX9_laysYards_70 ?_
        refine lv_iconst (v := 0) hx hb dX9_laysYards_73 (by decide) ?_
        refine lv_aload_n hx hb dX9_laysYards_74 rfl (lv_at hl 1 rfl) ?_
        refine va_get (D := D) (ci := 9) (v := .ref b_s) (C := RX9) (T := TX9) (N := 58) hx hb hts hi9 hown hK hP 0 rfl rfl 43 (by decide) lf105 (fun _ h9 => h9) rfl dX9_laysYards_75 ?_
        refine lv_iconst (v := 0) hx hb dX9_laysYards_78 (by decide) ?_
        refine kz_Sv (As := [.ref b_before, .int 0, .ref b_s, .int 0]) (rest := []) (wc := [(b_before, kI k 46 (va_cpy c_s c_before 0 0 46)), (b_s, kI k 46 s9)]) (wr := [(y, kO 9 [.int y_thrown, .int y_taped, y_tape, .int y_size, .int y_place, .int y_begin, .int y_token, .long y_word, .int y_told, .int y_wrong, .ref b_supper, y_guestName, y_kind, y_offTold, y_pace, y_cooks, y_snow, y_lineFrom, y_lineTo, y_codes, .int y_code, .int y_toldLines, y_opened, y_compared, y_kept, y_keptBy, y_ahead, y_against, y_sum, y_sumBy, y_term, y_termBy, y_byNot, y_valueOf, .int y_given, y_lines, y_lineWhat, y_lineA, y_lineB, y_seens, y_seenIn, y_seenYards, y_seenNear, .ref b_s, y_aside, .ref b_before, y_marked, y_undone, y_isLaid, .int y_done, .int y_snowNow, .int w9, .int y_cookThen, .int y_tasteThen, y_places, y_comesAt, y_yardsIn, .long y_g]), (b_supper, kI k 8 c_supper)]) ⟨hx, hb, hml, hown, hts⟩ hK hE hP hD hS hA (mX9_copies l D k H.size b_before b_s 46 46 0 0 (va_cpy c_s c_before 0 0 46) s9 (by first | decide | omega) (by first | decide | omega) (by first | decide | omega) (by first | decide | omega)) (va_cwS 4 hts gX9_laysYards_X9_copies rfl rfl rfl (by decide +kernel) (by rw [hR]; exact ⟨Nat.le_of_ble_eq_true rfl, Nat.le_of_ble_eq_true rfl⟩)) [3, 2] [0, 1] rfl rfl (by decide) (by decide) (by decide) rfl hl.1 rfl (Nat.le_of_ble_eq_true rfl) dX9_laysYards_79 (by rw [hR]; exact ⟨Nat.le_of_ble_eq_true rfl, Nat.le_of_ble_eq_true rfl⟩) (fun u3 H locs hw3 hP hD hS => ?_)
        have hP : va_P D vwCl [(y, kO 9 [.int y_thrown, .int y_taped, y_tape, .int y_size, .int y_place, .int y_begin, .int y_token, .long y_word, .int y_told, .int y_wrong, .ref b_supper, y_guestName, y_kind, y_offTold, y_pace, y_cooks, y_snow, y_lineFrom, y_lineTo, y_codes, .int y_code, .int y_toldLines, y_opened, y_compared, y_kept, y_keptBy, y_ahead, y_against, y_sum, y_sumBy, y_term, y_termBy, y_byNot, y_valueOf, .int y_given, y_lines, y_lineWhat, y_lineA, y_lineB, y_seens, y_seenIn, y_seenYards, y_seenNear, .ref b_s, y_aside, .ref b_before, y_marked, y_undone, y_isLaid, .int y_done, .int y_snowNow, .int w9, .int y_cookThen, .int y_tasteThen, y_places, y_comesAt, y_yardsIn, .long y_g]), (b_supper, kI k 8 c_supper), (b_before, kI k 46 (va_cpy c_s c_before 0 0 46)), (b_s, kI k 46 (va_cpy (va_cpy c_s c_before 0 0 46) s9 0 0 46))] H := hP
        have hD : va_D A [(y, kO 9 [.int y_thrown, .int y_taped, y_tape, .int y_size, .int y_place, .int y_begin, .int y_token, .long y_word, .int y_told, .int y_wrong, .ref b_supper, y_guestName, y_kind, y_offTold, y_pace, y_cooks, y_snow, y_lineFrom, y_lineTo, y_codes, .int y_code, .int y_toldLines, y_opened, y_compared, y_kept, y_keptBy, y_ahead, y_against, y_sum, y_sumBy, y_term, y_termBy, y_byNot, y_valueOf, .int y_given, y_lines, y_lineWhat, y_lineA, y_lineB, y_seens, y_seenIn, y_seenYards, y_seenNear, .ref b_s, y_aside, .ref b_before, y_marked, y_undone, y_isLaid, .int y_done, .int y_snowNow, .int w9, .int y_cookThen, .int y_tasteThen, y_places, y_comesAt, y_yardsIn, .long y_g]), (b_supper, kI k 8 c_supper), (b_before, kI k 46 (va_cpy c_s c_before 0 0 46)), (b_s, kI k 46 (va_cpy (va_cpy c_s c_before 0 0 46) s9 0 0 46))] := hD
        rw [hQ]
        have hP9 := hP.sub (ws' := [(y, kO 9 [.int y_thrown, .int y_taped, y_tape, .int y_size, .int y_place, .int y_begin, .int y_token, .long y_word, .int y_told, .int y_wrong, .ref b_supper, y_guestName, y_kind, y_offTold, y_pace, y_cooks, y_snow, y_lineFrom, y_lineTo, y_codes, .int y_code, .int y_toldLines, y_opened, y_compared, y_kept, y_keptBy, y_ahead, y_against, y_sum, y_sumBy, y_term, y_termBy, y_byNot, y_valueOf, .int y_given, y_lines, y_lineWhat, y_lineA, y_lineB, y_seens, y_seenIn, y_seenYards, y_seenNear, .ref b_s, y_aside, .ref b_before, y_marked, y_undone, y_isLaid, .int y_done, .int y_snowNow, .int w9, .int y_cookThen, .int y_tasteThen, y_places, y_comesAt, y_yardsIn, .long y_g]), (b_supper, kI k 8 c_supper)]) [0, 1] rfl
        have hD9 := hD.sub (ws' := [(y, kO 9 [.int y_thrown, .int y_taped, y_tape, .int y_size, .int y_place, .int y_begin, .int y_token, .long y_word, .int y_told, .int y_wrong, .ref b_supper, y_guestName, y_kind, y_offTold, y_pace, y_cooks, y_snow, y_lineFrom, y_lineTo, y_codes, .int y_code, .int y_toldLines, y_opened, y_compared, y_kept, y_keptBy, y_ahead, y_against, y_sum, y_sumBy, y_term, y_termBy, y_byNot, y_valueOf, .int y_given, y_lines, y_lineWhat, y_lineA, y_lineB, y_seens, y_seenIn, y_seenYards, y_seenNear, .ref b_s, y_aside, .ref b_before, y_marked, y_undone, y_isLaid, .int y_done, .int y_snowNow, .int w9, .int y_cookThen, .int y_tasteThen, y_places, y_comesAt, y_yardsIn, .long y_g]), (b_supper, kI k 8 c_supper)]) [0, 1] (by decide) rfl
        exact W.vret hx hb hr (fun zt ht hW => ⟨⟨w9, rfl, trivial, by rw [ht]; exact hP9, hD9⟩, hS.F ht⟩) hS.2.2 dX9_laysYards_82
      · skip
        have k_2 : ¬ (60 < j) := fun h => c_2 ((nI_ltI (a := 60) (b := j) (by omega) (by omega)).mpr h)
        refine lv_iconst (v := 0) hx hb dX9_laysYards_21 (by decide) ?_
        refine lv_istore_n (lv' := [(2, .int 0), (1, .int (nI j)), (0, .ref y)]) hx hb dX9_laysYards_22 rfl hl (by decide) rfl (fun ls hl => ?_)
        refine lv_iload_n hx hb dX9_laysYards_23 rfl (lv_at hl 0 rfl) ?_
        refine lv_aload_n hx hb dX9_laysYards_24 rfl (lv_at hl 2 rfl) ?_
        refine va_get (D := D) (ci := 9) (v := .ref b_supper) (C := RX9) (T := TX9) (N := 58) hx hb hts hi9 hown hK hP 0 rfl rfl 10 (by decide) lf13 (fun _ h9 => h9) rfl dX9_laysYards_25 ?_
        refine lv_iconst (v := 0) hx hb dX9_laysYards_28 (by decide) ?_
        refine va_iald hx hb hK hP 1 0 rfl rfl (vp_in_iff.mpr (by decide)) dX9_laysYards_29 ?_
        refine lv_topi (fun x4 ex4 => ?_)
        obtain rfl : x4 = 0 := ex4.trans (show _ = _ from hs0)
        refine lv_icmp_ge (tgt := 58) hx hb dX9_laysYards_30 (by decide) (fun c_5 => ?_) (fun c_5 => absurd (by decide) c_5)
        refine lv_aload_n hx hb dX9_laysYards_58 rfl (lv_at hl 2 rfl) ?_
        refine kz_Vi (As := []) (rest := []) (wc := [(y, kO 9 [.int y_thrown, .int y_taped, y_tape, .int y_size, .int y_place, .int y_begin, .int y_token, .long y_word, .int y_told, .int y_wrong, .ref b_supper, y_guestName, y_kind, y_offTold, y_pace, y_cooks, y_snow, y_lineFrom, y_lineTo, y_codes, .int y_code, .int y_toldLines, y_opened, y_compared, y_kept, y_keptBy, y_ahead, y_against, y_sum, y_sumBy, y_term, y_termBy, y_byNot, y_valueOf, .int y_given, y_lines, y_lineWhat, y_lineA, y_lineB, y_seens, y_seenIn, y_seenYards, y_seenNear, .ref b_s, y_aside, .ref b_before, y_marked, y_undone, y_isLaid, .int y_done, .int y_snowNow, .int w9, .int y_cookThen, .int y_tasteThen, y_places, y_comesAt, y_yardsIn, .long y_g]), (b_supper, kI k 8 c_supper), (b_s, kI k 46 s9)]) (wr := [(b_before, kI k 46 (va_cpy c_s c_before 0 0 46))]) ⟨hx, hb, hml, hown, hts⟩ hK hE hP hD hS hA (mX9_passes l D k H.size y y_thrown y_taped y_tape y_size y_place y_begin y_token y_word y_told y_wrong b_supper y_guestName y_kind y_offTold y_pace y_cooks y_snow y_lineFrom y_lineTo y_codes y_code y_toldLines y_opened y_compared y_kept y_keptBy y_ahead y_against y_sum y_sumBy y_term y_termBy y_byNot y_valueOf y_given y_lines y_lineWhat y_lineA y_lineB y_seens y_seenIn y_seenYards y_seenNear b_s y_aside (.ref b_before) y_marked y_undone y_isLaid y_done y_snowNow w9 y_cookThen y_tasteThen y_places y_comesAt y_yardsIn y_g c_supper s9 hs0) (cwV 0 hts gX9_laysYards_X9_passes rfl rfl rfl (by decide +kernel) (by rw [hR]; exact ⟨Nat.le_of_ble_eq_true rfl, Nat.le_of_ble_eq_true rfl⟩)) [0, 1, 2] [3] rfl rfl (by decide) (by decide) (by decide) 0 rfl rfl rfl hl.1 rfl (Nat.le_of_ble_eq_true rfl) dX9_laysYards_59 (by rw [hR]; exact ⟨Nat.le_of_ble_eq_true rfl, Nat.le_of_ble_eq_true rfl⟩) (fun r6 u6 H locs hw6 hP hD hS => ?_)
        try dsimp only at hw6
        obtain rfl : r6 = (-1) := hw6
        have hP : va_P D vwCl [(b_before, kI k 46 (va_cpy c_s c_before 0 0 46)), (y, kO 9 [.int y_thrown, .int y_taped, y_tape, .int y_size, .int y_place, .int y_begin, .int y_token, .long y_word, .int y_told, .int y_wrong, .ref b_supper, y_guestName, y_kind, y_offTold, y_pace, y_cooks, y_snow, y_lineFrom, y_lineTo, y_codes, .int y_code, .int y_toldLines, y_opened, y_compared, y_kept, y_keptBy, y_ahead, y_against, y_sum, y_sumBy, y_term, y_termBy, y_byNot, y_valueOf, .int y_given, y_lines, y_lineWhat, y_lineA, y_lineB, y_seens, y_seenIn, y_seenYards, y_seenNear, .ref b_s, y_aside, .ref b_before, y_marked, y_undone, y_isLaid, .int y_done, .int y_snowNow, .int 0, .int y_cookThen, .int y_tasteThen, y_places, y_comesAt, y_yardsIn, .long y_g]), (b_supper, kI k 8 c_supper), (b_s, kI k 46 (upd s9 (Int32.toNatClampNeg 1) (s9 (Int32.toNatClampNeg 1) + 1)))] H := hP
        have hD : va_D A [(b_before, kI k 46 (va_cpy c_s c_before 0 0 46)), (y, kO 9 [.int y_thrown, .int y_taped, y_tape, .int y_size, .int y_place, .int y_begin, .int y_token, .long y_word, .int y_told, .int y_wrong, .ref b_supper, y_guestName, y_kind, y_offTold, y_pace, y_cooks, y_snow, y_lineFrom, y_lineTo, y_codes, .int y_code, .int y_toldLines, y_opened, y_compared, y_kept, y_keptBy, y_ahead, y_against, y_sum, y_sumBy, y_term, y_termBy, y_byNot, y_valueOf, .int y_given, y_lines, y_lineWhat, y_lineA, y_lineB, y_seens, y_seenIn, y_seenYards, y_seenNear, .ref b_s, y_aside, .ref b_before, y_marked, y_undone, y_isLaid, .int y_done, .int y_snowNow, .int 0, .int y_cookThen, .int y_tasteThen, y_places, y_comesAt, y_yardsIn, .long y_g]), (b_supper, kI k 8 c_supper), (b_s, kI k 46 (upd s9 (Int32.toNatClampNeg 1) (s9 (Int32.toNatClampNeg 1) + 1)))] := hD
        refine lv_pop hx hb dX9_laysYards_62 rfl ?_
        refine lv_iinc (v := (nI (j + 1))) (lv' := [(1, .int (nI (j + 1))), (2, .int 0), (0, .ref y)]) hx hb dX9_laysYards_63 hl (k := 1) rfl (nI_1 _) (by decide) rfl (fun ls hl => ?_)
        refine lv_goto (tgt := 15) hx hb dX9_laysYards_66 (by decide) ?_
        exact ih15 (j + 1) 0 (upd s9 (Int32.toNatClampNeg 1) (s9 (Int32.toNatClampNeg 1) + 1)) (by omega) (by omega) _ _ _ (hP.sub [1, 2, 3, 0] rfl) (hD.sub [1, 2, 3, 0] (by decide) rfl) hS (lv_sub hl [0, 2] rfl)
  exact hloop15 ((61 - 0) + 1) 0 y_cameNow c_s (Nat.lt_succ_self _) (by omega) _ _ _ (hP.sub [0, 1, 2, 3] rfl) (hD.sub [0, 1, 2, 3] (by decide) rfl) hS (lv_sub hl [0, 1] rfl)
theorem dX9_who_0 : decode cX9_who 0 = .ok (.aload_n 0, 1) := by decide +kernel
theorem dX9_who_1 : decode cX9_who 1 = .ok (.iconst 0, 1) := by decide +kernel
theorem dX9_who_2 : decode cX9_who 2 = .ok (.putfield 143, 3) := by decide +kernel
theorem dX9_who_5 : decode cX9_who 5 = .ok (.aload_n 0, 1) := by decide +kernel
theorem dX9_who_6 : decode cX9_who 6 = .ok (.invokevirtual 421, 3) := by decide +kernel
theorem dX9_who_9 : decode cX9_who 9 = .ok (.iconst 0, 1) := by decide +kernel
theorem dX9_who_10 : decode cX9_who 10 = .ok (.istore_n 1, 1) := by decide +kernel
theorem dX9_who_11 : decode cX9_who 11 = .ok (.iconst 0, 1) := by decide +kernel
theorem dX9_who_12 : decode cX9_who 12 = .ok (.istore_n 2, 1) := by decide +kernel
theorem dX9_who_13 : decode cX9_who 13 = .ok (.iload_n 2, 1) := by decide +kernel
theorem dX9_who_14 : decode cX9_who 14 = .ok (.aload_n 0, 1) := by decide +kernel
theorem dX9_who_15 : decode cX9_who 15 = .ok (.getfield 13, 3) := by decide +kernel
theorem dX9_who_18 : decode cX9_who 18 = .ok (.iconst 0, 1) := by decide +kernel
theorem dX9_who_19 : decode cX9_who 19 = .ok (.iaload, 1) := by decide +kernel
theorem dX9_who_20 : decode cX9_who 20 = .ok (.if_icmp .ge 35, 3) := by decide +kernel
theorem dX9_who_55 : decode cX9_who 55 = .ok (.iload_n 1, 1) := by decide +kernel
theorem dX9_who_56 : decode cX9_who 56 = .ok (.ireturn, 1) := by decide +kernel
set_option maxRecDepth 20000 in
theorem ggX9_who_X9_laysYards : GoodIn wsX9_who wsX9_laysYards := goodIn_r _ [7, 8, 9, 2, 10, 11, 12, 6, 13, 14, 15, 16, 17, 18, 19, 20, 21, 22, 23, 24, 25, 26, 27, 28, 29, 30, 31, 32, 33, 34, 35, 36, 37, 38, 39, 40, 41, 42, 43, 44, 45, 46, 47, 48, 49, 50, 51, 52, 53, 54, 55, 56, 57, 58, 59, 60, 61, 62, 63, 64, 65, 66, 67, 68, 69, 70, 71, 72, 73, 74, 75, 76, 77, 78, 79, 80, 81, 82, 83, 84, 85, 86, 87, 88, 89, 90, 91, 92, 93, 94, 95, 96, 97, 98, 99, 100, 101, 102, 103, 104, 105, 106, 115, 116, 117, 118, 119, 120, 121, 122, 123, 124, 125, 126, 127, 128, 129, 130, 131, 132, 133, 134, 135, 136, 137, 138, 139, 140, 141, 142, 143, 144, 145, 146, 147, 148, 149, 150, 151, 152, 153, 154, 155, 156, 157, 158, 159, 160, 161, 162, 163, 164, 165, 166, 167, 168, 169, 170, 171, 172] rfl (by decide +kernel)
set_option maxRecDepth 20000 in
theorem gX9_who_X9_laysYards : GoodIn wsX9_who (wsV RX9 421 RX9 yX9_laysYards wsX9_laysYards) := goodIn_app (goodIn_of _ (by decide +kernel)) ggX9_who_X9_laysYards
set_option maxHeartbeats 4000000 in
set_option maxRecDepth 100000 in
theorem mX9_who (l : Launch) (D : va_G) (k : Nat → ClassId) (sz : Nat) (y : Nat) (y_thrown : Int32) (y_taped : Int32) (y_tape : Value) (y_size : Int32) (y_place : Int32) (y_begin : Int32) (y_token : Int32) (y_word : Int64) (y_told : Int32) (y_wrong : Int32) (b_supper : Nat) (y_guestName : Value) (y_kind : Value) (y_offTold : Value) (y_pace : Value) (y_cooks : Value) (y_snow : Value) (y_lineFrom : Value) (y_lineTo : Value) (y_codes : Value) (y_code : Int32) (y_toldLines : Int32) (y_opened : Value) (y_compared : Value) (y_kept : Value) (y_keptBy : Value) (y_ahead : Value) (y_against : Value) (y_sum : Value) (y_sumBy : Value) (y_term : Value) (y_termBy : Value) (y_byNot : Value) (y_valueOf : Value) (y_given : Int32) (y_lines : Value) (y_lineWhat : Value) (y_lineA : Value) (y_lineB : Value) (y_seens : Value) (y_seenIn : Value) (y_seenYards : Value) (y_seenNear : Value) (b_s : Nat) (y_aside : Value) (b_before : Nat) (y_marked : Value) (y_undone : Value) (y_isLaid : Value) (y_done : Int32) (y_snowNow : Int32) (y_cameNow : Int32) (y_cookThen : Int32) (y_tasteThen : Int32) (y_places : Value) (y_comesAt : Value) (y_yardsIn : Value) (y_g : Int64) (c_supper : Nat → Int32) (c_s : Nat → Int32) (c_before : Nat → Int32) (hs0 : c_supper 0 = 0) : Met l yX9_who wsX9_who ({ frames := 3, cells := 0, slots := 0, locals := 210 }) (va_Pc [.ref y] (kz_Pre D k [(y, kO 9 [.int y_thrown, .int y_taped, y_tape, .int y_size, .int y_place, .int y_begin, .int y_token, .long y_word, .int y_told, .int y_wrong, .ref b_supper, y_guestName, y_kind, y_offTold, y_pace, y_cooks, y_snow, y_lineFrom, y_lineTo, y_codes, .int y_code, .int y_toldLines, y_opened, y_compared, y_kept, y_keptBy, y_ahead, y_against, y_sum, y_sumBy, y_term, y_termBy, y_byNot, y_valueOf, .int y_given, y_lines, y_lineWhat, y_lineA, y_lineB, y_seens, y_seenIn, y_seenYards, y_seenNear, .ref b_s, y_aside, .ref b_before, y_marked, y_undone, y_isLaid, .int y_done, .int y_snowNow, .int y_cameNow, .int y_cookThen, .int y_tasteThen, y_places, y_comesAt, y_yardsIn, .long y_g]), (b_supper, kI k 8 c_supper), (b_s, kI k 46 c_s), (b_before, kI k 46 c_before)] sz)) (va_Qi (fun (rr : Int32) (uu : Int32) => rr = 0) (fun uu zt => kz_B D (va_A [(y, kO 9 [.int y_thrown, .int y_taped, y_tape, .int y_size, .int y_place, .int y_begin, .int y_token, .long y_word, .int y_told, .int y_wrong, .ref b_supper, y_guestName, y_kind, y_offTold, y_pace, y_cooks, y_snow, y_lineFrom, y_lineTo, y_codes, .int y_code, .int y_toldLines, y_opened, y_compared, y_kept, y_keptBy, y_ahead, y_against, y_sum, y_sumBy, y_term, y_termBy, y_byNot, y_valueOf, .int y_given, y_lines, y_lineWhat, y_lineA, y_lineB, y_seens, y_seenIn, y_seenYards, y_seenNear, .ref b_s, y_aside, .ref b_before, y_marked, y_undone, y_isLaid, .int y_done, .int y_snowNow, .int y_cameNow, .int y_cookThen, .int y_tasteThen, y_places, y_comesAt, y_yardsIn, .long y_g]), (b_supper, kI k 8 c_supper), (b_s, kI k 46 c_s), (b_before, kI k 46 c_before)] sz) [(y, kO 9 [.int 0, .int y_taped, y_tape, .int y_size, .int y_place, .int y_begin, .int y_token, .long y_word, .int y_told, .int y_wrong, .ref b_supper, y_guestName, y_kind, y_offTold, y_pace, y_cooks, y_snow, y_lineFrom, y_lineTo, y_codes, .int y_code, .int y_toldLines, y_opened, y_compared, y_kept, y_keptBy, y_ahead, y_against, y_sum, y_sumBy, y_term, y_termBy, y_byNot, y_valueOf, .int y_given, y_lines, y_lineWhat, y_lineA, y_lineB, y_seens, y_seenIn, y_seenYards, y_seenNear, .ref b_s, y_aside, .ref b_before, y_marked, y_undone, y_isLaid, .int y_done, .int y_snowNow, .int uu, .int y_cookThen, .int y_tasteThen, y_places, y_comesAt, y_yardsIn, .long y_g]), (b_supper, kI k 8 c_supper)] zt) (va_A [(y, kO 9 [.int y_thrown, .int y_taped, y_tape, .int y_size, .int y_place, .int y_begin, .int y_token, .long y_word, .int y_told, .int y_wrong, .ref b_supper, y_guestName, y_kind, y_offTold, y_pace, y_cooks, y_snow, y_lineFrom, y_lineTo, y_codes, .int y_code, .int y_toldLines, y_opened, y_compared, y_kept, y_keptBy, y_ahead, y_against, y_sum, y_sumBy, y_term, y_termBy, y_byNot, y_valueOf, .int y_given, y_lines, y_lineWhat, y_lineA, y_lineB, y_seens, y_seenIn, y_seenYards, y_seenNear, .ref b_s, y_aside, .ref b_before, y_marked, y_undone, y_isLaid, .int y_done, .int y_snowNow, .int y_cameNow, .int y_cookThen, .int y_tasteThen, y_places, y_comesAt, y_yardsIn, .long y_g]), (b_supper, kI k 8 c_supper), (b_s, kI k 46 c_s), (b_before, kI k 46 c_before)] sz)) 0 0 (va_A [(y, kO 9 [.int y_thrown, .int y_taped, y_tape, .int y_size, .int y_place, .int y_begin, .int y_token, .long y_word, .int y_told, .int y_wrong, .ref b_supper, y_guestName, y_kind, y_offTold, y_pace, y_cooks, y_snow, y_lineFrom, y_lineTo, y_codes, .int y_code, .int y_toldLines, y_opened, y_compared, y_kept, y_keptBy, y_ahead, y_against, y_sum, y_sumBy, y_term, y_termBy, y_byNot, y_valueOf, .int y_given, y_lines, y_lineWhat, y_lineA, y_lineB, y_seens, y_seenIn, y_seenYards, y_seenNear, .ref b_s, y_aside, .ref b_before, y_marked, y_undone, y_isLaid, .int y_done, .int y_snowNow, .int y_cameNow, .int y_cookThen, .int y_tasteThen, y_places, y_comesAt, y_yardsIn, .long y_g]), (b_supper, kI k 8 c_supper), (b_s, kI k 46 c_s), (b_before, kI k 46 c_before)] sz) := by
  refine Met.ofW (cc := cX9_who) (maxL := 3) (ret := (some .int)) (by decide) rfl ?_
  intro p e s m args below meth c s₁ B hml hv
  obtain ⟨hav, hsz, hP, hK, hD0, hE⟩ := hv
  have hx := B.exec
  have hb := B.bytes
  have hr := B.returns
  have hts := atoms_spec (ws := wsX9_who) B.pre
  have hown : s.vm.findClass RX9 = some m.cls := findClass_of_methodNamed B.named
  have hlocks := B.notSynchronized
  have hi9 : ∀ w ∈ u_ws RX9 TX9 58, w ∈ wsX9_who := by decide +kernel
  have lf143 := hts (.fieldLink RX9 143 "LastCookModel" "thrown" "I") (by decide +kernel)
  have lf13 := hts (.fieldLink RX9 13 "LastCookModel" "supper" "[I") (by decide +kernel)
  subst hsz
  have hD := hD0.self (sz := s.heap.size)
  generalize hAe : va_A [(y, kO 9 [.int y_thrown, .int y_taped, y_tape, .int y_size, .int y_place, .int y_begin, .int y_token, .long y_word, .int y_told, .int y_wrong, .ref b_supper, y_guestName, y_kind, y_offTold, y_pace, y_cooks, y_snow, y_lineFrom, y_lineTo, y_codes, .int y_code, .int y_toldLines, y_opened, y_compared, y_kept, y_keptBy, y_ahead, y_against, y_sum, y_sumBy, y_term, y_termBy, y_byNot, y_valueOf, .int y_given, y_lines, y_lineWhat, y_lineA, y_lineB, y_seens, y_seenIn, y_seenYards, y_seenNear, .ref b_s, y_aside, .ref b_before, y_marked, y_undone, y_isLaid, .int y_done, .int y_snowNow, .int y_cameNow, .int y_cookThen, .int y_tasteThen, y_places, y_comesAt, y_yardsIn, .long y_g]), (b_supper, kI k 8 c_supper), (b_s, kI k 46 c_s), (b_before, kI k 46 c_before)] s.heap.size = A at hD ⊢
  have hA : ∀ q : Nat, s.heap.size ≤ q → A q := fun q h => by rw [← hAe]; exact Or.inr h
  have hS : va_S A s.heap s.heap [] := va_S.rf
  have hl := lv_entry ([.ref y]) (n := 3) (Nat.le_of_ble_eq_true rfl)
  rw [show entryFrame m args 3 = entryFrame m ([.ref y] : List Value).toArray 3 by rw [hav], lg_entry_eq]
  generalize (lg_sl ([.ref y]) ++ List.replicate (3 - (lg_sl ([.ref y])).length) Slot.unset).toArray = ls at hl ⊢
  have hl : lv_has ls 3 [(0, .ref y)] := hl
  obtain ⟨R, hR⟩ : ∃ R, R = (headSpec wsX9_who ({ frames := 3, cells := 0, slots := 0, locals := 210 } : Room)).room := ⟨_, rfl⟩
  rw [← hR]
  generalize hQ : MQ below _ args s 0 0 A = Q
  replace hQ := hQ.symm
  obtain ⟨H, hH⟩ : ∃ H, H = s.heap := ⟨_, rfl⟩
  rw [← hH] at hP ⊢
  have hS : va_S A s.heap H [] := by rw [hH]; exact hS
  refine lv_aload_n hx hb dX9_who_0 rfl (lv_at hl 0 rfl) ?_
  refine lv_iconst (v := 0) hx hb dX9_who_1 (by decide) ?_
  refine va_put (D := D) (ci := 9) (v := .int 0) (ty := .int) (C := RX9) (T := TX9) (N := 58) hx hb hts hi9 tyX9 tyX9_ok nmX9 hown hK hP hD hS 0 rfl rfl 0 (by decide) lf143 (fun _ h9 => h9) rfl (by decide +kernel) rfl rfl (Nat.le_of_ble_eq_true rfl) dX9_who_2 (fun H locs hP hD hS => ?_)
  have hP : va_P D vwCl [(y, kO 9 [.int 0, .int y_taped, y_tape, .int y_size, .int y_place, .int y_begin, .int y_token, .long y_word, .int y_told, .int y_wrong, .ref b_supper, y_guestName, y_kind, y_offTold, y_pace, y_cooks, y_snow, y_lineFrom, y_lineTo, y_codes, .int y_code, .int y_toldLines, y_opened, y_compared, y_kept, y_keptBy, y_ahead, y_against, y_sum, y_sumBy, y_term, y_termBy, y_byNot, y_valueOf, .int y_given, y_lines, y_lineWhat, y_lineA, y_lineB, y_seens, y_seenIn, y_seenYards, y_seenNear, .ref b_s, y_aside, .ref b_before, y_marked, y_undone, y_isLaid, .int y_done, .int y_snowNow, .int y_cameNow, .int y_cookThen, .int y_tasteThen, y_places, y_comesAt, y_yardsIn, .long y_g]), (b_supper, kI k 8 c_supper), (b_s, kI k 46 c_s), (b_before, kI k 46 c_before)] H := hP
  have hD : va_D A [(y, kO 9 [.int 0, .int y_taped, y_tape, .int y_size, .int y_place, .int y_begin, .int y_token, .long y_word, .int y_told, .int y_wrong, .ref b_supper, y_guestName, y_kind, y_offTold, y_pace, y_cooks, y_snow, y_lineFrom, y_lineTo, y_codes, .int y_code, .int y_toldLines, y_opened, y_compared, y_kept, y_keptBy, y_ahead, y_against, y_sum, y_sumBy, y_term, y_termBy, y_byNot, y_valueOf, .int y_given, y_lines, y_lineWhat, y_lineA, y_lineB, y_seens, y_seenIn, y_seenYards, y_seenNear, .ref b_s, y_aside, .ref b_before, y_marked, y_undone, y_isLaid, .int y_done, .int y_snowNow, .int y_cameNow, .int y_cookThen, .int y_tasteThen, y_places, y_comesAt, y_yardsIn, .long y_g]), (b_supper, kI k 8 c_supper), (b_s, kI k 46 c_s), (b_before, kI k 46 c_before)] := hD
  refine lv_aload_n hx hb dX9_who_5 rfl (lv_at hl 0 rfl) ?_
  refine kz_Vv (As := []) (rest := []) (wc := [(y, kO 9 [.int 0, .int y_taped, y_tape, .int y_size, .int y_place, .int y_begin, .int y_token, .long y_word, .int y_told, .int y_wrong, .ref b_supper, y_guestName, y_kind, y_offTold, y_pace, y_cooks, y_snow, y_lineFrom, y_lineTo, y_codes, .int y_code, .int y_toldLines, y_opened, y_compared, y_kept, y_keptBy, y_ahead, y_against, y_sum, y_sumBy, y_term, y_termBy, y_byNot, y_valueOf, .int y_given, y_lines, y_lineWhat, y_lineA, y_lineB, y_seens, y_seenIn, y_seenYards, y_seenNear, .ref b_s, y_aside, .ref b_before, y_marked, y_undone, y_isLaid, .int y_done, .int y_snowNow, .int y_cameNow, .int y_cookThen, .int y_tasteThen, y_places, y_comesAt, y_yardsIn, .long y_g]), (b_supper, kI k 8 c_supper), (b_s, kI k 46 c_s), (b_before, kI k 46 c_before)]) (wr := []) ⟨hx, hb, hml, hown, hts⟩ hK hE hP hD hS hA (mX9_laysYards l D k H.size y 0 y_taped y_tape y_size y_place y_begin y_token y_word y_told y_wrong b_supper y_guestName y_kind y_offTold y_pace y_cooks y_snow y_lineFrom y_lineTo y_codes y_code y_toldLines y_opened y_compared y_kept y_keptBy y_ahead y_against y_sum y_sumBy y_term y_termBy y_byNot y_valueOf y_given y_lines y_lineWhat y_lineA y_lineB y_seens y_seenIn y_seenYards y_seenNear b_s y_aside b_before y_marked y_undone y_isLaid y_done y_snowNow y_cameNow y_cookThen y_tasteThen y_places y_comesAt y_yardsIn y_g c_supper c_s c_before hs0) (cwV 0 hts gX9_who_X9_laysYards rfl rfl rfl (by decide +kernel) (by rw [hR]; exact ⟨Nat.le_of_ble_eq_true rfl, Nat.le_of_ble_eq_true rfl⟩)) [0, 1, 2, 3] [] rfl rfl (by decide) (by decide) (by decide) 0 rfl rfl rfl hl.1 rfl (Nat.le_of_ble_eq_true rfl) dX9_who_6 (by rw [hR]; exact ⟨Nat.le_of_ble_eq_true rfl, Nat.le_of_ble_eq_true rfl⟩) (fun u1 H locs hw1 hP hD hS => ?_)
  have hP : va_P D vwCl [(y, kO 9 [.int 0, .int y_taped, y_tape, .int y_size, .int y_place, .int y_begin, .int y_token, .long y_word, .int y_told, .int y_wrong, .ref b_supper, y_guestName, y_kind, y_offTold, y_pace, y_cooks, y_snow, y_lineFrom, y_lineTo, y_codes, .int y_code, .int y_toldLines, y_opened, y_compared, y_kept, y_keptBy, y_ahead, y_against, y_sum, y_sumBy, y_term, y_termBy, y_byNot, y_valueOf, .int y_given, y_lines, y_lineWhat, y_lineA, y_lineB, y_seens, y_seenIn, y_seenYards, y_seenNear, .ref b_s, y_aside, .ref b_before, y_marked, y_undone, y_isLaid, .int y_done, .int y_snowNow, .int u1, .int y_cookThen, .int y_tasteThen, y_places, y_comesAt, y_yardsIn, .long y_g]), (b_supper, kI k 8 c_supper)] H := hP
  have hD : va_D A [(y, kO 9 [.int 0, .int y_taped, y_tape, .int y_size, .int y_place, .int y_begin, .int y_token, .long y_word, .int y_told, .int y_wrong, .ref b_supper, y_guestName, y_kind, y_offTold, y_pace, y_cooks, y_snow, y_lineFrom, y_lineTo, y_codes, .int y_code, .int y_toldLines, y_opened, y_compared, y_kept, y_keptBy, y_ahead, y_against, y_sum, y_sumBy, y_term, y_termBy, y_byNot, y_valueOf, .int y_given, y_lines, y_lineWhat, y_lineA, y_lineB, y_seens, y_seenIn, y_seenYards, y_seenNear, .ref b_s, y_aside, .ref b_before, y_marked, y_undone, y_isLaid, .int y_done, .int y_snowNow, .int u1, .int y_cookThen, .int y_tasteThen, y_places, y_comesAt, y_yardsIn, .long y_g]), (b_supper, kI k 8 c_supper)] := hD
  refine lv_iconst (v := 0) hx hb dX9_who_9 (by decide) ?_
  refine lv_istore_n (lv' := [(1, .int 0), (0, .ref y)]) hx hb dX9_who_10 rfl hl (by decide) rfl (fun ls hl => ?_)
  refine lv_iconst (v := 0) hx hb dX9_who_11 (by decide) ?_
  refine lv_istore_n (lv' := [(2, .int 0), (1, .int 0), (0, .ref y)]) hx hb dX9_who_12 rfl hl (by decide) rfl (fun ls hl => ?_)
  refine lv_iload_n hx hb dX9_who_13 rfl (lv_at hl 0 rfl) ?_
  refine lv_aload_n hx hb dX9_who_14 rfl (lv_at hl 2 rfl) ?_
  refine va_get (D := D) (ci := 9) (v := .ref b_supper) (C := RX9) (T := TX9) (N := 58) hx hb hts hi9 hown hK hP 0 rfl rfl 10 (by decide) lf13 (fun _ h9 => h9) rfl dX9_who_15 ?_
  refine lv_iconst (v := 0) hx hb dX9_who_18 (by decide) ?_
  refine va_iald hx hb hK hP 1 0 rfl rfl (vp_in_iff.mpr (by decide)) dX9_who_19 ?_
  refine lv_topi (fun x2 ex2 => ?_)
  obtain rfl : x2 = 0 := ex2.trans (show _ = _ from hs0)
  refine lv_icmp_ge (tgt := 55) hx hb dX9_who_20 (by decide) (fun c_3 => ?_) (fun c_3 => absurd (by decide) c_3)
  refine lv_iload_n hx hb dX9_who_55 rfl (lv_at hl 1 rfl) ?_
  rw [hQ]
  have hP9 := hP.sub (ws' := [(y, kO 9 [.int 0, .int y_taped, y_tape, .int y_size, .int y_place, .int y_begin, .int y_token, .long y_word, .int y_told, .int y_wrong, .ref b_supper, y_guestName, y_kind, y_offTold, y_pace, y_cooks, y_snow, y_lineFrom, y_lineTo, y_codes, .int y_code, .int y_toldLines, y_opened, y_compared, y_kept, y_keptBy, y_ahead, y_against, y_sum, y_sumBy, y_term, y_termBy, y_byNot, y_valueOf, .int y_given, y_lines, y_lineWhat, y_lineA, y_lineB, y_seens, y_seenIn, y_seenYards, y_seenNear, .ref b_s, y_aside, .ref b_before, y_marked, y_undone, y_isLaid, .int y_done, .int y_snowNow, .int u1, .int y_cookThen, .int y_tasteThen, y_places, y_comesAt, y_yardsIn, .long y_g]), (b_supper, kI k 8 c_supper)]) [0, 1] rfl
  have hD9 := hD.sub (ws' := [(y, kO 9 [.int 0, .int y_taped, y_tape, .int y_size, .int y_place, .int y_begin, .int y_token, .long y_word, .int y_told, .int y_wrong, .ref b_supper, y_guestName, y_kind, y_offTold, y_pace, y_cooks, y_snow, y_lineFrom, y_lineTo, y_codes, .int y_code, .int y_toldLines, y_opened, y_compared, y_kept, y_keptBy, y_ahead, y_against, y_sum, y_sumBy, y_term, y_termBy, y_byNot, y_valueOf, .int y_given, y_lines, y_lineWhat, y_lineA, y_lineB, y_seens, y_seenIn, y_seenYards, y_seenNear, .ref b_s, y_aside, .ref b_before, y_marked, y_undone, y_isLaid, .int y_done, .int y_snowNow, .int u1, .int y_cookThen, .int y_tasteThen, y_places, y_comesAt, y_yardsIn, .long y_g]), (b_supper, kI k 8 c_supper)]) [0, 1] (by decide) rfl
  exact W.iret (v := 0) hx hb hr (fun zt ht hW => ⟨⟨0, u1, rfl, rfl, by rw [ht]; exact hP9, hD9⟩, hS.F ht⟩) hS.2.2 dX9_who_56
theorem dX9_ask_0 : decode cX9_ask 0 = .ok (.aload_n 0, 1) := by decide +kernel
theorem dX9_ask_1 : decode cX9_ask 1 = .ok (.iconst 0, 1) := by decide +kernel
theorem dX9_ask_2 : decode cX9_ask 2 = .ok (.putfield 143, 3) := by decide +kernel
theorem dX9_ask_5 : decode cX9_ask 5 = .ok (.aload_n 0, 1) := by decide +kernel
theorem dX9_ask_6 : decode cX9_ask 6 = .ok (.invokevirtual 427, 3) := by decide +kernel
theorem dX9_ask_9 : decode cX9_ask 9 = .ok (.istore_n 1, 1) := by decide +kernel
theorem dX9_ask_10 : decode cX9_ask 10 = .ok (.iload_n 1, 1) := by decide +kernel
theorem dX9_ask_11 : decode cX9_ask 11 = .ok (.invokestatic 366, 3) := by decide +kernel
theorem dX9_ask_14 : decode cX9_ask 14 = .ok (.istore_n 2, 1) := by decide +kernel
theorem dX9_ask_15 : decode cX9_ask 15 = .ok (.iload_n 2, 1) := by decide +kernel
theorem dX9_ask_16 : decode cX9_ask 16 = .ok (.istore_n 3, 1) := by decide +kernel
theorem dX9_ask_17 : decode cX9_ask 17 = .ok (.iconst (-1), 1) := by decide +kernel
theorem dX9_ask_18 : decode cX9_ask 18 = .ok (.istore 4, 2) := by decide +kernel
theorem dX9_ask_20 : decode cX9_ask 20 = .ok (.iconst 0, 1) := by decide +kernel
theorem dX9_ask_21 : decode cX9_ask 21 = .ok (.istore 5, 2) := by decide +kernel
theorem dX9_ask_23 : decode cX9_ask 23 = .ok (.iload 5, 2) := by decide +kernel
theorem dX9_ask_25 : decode cX9_ask 25 = .ok (.bipush 60, 2) := by decide +kernel
theorem dX9_ask_27 : decode cX9_ask 27 = .ok (.if_icmp .gt 121, 3) := by decide +kernel
theorem dX9_ask_30 : decode cX9_ask 30 = .ok (.iconst 0, 1) := by decide +kernel
theorem dX9_ask_31 : decode cX9_ask 31 = .ok (.istore 6, 2) := by decide +kernel
theorem dX9_ask_33 : decode cX9_ask 33 = .ok (.iload 6, 2) := by decide +kernel
theorem dX9_ask_35 : decode cX9_ask 35 = .ok (.sipush 300, 3) := by decide +kernel
theorem dX9_ask_38 : decode cX9_ask 38 = .ok (.if_icmp .gt 104, 3) := by decide +kernel
theorem dX9_ask_41 : decode cX9_ask 41 = .ok (.iconst 0, 1) := by decide +kernel
theorem dX9_ask_42 : decode cX9_ask 42 = .ok (.istore 7, 2) := by decide +kernel
theorem dX9_ask_44 : decode cX9_ask 44 = .ok (.iconst 0, 1) := by decide +kernel
theorem dX9_ask_45 : decode cX9_ask 45 = .ok (.istore 8, 2) := by decide +kernel
theorem dX9_ask_47 : decode cX9_ask 47 = .ok (.iload 8, 2) := by decide +kernel
theorem dX9_ask_49 : decode cX9_ask 49 = .ok (.aload_n 0, 1) := by decide +kernel
theorem dX9_ask_50 : decode cX9_ask 50 = .ok (.getfield 13, 3) := by decide +kernel
theorem dX9_ask_53 : decode cX9_ask 53 = .ok (.iconst 0, 1) := by decide +kernel
theorem dX9_ask_54 : decode cX9_ask 54 = .ok (.iaload, 1) := by decide +kernel
theorem dX9_ask_55 : decode cX9_ask 55 = .ok (.if_icmp .ge 47, 3) := by decide +kernel
theorem dX9_ask_102 : decode cX9_ask 102 = .ok (.iload 7, 2) := by decide +kernel
theorem dX9_ask_104 : decode cX9_ask 104 = .ok (.iload_n 2, 1) := by decide +kernel
theorem dX9_ask_105 : decode cX9_ask 105 = .ok (.iload 7, 2) := by decide +kernel
theorem dX9_ask_107 : decode cX9_ask 107 = .ok (.isub, 1) := by decide +kernel
theorem dX9_ask_108 : decode cX9_ask 108 = .ok (.invokestatic 350, 3) := by decide +kernel
theorem dX9_ask_111 : decode cX9_ask 111 = .ok (.istore 7, 2) := by decide +kernel
theorem dX9_ask_113 : decode cX9_ask 113 = .ok (.iload 7, 2) := by decide +kernel
theorem dX9_ask_115 : decode cX9_ask 115 = .ok (.iload_n 3, 1) := by decide +kernel
theorem dX9_ask_116 : decode cX9_ask 116 = .ok (.if_icmp .lt 6, 3) := by decide +kernel
theorem dX9_ask_119 : decode cX9_ask 119 = .ok (.goto 17, 3) := by decide +kernel
theorem dX9_ask_136 : decode cX9_ask 136 = .ok (.iinc 6 1, 3) := by decide +kernel
theorem dX9_ask_139 : decode cX9_ask 139 = .ok (.goto (-106), 3) := by decide +kernel
theorem dX9_ask_142 : decode cX9_ask 142 = .ok (.iinc 5 1, 3) := by decide +kernel
theorem dX9_ask_145 : decode cX9_ask 145 = .ok (.goto (-122), 3) := by decide +kernel
theorem dX9_ask_148 : decode cX9_ask 148 = .ok (.iload 4, 2) := by decide +kernel
theorem dX9_ask_150 : decode cX9_ask 150 = .ok (.ireturn, 1) := by decide +kernel
set_option maxRecDepth 20000 in
theorem ggX9_ask_X9_who : GoodIn wsX9_ask wsX9_who := goodIn_r _ [12, 1, 2, 13, 14, 15, 11, 16, 17, 18, 3, 19, 20, 21, 22, 23, 24, 25, 26, 27, 28, 29, 30, 31, 32, 33, 34, 35, 36, 37, 38, 39, 40, 41, 42, 4, 5, 6, 7, 43, 44, 45, 46, 47, 48, 49, 50, 51, 52, 53, 54, 55, 56, 57, 58, 59, 60, 61, 62, 63, 64, 65, 66, 67, 68, 69, 70, 71, 72, 73, 74, 75, 76, 77, 78, 79, 80, 81, 82, 83, 84, 85, 86, 87, 88, 89, 90, 91, 92, 93, 94, 95, 96, 97, 98, 99, 100, 101, 102, 103, 104, 105, 106, 107, 108, 109, 110, 111, 112, 113, 114, 115, 116, 117, 118, 119, 120, 121, 122, 123, 124, 125, 126, 127, 128, 129, 130, 131, 132, 133, 134, 135, 136, 137, 138, 139, 140, 141, 142, 143, 144, 145, 146, 147, 148, 149, 150, 151, 152, 153, 154, 155, 156, 157, 158, 159, 160, 161, 162, 163, 164, 165, 166, 167, 168, 169, 170, 171, 172, 173, 174, 175, 176] rfl (by decide +kernel)
set_option maxRecDepth 20000 in
theorem gX9_ask_X9_who : GoodIn wsX9_ask (wsV RX9 427 RX9 yX9_who wsX9_who) := goodIn_app (goodIn_of _ (by decide +kernel)) ggX9_ask_X9_who
set_option maxRecDepth 20000 in
theorem ggX9_ask_X9_bits : GoodIn wsX9_ask wsX9_bits := goodIn_r _ [37] rfl (by decide +kernel)
set_option maxRecDepth 20000 in
theorem gX9_ask_X9_bits : GoodIn wsX9_ask (va_wsS RX9 366 yX9_bits wsX9_bits) := goodIn_app (goodIn_of _ (by decide +kernel)) ggX9_ask_X9_bits
set_option maxHeartbeats 4000000 in
set_option maxRecDepth 100000 in
theorem mX9_ask (l : Launch) (D : va_G) (k : Nat → ClassId) (sz : Nat) (y : Nat) (y_thrown : Int32) (y_taped : Int32) (y_tape : Value) (y_size : Int32) (y_place : Int32) (y_begin : Int32) (y_token : Int32) (y_word : Int64) (y_told : Int32) (y_wrong : Int32) (b_supper : Nat) (y_guestName : Value) (y_kind : Value) (y_offTold : Value) (y_pace : Value) (y_cooks : Value) (y_snow : Value) (y_lineFrom : Value) (y_lineTo : Value) (y_codes : Value) (y_code : Int32) (y_toldLines : Int32) (y_opened : Value) (y_compared : Value) (y_kept : Value) (y_keptBy : Value) (y_ahead : Value) (y_against : Value) (y_sum : Value) (y_sumBy : Value) (y_term : Value) (y_termBy : Value) (y_byNot : Value) (y_valueOf : Value) (y_given : Int32) (y_lines : Value) (y_lineWhat : Value) (y_lineA : Value) (y_lineB : Value) (y_seens : Value) (y_seenIn : Value) (y_seenYards : Value) (y_seenNear : Value) (b_s : Nat) (y_aside : Value) (b_before : Nat) (y_marked : Value) (y_undone : Value) (y_isLaid : Value) (y_done : Int32) (y_snowNow : Int32) (y_cameNow : Int32) (y_cookThen : Int32) (y_tasteThen : Int32) (y_places : Value) (y_comesAt : Value) (y_yardsIn : Value) (y_g : Int64) (c_supper : Nat → Int32) (c_s : Nat → Int32) (c_before : Nat → Int32) (hs0 : c_supper 0 = 0) : Met l yX9_ask wsX9_ask ({ frames := 4, cells := 0, slots := 0, locals := 280 }) (va_Pc [.ref y] (kz_Pre D k [(y, kO 9 [.int y_thrown, .int y_taped, y_tape, .int y_size, .int y_place, .int y_begin, .int y_token, .long y_word, .int y_told, .int y_wrong, .ref b_supper, y_guestName, y_kind, y_offTold, y_pace, y_cooks, y_snow, y_lineFrom, y_lineTo, y_codes, .int y_code, .int y_toldLines, y_opened, y_compared, y_kept, y_keptBy, y_ahead, y_against, y_sum, y_sumBy, y_term, y_termBy, y_byNot, y_valueOf, .int y_given, y_lines, y_lineWhat, y_lineA, y_lineB, y_seens, y_seenIn, y_seenYards, y_seenNear, .ref b_s, y_aside, .ref b_before, y_marked, y_undone, y_isLaid, .int y_done, .int y_snowNow, .int y_cameNow, .int y_cookThen, .int y_tasteThen, y_places, y_comesAt, y_yardsIn, .long y_g]), (b_supper, kI k 8 c_supper), (b_s, kI k 46 c_s), (b_before, kI k 46 c_before)] sz)) (va_Qi (fun (rr : Int32) (uu : Unit) => rr = (-1)) (fun uu zt => kz_B D (va_A [(y, kO 9 [.int y_thrown, .int y_taped, y_tape, .int y_size, .int y_place, .int y_begin, .int y_token, .long y_word, .int y_told, .int y_wrong, .ref b_supper, y_guestName, y_kind, y_offTold, y_pace, y_cooks, y_snow, y_lineFrom, y_lineTo, y_codes, .int y_code, .int y_toldLines, y_opened, y_compared, y_kept, y_keptBy, y_ahead, y_against, y_sum, y_sumBy, y_term, y_termBy, y_byNot, y_valueOf, .int y_given, y_lines, y_lineWhat, y_lineA, y_lineB, y_seens, y_seenIn, y_seenYards, y_seenNear, .ref b_s, y_aside, .ref b_before, y_marked, y_undone, y_isLaid, .int y_done, .int y_snowNow, .int y_cameNow, .int y_cookThen, .int y_tasteThen, y_places, y_comesAt, y_yardsIn, .long y_g]), (b_supper, kI k 8 c_supper), (b_s, kI k 46 c_s), (b_before, kI k 46 c_before)] sz) [] zt) (va_A [(y, kO 9 [.int y_thrown, .int y_taped, y_tape, .int y_size, .int y_place, .int y_begin, .int y_token, .long y_word, .int y_told, .int y_wrong, .ref b_supper, y_guestName, y_kind, y_offTold, y_pace, y_cooks, y_snow, y_lineFrom, y_lineTo, y_codes, .int y_code, .int y_toldLines, y_opened, y_compared, y_kept, y_keptBy, y_ahead, y_against, y_sum, y_sumBy, y_term, y_termBy, y_byNot, y_valueOf, .int y_given, y_lines, y_lineWhat, y_lineA, y_lineB, y_seens, y_seenIn, y_seenYards, y_seenNear, .ref b_s, y_aside, .ref b_before, y_marked, y_undone, y_isLaid, .int y_done, .int y_snowNow, .int y_cameNow, .int y_cookThen, .int y_tasteThen, y_places, y_comesAt, y_yardsIn, .long y_g]), (b_supper, kI k 8 c_supper), (b_s, kI k 46 c_s), (b_before, kI k 46 c_before)] sz)) 0 0 (va_A [(y, kO 9 [.int y_thrown, .int y_taped, y_tape, .int y_size, .int y_place, .int y_begin, .int y_token, .long y_word, .int y_told, .int y_wrong, .ref b_supper, y_guestName, y_kind, y_offTold, y_pace, y_cooks, y_snow, y_lineFrom, y_lineTo, y_codes, .int y_code, .int y_toldLines, y_opened, y_compared, y_kept, y_keptBy, y_ahead, y_against, y_sum, y_sumBy, y_term, y_termBy, y_byNot, y_valueOf, .int y_given, y_lines, y_lineWhat, y_lineA, y_lineB, y_seens, y_seenIn, y_seenYards, y_seenNear, .ref b_s, y_aside, .ref b_before, y_marked, y_undone, y_isLaid, .int y_done, .int y_snowNow, .int y_cameNow, .int y_cookThen, .int y_tasteThen, y_places, y_comesAt, y_yardsIn, .long y_g]), (b_supper, kI k 8 c_supper), (b_s, kI k 46 c_s), (b_before, kI k 46 c_before)] sz) := by
  refine Met.ofW (cc := cX9_ask) (maxL := 9) (ret := (some .int)) (by decide) rfl ?_
  intro p e s m args below meth c s₁ B hml hv
  obtain ⟨hav, hsz, hP, hK, hD0, hE⟩ := hv
  have hx := B.exec
  have hb := B.bytes
  have hr := B.returns
  have hts := atoms_spec (ws := wsX9_ask) B.pre
  have hown : s.vm.findClass RX9 = some m.cls := findClass_of_methodNamed B.named
  have hlocks := B.notSynchronized
  have hi9 : ∀ w ∈ u_ws RX9 TX9 58, w ∈ wsX9_ask := by decide +kernel
  have lf143 := hts (.fieldLink RX9 143 "LastCookModel" "thrown" "I") (by decide +kernel)
  have lf13 := hts (.fieldLink RX9 13 "LastCookModel" "supper" "[I") (by decide +kernel)
  have lm350 := hts (.methodLink RX9 350 Lib.Math.max.name) (by decide +kernel)
  have lmtmax := hts (.static Lib.Math.max.name) (by decide +kernel)
  have lim := hts (.initialized "java/lang/Math") (by decide +kernel)
  have lmcmax := hts (.code Lib.Math.max.name Lib.Math.max.code 2 (some .int)) (by decide +kernel)
  subst hsz
  have hD := hD0.self (sz := s.heap.size)
  generalize hAe : va_A [(y, kO 9 [.int y_thrown, .int y_taped, y_tape, .int y_size, .int y_place, .int y_begin, .int y_token, .long y_word, .int y_told, .int y_wrong, .ref b_supper, y_guestName, y_kind, y_offTold, y_pace, y_cooks, y_snow, y_lineFrom, y_lineTo, y_codes, .int y_code, .int y_toldLines, y_opened, y_compared, y_kept, y_keptBy, y_ahead, y_against, y_sum, y_sumBy, y_term, y_termBy, y_byNot, y_valueOf, .int y_given, y_lines, y_lineWhat, y_lineA, y_lineB, y_seens, y_seenIn, y_seenYards, y_seenNear, .ref b_s, y_aside, .ref b_before, y_marked, y_undone, y_isLaid, .int y_done, .int y_snowNow, .int y_cameNow, .int y_cookThen, .int y_tasteThen, y_places, y_comesAt, y_yardsIn, .long y_g]), (b_supper, kI k 8 c_supper), (b_s, kI k 46 c_s), (b_before, kI k 46 c_before)] s.heap.size = A at hD ⊢
  have hA : ∀ q : Nat, s.heap.size ≤ q → A q := fun q h => by rw [← hAe]; exact Or.inr h
  have hS : va_S A s.heap s.heap [] := va_S.rf
  have hl := lv_entry ([.ref y]) (n := 9) (Nat.le_of_ble_eq_true rfl)
  rw [show entryFrame m args 9 = entryFrame m ([.ref y] : List Value).toArray 9 by rw [hav], lg_entry_eq]
  generalize (lg_sl ([.ref y]) ++ List.replicate (9 - (lg_sl ([.ref y])).length) Slot.unset).toArray = ls at hl ⊢
  have hl : lv_has ls 9 [(0, .ref y)] := hl
  obtain ⟨R, hR⟩ : ∃ R, R = (headSpec wsX9_ask ({ frames := 4, cells := 0, slots := 0, locals := 280 } : Room)).room := ⟨_, rfl⟩
  rw [← hR]
  generalize hQ : MQ below _ args s 0 0 A = Q
  replace hQ := hQ.symm
  obtain ⟨H, hH⟩ : ∃ H, H = s.heap := ⟨_, rfl⟩
  rw [← hH] at hP ⊢
  have hS : va_S A s.heap H [] := by rw [hH]; exact hS
  refine lv_aload_n hx hb dX9_ask_0 rfl (lv_at hl 0 rfl) ?_
  refine lv_iconst (v := 0) hx hb dX9_ask_1 (by decide) ?_
  refine va_put (D := D) (ci := 9) (v := .int 0) (ty := .int) (C := RX9) (T := TX9) (N := 58) hx hb hts hi9 tyX9 tyX9_ok nmX9 hown hK hP hD hS 0 rfl rfl 0 (by decide) lf143 (fun _ h9 => h9) rfl (by decide +kernel) rfl rfl (Nat.le_of_ble_eq_true rfl) dX9_ask_2 (fun H locs hP hD hS => ?_)
  have hP : va_P D vwCl [(y, kO 9 [.int 0, .int y_taped, y_tape, .int y_size, .int y_place, .int y_begin, .int y_token, .long y_word, .int y_told, .int y_wrong, .ref b_supper, y_guestName, y_kind, y_offTold, y_pace, y_cooks, y_snow, y_lineFrom, y_lineTo, y_codes, .int y_code, .int y_toldLines, y_opened, y_compared, y_kept, y_keptBy, y_ahead, y_against, y_sum, y_sumBy, y_term, y_termBy, y_byNot, y_valueOf, .int y_given, y_lines, y_lineWhat, y_lineA, y_lineB, y_seens, y_seenIn, y_seenYards, y_seenNear, .ref b_s, y_aside, .ref b_before, y_marked, y_undone, y_isLaid, .int y_done, .int y_snowNow, .int y_cameNow, .int y_cookThen, .int y_tasteThen, y_places, y_comesAt, y_yardsIn, .long y_g]), (b_supper, kI k 8 c_supper), (b_s, kI k 46 c_s), (b_before, kI k 46 c_before)] H := hP
  have hD : va_D A [(y, kO 9 [.int 0, .int y_taped, y_tape, .int y_size, .int y_place, .int y_begin, .int y_token, .long y_word, .int y_told, .int y_wrong, .ref b_supper, y_guestName, y_kind, y_offTold, y_pace, y_cooks, y_snow, y_lineFrom, y_lineTo, y_codes, .int y_code, .int y_toldLines, y_opened, y_compared, y_kept, y_keptBy, y_ahead, y_against, y_sum, y_sumBy, y_term, y_termBy, y_byNot, y_valueOf, .int y_given, y_lines, y_lineWhat, y_lineA, y_lineB, y_seens, y_seenIn, y_seenYards, y_seenNear, .ref b_s, y_aside, .ref b_before, y_marked, y_undone, y_isLaid, .int y_done, .int y_snowNow, .int y_cameNow, .int y_cookThen, .int y_tasteThen, y_places, y_comesAt, y_yardsIn, .long y_g]), (b_supper, kI k 8 c_supper), (b_s, kI k 46 c_s), (b_before, kI k 46 c_before)] := hD
  refine lv_aload_n hx hb dX9_ask_5 rfl (lv_at hl 0 rfl) ?_
  refine kz_Vi (As := []) (rest := []) (wc := [(y, kO 9 [.int 0, .int y_taped, y_tape, .int y_size, .int y_place, .int y_begin, .int y_token, .long y_word, .int y_told, .int y_wrong, .ref b_supper, y_guestName, y_kind, y_offTold, y_pace, y_cooks, y_snow, y_lineFrom, y_lineTo, y_codes, .int y_code, .int y_toldLines, y_opened, y_compared, y_kept, y_keptBy, y_ahead, y_against, y_sum, y_sumBy, y_term, y_termBy, y_byNot, y_valueOf, .int y_given, y_lines, y_lineWhat, y_lineA, y_lineB, y_seens, y_seenIn, y_seenYards, y_seenNear, .ref b_s, y_aside, .ref b_before, y_marked, y_undone, y_isLaid, .int y_done, .int y_snowNow, .int y_cameNow, .int y_cookThen, .int y_tasteThen, y_places, y_comesAt, y_yardsIn, .long y_g]), (b_supper, kI k 8 c_supper), (b_s, kI k 46 c_s), (b_before, kI k 46 c_before)]) (wr := []) ⟨hx, hb, hml, hown, hts⟩ hK hE hP hD hS hA (mX9_who l D k H.size y 0 y_taped y_tape y_size y_place y_begin y_token y_word y_told y_wrong b_supper y_guestName y_kind y_offTold y_pace y_cooks y_snow y_lineFrom y_lineTo y_codes y_code y_toldLines y_opened y_compared y_kept y_keptBy y_ahead y_against y_sum y_sumBy y_term y_termBy y_byNot y_valueOf y_given y_lines y_lineWhat y_lineA y_lineB y_seens y_seenIn y_seenYards y_seenNear b_s y_aside b_before y_marked y_undone y_isLaid y_done y_snowNow y_cameNow y_cookThen y_tasteThen y_places y_comesAt y_yardsIn y_g c_supper c_s c_before hs0) (cwV 0 hts gX9_ask_X9_who rfl rfl rfl (by decide +kernel) (by rw [hR]; exact ⟨Nat.le_of_ble_eq_true rfl, Nat.le_of_ble_eq_true rfl⟩)) [0, 1, 2, 3] [] rfl rfl (by decide) (by decide) (by decide) 0 rfl rfl rfl hl.1 rfl (Nat.le_of_ble_eq_true rfl) dX9_ask_6 (by rw [hR]; exact ⟨Nat.le_of_ble_eq_true rfl, Nat.le_of_ble_eq_true rfl⟩) (fun r1 u1 H locs hw1 hP hD hS => ?_)
  try dsimp only at hw1
  obtain rfl : r1 = 0 := hw1
  have hP : va_P D vwCl [(y, kO 9 [.int 0, .int y_taped, y_tape, .int y_size, .int y_place, .int y_begin, .int y_token, .long y_word, .int y_told, .int y_wrong, .ref b_supper, y_guestName, y_kind, y_offTold, y_pace, y_cooks, y_snow, y_lineFrom, y_lineTo, y_codes, .int y_code, .int y_toldLines, y_opened, y_compared, y_kept, y_keptBy, y_ahead, y_against, y_sum, y_sumBy, y_term, y_termBy, y_byNot, y_valueOf, .int y_given, y_lines, y_lineWhat, y_lineA, y_lineB, y_seens, y_seenIn, y_seenYards, y_seenNear, .ref b_s, y_aside, .ref b_before, y_marked, y_undone, y_isLaid, .int y_done, .int y_snowNow, .int u1, .int y_cookThen, .int y_tasteThen, y_places, y_comesAt, y_yardsIn, .long y_g]), (b_supper, kI k 8 c_supper)] H := hP
  have hD : va_D A [(y, kO 9 [.int 0, .int y_taped, y_tape, .int y_size, .int y_place, .int y_begin, .int y_token, .long y_word, .int y_told, .int y_wrong, .ref b_supper, y_guestName, y_kind, y_offTold, y_pace, y_cooks, y_snow, y_lineFrom, y_lineTo, y_codes, .int y_code, .int y_toldLines, y_opened, y_compared, y_kept, y_keptBy, y_ahead, y_against, y_sum, y_sumBy, y_term, y_termBy, y_byNot, y_valueOf, .int y_given, y_lines, y_lineWhat, y_lineA, y_lineB, y_seens, y_seenIn, y_seenYards, y_seenNear, .ref b_s, y_aside, .ref b_before, y_marked, y_undone, y_isLaid, .int y_done, .int y_snowNow, .int u1, .int y_cookThen, .int y_tasteThen, y_places, y_comesAt, y_yardsIn, .long y_g]), (b_supper, kI k 8 c_supper)] := hD
  refine lv_istore_n (lv' := [(1, .int 0), (0, .ref y)]) hx hb dX9_ask_9 rfl hl (by decide) rfl (fun ls hl => ?_)
  refine lv_iload_n hx hb dX9_ask_10 rfl (lv_at hl 0 rfl) ?_
  refine kz_Si (As := [.int 0]) (rest := []) (wc := []) (wr := [(y, kO 9 [.int 0, .int y_taped, y_tape, .int y_size, .int y_place, .int y_begin, .int y_token, .long y_word, .int y_told, .int y_wrong, .ref b_supper, y_guestName, y_kind, y_offTold, y_pace, y_cooks, y_snow, y_lineFrom, y_lineTo, y_codes, .int y_code, .int y_toldLines, y_opened, y_compared, y_kept, y_keptBy, y_ahead, y_against, y_sum, y_sumBy, y_term, y_termBy, y_byNot, y_valueOf, .int y_given, y_lines, y_lineWhat, y_lineA, y_lineB, y_seens, y_seenIn, y_seenYards, y_seenNear, .ref b_s, y_aside, .ref b_before, y_marked, y_undone, y_isLaid, .int y_done, .int y_snowNow, .int u1, .int y_cookThen, .int y_tasteThen, y_places, y_comesAt, y_yardsIn, .long y_g]), (b_supper, kI k 8 c_supper)]) ⟨hx, hb, hml, hown, hts⟩ hK hE hP hD hS hA (mX9_bits l D k H.size) (va_cwS 1 hts gX9_ask_X9_bits rfl rfl rfl (by decide +kernel) (by rw [hR]; exact ⟨Nat.le_of_ble_eq_true rfl, Nat.le_of_ble_eq_true rfl⟩)) [] [0, 1] rfl rfl (by decide) (by decide) (by decide) rfl hl.1 rfl (Nat.le_of_ble_eq_true rfl) dX9_ask_11 (by rw [hR]; exact ⟨Nat.le_of_ble_eq_true rfl, Nat.le_of_ble_eq_true rfl⟩) (fun r2 u2 H locs hw2 hP hD hS => ?_)
  try dsimp only at hw2
  obtain rfl : r2 = 0 := hw2
  have hP : va_P D vwCl [(y, kO 9 [.int 0, .int y_taped, y_tape, .int y_size, .int y_place, .int y_begin, .int y_token, .long y_word, .int y_told, .int y_wrong, .ref b_supper, y_guestName, y_kind, y_offTold, y_pace, y_cooks, y_snow, y_lineFrom, y_lineTo, y_codes, .int y_code, .int y_toldLines, y_opened, y_compared, y_kept, y_keptBy, y_ahead, y_against, y_sum, y_sumBy, y_term, y_termBy, y_byNot, y_valueOf, .int y_given, y_lines, y_lineWhat, y_lineA, y_lineB, y_seens, y_seenIn, y_seenYards, y_seenNear, .ref b_s, y_aside, .ref b_before, y_marked, y_undone, y_isLaid, .int y_done, .int y_snowNow, .int u1, .int y_cookThen, .int y_tasteThen, y_places, y_comesAt, y_yardsIn, .long y_g]), (b_supper, kI k 8 c_supper)] H := hP
  have hD : va_D A [(y, kO 9 [.int 0, .int y_taped, y_tape, .int y_size, .int y_place, .int y_begin, .int y_token, .long y_word, .int y_told, .int y_wrong, .ref b_supper, y_guestName, y_kind, y_offTold, y_pace, y_cooks, y_snow, y_lineFrom, y_lineTo, y_codes, .int y_code, .int y_toldLines, y_opened, y_compared, y_kept, y_keptBy, y_ahead, y_against, y_sum, y_sumBy, y_term, y_termBy, y_byNot, y_valueOf, .int y_given, y_lines, y_lineWhat, y_lineA, y_lineB, y_seens, y_seenIn, y_seenYards, y_seenNear, .ref b_s, y_aside, .ref b_before, y_marked, y_undone, y_isLaid, .int y_done, .int y_snowNow, .int u1, .int y_cookThen, .int y_tasteThen, y_places, y_comesAt, y_yardsIn, .long y_g]), (b_supper, kI k 8 c_supper)] := hD
  refine lv_istore_n (lv' := [(2, .int 0), (1, .int 0), (0, .ref y)]) hx hb dX9_ask_14 rfl hl (by decide) rfl (fun ls hl => ?_)
  refine lv_iload_n hx hb dX9_ask_15 rfl (lv_at hl 0 rfl) ?_
  refine lv_istore_n (lv' := [(3, .int 0), (2, .int 0), (1, .int 0), (0, .ref y)]) hx hb dX9_ask_16 rfl hl (by decide) rfl (fun ls hl => ?_)
  refine lv_iconst (v := (-1)) hx hb dX9_ask_17 (by decide) ?_
  refine lv_istore (lv' := [(4, .int (-1)), (3, .int 0), (2, .int 0), (1, .int 0), (0, .ref y)]) hx hb dX9_ask_18 hl (by decide) rfl (fun ls hl => ?_)
  refine lv_iconst (v := 0) hx hb dX9_ask_20 (by decide) ?_
  refine lv_istore (lv' := [(5, .int 0), (4, .int (-1)), (3, .int 0), (2, .int 0), (1, .int 0), (0, .ref y)]) hx hb dX9_ask_21 hl (by decide) rfl (fun ls hl => ?_)
  have hloop23 : ∀ (n : Nat) (j : Nat) (w9 : Int32), 61 - j < n → (j ≤ 61) → ∀ (H : Heap) (locs : List Loc) (ls : Array Slot), va_P D vwCl [(y, kO 9 [.int 0, .int y_taped, y_tape, .int y_size, .int y_place, .int y_begin, .int y_token, .long y_word, .int y_told, .int y_wrong, .ref b_supper, y_guestName, y_kind, y_offTold, y_pace, y_cooks, y_snow, y_lineFrom, y_lineTo, y_codes, .int y_code, .int y_toldLines, y_opened, y_compared, y_kept, y_keptBy, y_ahead, y_against, y_sum, y_sumBy, y_term, y_termBy, y_byNot, y_valueOf, .int y_given, y_lines, y_lineWhat, y_lineA, y_lineB, y_seens, y_seenIn, y_seenYards, y_seenNear, .ref b_s, y_aside, .ref b_before, y_marked, y_undone, y_isLaid, .int y_done, .int y_snowNow, .int w9, .int y_cookThen, .int y_tasteThen, y_places, y_comesAt, y_yardsIn, .long y_g]), (b_supper, kI k 8 c_supper)] H → va_D A [(y, kO 9 [.int 0, .int y_taped, y_tape, .int y_size, .int y_place, .int y_begin, .int y_token, .long y_word, .int y_told, .int y_wrong, .ref b_supper, y_guestName, y_kind, y_offTold, y_pace, y_cooks, y_snow, y_lineFrom, y_lineTo, y_codes, .int y_code, .int y_toldLines, y_opened, y_compared, y_kept, y_keptBy, y_ahead, y_against, y_sum, y_sumBy, y_term, y_termBy, y_byNot, y_valueOf, .int y_given, y_lines, y_lineWhat, y_lineA, y_lineB, y_seens, y_seenIn, y_seenYards, y_seenNear, .ref b_s, y_aside, .ref b_before, y_marked, y_undone, y_isLaid, .int y_done, .int y_snowNow, .int w9, .int y_cookThen, .int y_tasteThen, y_places, y_comesAt, y_yardsIn, .long y_g]), (b_supper, kI k 8 c_supper)] → va_S A s.heap H locs → lv_has ls 9 [(5, .int (nI j)), (4, .int (-1)), (3, .int 0), (2, .int 0), (1, .int 0), (0, .ref y)] → W p l e R s m args below meth c H locs 0 0 Q (F0 m 23 ls []) := by
    intro n23
    induction n23 with
    | zero => intro j w9 hm; exact absurd hm (Nat.not_lt_zero _)
    | succ n23 ih23 =>
      intro j w9 hm23 hj H locs ls hP hD hS hl
      refine lv_iload hx hb dX9_ask_23 (lv_at hl 0 rfl) ?_
      refine lv_bipush (v := 60) hx hb dX9_ask_25 (by decide) ?_
      refine lv_icmp_gt (tgt := 148) hx hb dX9_ask_27 (by decide) (fun c_3 => ?_) (fun c_3 => ?_)
      · skip
        have k_3 : 60 < j := (nI_ltI (a := 60) (b := j) (by omega) (by omega)).mp c_3
        refine lv_iload hx hb dX9_ask_148 (lv_at hl 1 rfl) ?_
        rw [hQ]
        have hP9 := hP.sub (ws' := []) [] rfl
        have hD9 := hD.sub (ws' := []) [] (by decide) rfl
        exact W.iret (v := (-1)) hx hb hr (fun zt ht hW => ⟨⟨(-1), (), rfl, rfl, by rw [ht]; exact hP9, hD9⟩, hS.F ht⟩) hS.2.2 dX9_ask_150
      · skip
        have k_3 : ¬ (60 < j) := fun h => c_3 ((nI_ltI (a := 60) (b := j) (by omega) (by omega)).mpr h)
        refine lv_iconst (v := 0) hx hb dX9_ask_30 (by decide) ?_
        refine lv_istore (lv' := [(6, .int 0), (5, .int (nI j)), (4, .int (-1)), (3, .int 0), (2, .int 0), (1, .int 0), (0, .ref y)]) hx hb dX9_ask_31 hl (by decide) rfl (fun ls hl => ?_)
        have hloop33 : ∀ (n : Nat) (z : Nat), 301 - z < n → (z ≤ 301) → ∀ (H : Heap) (locs : List Loc) (ls : Array Slot), va_P D vwCl [(y, kO 9 [.int 0, .int y_taped, y_tape, .int y_size, .int y_place, .int y_begin, .int y_token, .long y_word, .int y_told, .int y_wrong, .ref b_supper, y_guestName, y_kind, y_offTold, y_pace, y_cooks, y_snow, y_lineFrom, y_lineTo, y_codes, .int y_code, .int y_toldLines, y_opened, y_compared, y_kept, y_keptBy, y_ahead, y_against, y_sum, y_sumBy, y_term, y_termBy, y_byNot, y_valueOf, .int y_given, y_lines, y_lineWhat, y_lineA, y_lineB, y_seens, y_seenIn, y_seenYards, y_seenNear, .ref b_s, y_aside, .ref b_before, y_marked, y_undone, y_isLaid, .int y_done, .int y_snowNow, .int w9, .int y_cookThen, .int y_tasteThen, y_places, y_comesAt, y_yardsIn, .long y_g]), (b_supper, kI k 8 c_supper)] H → va_D A [(y, kO 9 [.int 0, .int y_taped, y_tape, .int y_size, .int y_place, .int y_begin, .int y_token, .long y_word, .int y_told, .int y_wrong, .ref b_supper, y_guestName, y_kind, y_offTold, y_pace, y_cooks, y_snow, y_lineFrom, y_lineTo, y_codes, .int y_code, .int y_toldLines, y_opened, y_compared, y_kept, y_keptBy, y_ahead, y_against, y_sum, y_sumBy, y_term, y_termBy, y_byNot, y_valueOf, .int y_given, y_lines, y_lineWhat, y_lineA, y_lineB, y_seens, y_seenIn, y_seenYards, y_seenNear, .ref b_s, y_aside, .ref b_before, y_marked, y_undone, y_isLaid, .int y_done, .int y_snowNow, .int w9, .int y_cookThen, .int y_tasteThen, y_places, y_comesAt, y_yardsIn, .long y_g]), (b_supper, kI k 8 c_supper)] → va_S A s.heap H locs → lv_has ls 9 [(6, .int (nI z)), (5, .int (nI j)), (4, .int (-1)), (3, .int 0), (2, .int 0), (1, .int 0), (0, .ref y)] → W p l e R s m args below meth c H locs 0 0 Q (F0 m 33 ls []) := by
          intro n33
          induction n33 with
          | zero => intro z hm; exact absurd hm (Nat.not_lt_zero _)
          | succ n33 ih33 =>
            intro z hm33 hz H locs ls hP hD hS hl
            refine lv_iload hx hb dX9_ask_33 (lv_at hl 0 rfl) ?_
            refine lv_sipush (v := 300) hx hb dX9_ask_35 (by decide) ?_
            refine lv_icmp_gt (tgt := 142) hx hb dX9_ask_38 (by decide) (fun c_4 => ?_) (fun c_4 => ?_)
            · skip
              have k_4 : 300 < z := (nI_ltI (a := 300) (b := z) (by omega) (by omega)).mp c_4
              refine lv_iinc (v := (nI (j + 1))) (lv' := [(5, .int (nI (j + 1))), (6, .int (nI z)), (4, .int (-1)), (3, .int 0), (2, .int 0), (1, .int 0), (0, .ref y)]) hx hb dX9_ask_142 hl (k := 1) rfl (nI_1 _) (by decide) rfl (fun ls hl => ?_)
              refine lv_goto (tgt := 23) hx hb dX9_ask_145 (by decide) ?_
              exact ih23 (j + 1) w9 (by omega) (by omega) _ _ _ (hP.sub [0, 1] rfl) (hD.sub [0, 1] (by decide) rfl) hS (lv_sub hl [0, 2, 3, 4, 5, 6] rfl)
            · skip
              have k_4 : ¬ (300 < z) := fun h => c_4 ((nI_ltI (a := 300) (b := z) (by omega) (by omega)).mpr h)
              refine lv_iconst (v := 0) hx hb dX9_ask_41 (by decide) ?_
              refine lv_istore (lv' := [(7, .int 0), (6, .int (nI z)), (5, .int (nI j)), (4, .int (-1)), (3, .int 0), (2, .int 0), (1, .int 0), (0, .ref y)]) hx hb dX9_ask_42 hl (by decide) rfl (fun ls hl => ?_)
              refine lv_iconst (v := 0) hx hb dX9_ask_44 (by decide) ?_
              refine lv_istore (lv' := [(8, .int 0), (7, .int 0), (6, .int (nI z)), (5, .int (nI j)), (4, .int (-1)), (3, .int 0), (2, .int 0), (1, .int 0), (0, .ref y)]) hx hb dX9_ask_45 hl (by decide) rfl (fun ls hl => ?_)
              refine lv_iload hx hb dX9_ask_47 (lv_at hl 0 rfl) ?_
              refine lv_aload_n hx hb dX9_ask_49 rfl (lv_at hl 8 rfl) ?_
              refine va_get (D := D) (ci := 9) (v := .ref b_supper) (C := RX9) (T := TX9) (N := 58) hx hb hts hi9 hown hK hP 0 rfl rfl 10 (by decide) lf13 (fun _ h9 => h9) rfl dX9_ask_50 ?_
              refine lv_iconst (v := 0) hx hb dX9_ask_53 (by decide) ?_
              refine va_iald hx hb hK hP 1 0 rfl rfl (vp_in_iff.mpr (by decide)) dX9_ask_54 ?_
              refine lv_topi (fun x5 ex5 => ?_)
              obtain rfl : x5 = 0 := ex5.trans (show _ = _ from hs0)
              refine lv_icmp_ge (tgt := 102) hx hb dX9_ask_55 (by decide) (fun c_6 => ?_) (fun c_6 => absurd (by decide) c_6)
              refine lv_iload hx hb dX9_ask_102 (lv_at hl 1 rfl) ?_
              refine lv_iload_n hx hb dX9_ask_104 rfl (lv_at hl 6 rfl) ?_
              refine lv_iload hx hb dX9_ask_105 (lv_at hl 1 rfl) ?_
              refine lv_isub hx hb dX9_ask_107 ?_
              refine lv_topi (fun x7 ex7 => ?_)
              obtain rfl : x7 = 0 := ex7.trans (by decide)
              refine va_mmax hx hb (hml.trans hl.1.symm) hown lm350 lmtmax lim lmcmax (by rw [hR]; exact Nat.le_of_ble_eq_true rfl) (by rw [hR]; exact Nat.le_of_ble_eq_true rfl) (by omega) (by omega) dX9_ask_108 ?_
              refine lv_topi (fun x8 ex8 => ?_)
              obtain rfl : x8 = 0 := ex8.trans (by decide)
              refine lv_istore (lv' := [(7, .int 0), (8, .int 0), (6, .int (nI z)), (5, .int (nI j)), (4, .int (-1)), (3, .int 0), (2, .int 0), (1, .int 0), (0, .ref y)]) hx hb dX9_ask_111 hl (by decide) rfl (fun ls hl => ?_)
              refine lv_iload hx hb dX9_ask_113 (lv_at hl 0 rfl) ?_
              refine lv_iload_n hx hb dX9_ask_115 rfl (lv_at hl 5 rfl) ?_
              refine lv_icmp_lt (tgt := 122) hx hb dX9_ask_116 (by decide) (fun c_9 => absurd c_9 (by decide)) (fun c_9 => ?_)
              refine lv_goto (tgt := 136) hx hb dX9_ask_119 (by decide) ?_
              refine lv_iinc (v := (nI (z + 1))) (lv' := [(6, .int (nI (z + 1))), (7, .int 0), (8, .int 0), (5, .int (nI j)), (4, .int (-1)), (3, .int 0), (2, .int 0), (1, .int 0), (0, .ref y)]) hx hb dX9_ask_136 hl (k := 2) rfl (nI_1 _) (by decide) rfl (fun ls hl => ?_)
              refine lv_goto (tgt := 33) hx hb dX9_ask_139 (by decide) ?_
              exact ih33 (z + 1) (by omega) (by omega) _ _ _ (hP.sub [0, 1] rfl) (hD.sub [0, 1] (by decide) rfl) hS (lv_sub hl [0, 3, 4, 5, 6, 7, 8] rfl)
        exact hloop33 ((301 - 0) + 1) 0 (Nat.lt_succ_self _) (by omega) _ _ _ (hP.sub [0, 1] rfl) (hD.sub [0, 1] (by decide) rfl) hS (lv_sub hl [0, 1, 2, 3, 4, 5, 6] rfl)
  exact hloop23 ((61 - 0) + 1) 0 u1 (Nat.lt_succ_self _) (by omega) _ _ _ (hP.sub [0, 1] rfl) (hD.sub [0, 1] (by decide) rfl) hS (lv_sub hl [0, 1, 2, 3, 4, 5] rfl)
theorem dX9_livesMinute_0 : decode cX9_livesMinute 0 = .ok (.aload_n 0, 1) := by decide +kernel
theorem dX9_livesMinute_1 : decode cX9_livesMinute 1 = .ok (.getfield 13, 3) := by decide +kernel
theorem dX9_livesMinute_4 : decode cX9_livesMinute 4 = .ok (.iconst 0, 1) := by decide +kernel
theorem dX9_livesMinute_5 : decode cX9_livesMinute 5 = .ok (.iaload, 1) := by decide +kernel
theorem dX9_livesMinute_6 : decode cX9_livesMinute 6 = .ok (.ifCond .ne 8, 3) := by decide +kernel
theorem dX9_livesMinute_9 : decode cX9_livesMinute 9 = .ok (.bipush 7, 2) := by decide +kernel
theorem dX9_livesMinute_11 : decode cX9_livesMinute 11 = .ok (.goto 9, 3) := by decide +kernel
theorem dX9_livesMinute_20 : decode cX9_livesMinute 20 = .ok (.istore_n 1, 1) := by decide +kernel
theorem dX9_livesMinute_21 : decode cX9_livesMinute 21 = .ok (.iload_n 1, 1) := by decide +kernel
theorem dX9_livesMinute_22 : decode cX9_livesMinute 22 = .ok (.iconst 3, 1) := by decide +kernel
theorem dX9_livesMinute_23 : decode cX9_livesMinute 23 = .ok (.if_icmp .ge 119, 3) := by decide +kernel
theorem dX9_livesMinute_142 : decode cX9_livesMinute 142 = .ok (.aload_n 0, 1) := by decide +kernel
theorem dX9_livesMinute_143 : decode cX9_livesMinute 143 = .ok (.invokevirtual 403, 3) := by decide +kernel
theorem dX9_livesMinute_146 : decode cX9_livesMinute 146 = .ok (.pop, 1) := by decide +kernel
theorem dX9_livesMinute_147 : decode cX9_livesMinute 147 = .ok (.return_, 1) := by decide +kernel
set_option maxRecDepth 20000 in
theorem ggX9_livesMinute_X9_passes : GoodIn wsX9_livesMinute wsX9_passes := goodIn_r _ [45, 1, 46, 2, 47, 48, 49, 6, 50, 13, 14, 15, 16, 51, 52, 53, 54, 55, 56, 57, 58, 59, 60, 23, 61, 21, 22, 24, 62, 63, 64, 65, 29, 66, 67, 68, 69, 70, 71, 72, 73, 74, 75, 76, 77, 78, 79, 80, 81, 82, 83, 84, 85, 86, 87, 88, 89, 90, 91, 92, 93, 94, 95, 96, 97, 98, 99, 100, 101, 102, 103, 104, 105, 106, 107, 108, 109, 110, 111, 112, 113, 114, 115, 116, 117, 118, 119, 120, 121, 122, 123, 124, 125, 126, 127, 128, 129, 130, 131, 132, 133, 134, 135, 136, 137, 138, 139, 140, 141, 142, 143, 144, 145, 146, 147, 148, 149, 150, 151, 152, 153, 154, 155, 156, 157, 158, 159, 160, 161, 162, 163, 164, 165, 166, 167, 168, 169, 170, 171, 172, 173, 174, 175, 176, 177, 178, 179, 180, 181, 182, 183] rfl (by decide +kernel)
set_option maxRecDepth 20000 in
theorem gX9_livesMinute_X9_passes : GoodIn wsX9_livesMinute (wsV RX9 403 RX9 yX9_passes wsX9_passes) := goodIn_app (goodIn_of _ (by decide +kernel)) ggX9_livesMinute_X9_passes
set_option maxHeartbeats 4000000 in
set_option maxRecDepth 100000 in
theorem mX9_livesMinute (l : Launch) (D : va_G) (k : Nat → ClassId) (sz : Nat) (y : Nat) (y_thrown : Int32) (y_taped : Int32) (y_tape : Value) (y_size : Int32) (y_place : Int32) (y_begin : Int32) (y_token : Int32) (y_word : Int64) (y_told : Int32) (y_wrong : Int32) (b_supper : Nat) (y_guestName : Value) (y_kind : Value) (y_offTold : Value) (y_pace : Value) (y_cooks : Value) (y_snow : Value) (y_lineFrom : Value) (y_lineTo : Value) (y_codes : Value) (y_code : Int32) (y_toldLines : Int32) (y_opened : Value) (y_compared : Value) (y_kept : Value) (y_keptBy : Value) (y_ahead : Value) (y_against : Value) (y_sum : Value) (y_sumBy : Value) (y_term : Value) (y_termBy : Value) (y_byNot : Value) (y_valueOf : Value) (y_given : Int32) (y_lines : Value) (y_lineWhat : Value) (y_lineA : Value) (y_lineB : Value) (y_seens : Value) (y_seenIn : Value) (y_seenYards : Value) (y_seenNear : Value) (b_s : Nat) (y_aside : Value) (y_before : Value) (y_marked : Value) (y_undone : Value) (y_isLaid : Value) (y_done : Int32) (y_snowNow : Int32) (y_cameNow : Int32) (y_cookThen : Int32) (y_tasteThen : Int32) (y_places : Value) (y_comesAt : Value) (y_yardsIn : Value) (y_g : Int64) (c_supper : Nat → Int32) (c_s : Nat → Int32) (hs0 : c_supper 0 = 0) : Met l yX9_livesMinute wsX9_livesMinute ({ frames := 2, cells := 0, slots := 0, locals := 140 }) (va_Pc [.ref y] (kz_Pre D k [(y, kO 9 [.int y_thrown, .int y_taped, y_tape, .int y_size, .int y_place, .int y_begin, .int y_token, .long y_word, .int y_told, .int y_wrong, .ref b_supper, y_guestName, y_kind, y_offTold, y_pace, y_cooks, y_snow, y_lineFrom, y_lineTo, y_codes, .int y_code, .int y_toldLines, y_opened, y_compared, y_kept, y_keptBy, y_ahead, y_against, y_sum, y_sumBy, y_term, y_termBy, y_byNot, y_valueOf, .int y_given, y_lines, y_lineWhat, y_lineA, y_lineB, y_seens, y_seenIn, y_seenYards, y_seenNear, .ref b_s, y_aside, y_before, y_marked, y_undone, y_isLaid, .int y_done, .int y_snowNow, .int y_cameNow, .int y_cookThen, .int y_tasteThen, y_places, y_comesAt, y_yardsIn, .long y_g]), (b_supper, kI k 8 c_supper), (b_s, kI k 46 c_s)] sz)) (va_Qv (fun (uu : Unit) => True) (fun uu zt => kz_B D (va_A [(y, kO 9 [.int y_thrown, .int y_taped, y_tape, .int y_size, .int y_place, .int y_begin, .int y_token, .long y_word, .int y_told, .int y_wrong, .ref b_supper, y_guestName, y_kind, y_offTold, y_pace, y_cooks, y_snow, y_lineFrom, y_lineTo, y_codes, .int y_code, .int y_toldLines, y_opened, y_compared, y_kept, y_keptBy, y_ahead, y_against, y_sum, y_sumBy, y_term, y_termBy, y_byNot, y_valueOf, .int y_given, y_lines, y_lineWhat, y_lineA, y_lineB, y_seens, y_seenIn, y_seenYards, y_seenNear, .ref b_s, y_aside, y_before, y_marked, y_undone, y_isLaid, .int y_done, .int y_snowNow, .int y_cameNow, .int y_cookThen, .int y_tasteThen, y_places, y_comesAt, y_yardsIn, .long y_g]), (b_supper, kI k 8 c_supper), (b_s, kI k 46 c_s)] sz) [(y, kO 9 [.int y_thrown, .int y_taped, y_tape, .int y_size, .int y_place, .int y_begin, .int y_token, .long y_word, .int y_told, .int y_wrong, .ref b_supper, y_guestName, y_kind, y_offTold, y_pace, y_cooks, y_snow, y_lineFrom, y_lineTo, y_codes, .int y_code, .int y_toldLines, y_opened, y_compared, y_kept, y_keptBy, y_ahead, y_against, y_sum, y_sumBy, y_term, y_termBy, y_byNot, y_valueOf, .int y_given, y_lines, y_lineWhat, y_lineA, y_lineB, y_seens, y_seenIn, y_seenYards, y_seenNear, .ref b_s, y_aside, y_before, y_marked, y_undone, y_isLaid, .int y_done, .int y_snowNow, .int 0, .int y_cookThen, .int y_tasteThen, y_places, y_comesAt, y_yardsIn, .long y_g]), (b_supper, kI k 8 c_supper), (b_s, kI k 46 (upd c_s (Int32.toNatClampNeg 1) (c_s (Int32.toNatClampNeg 1) + 1)))] zt) (va_A [(y, kO 9 [.int y_thrown, .int y_taped, y_tape, .int y_size, .int y_place, .int y_begin, .int y_token, .long y_word, .int y_told, .int y_wrong, .ref b_supper, y_guestName, y_kind, y_offTold, y_pace, y_cooks, y_snow, y_lineFrom, y_lineTo, y_codes, .int y_code, .int y_toldLines, y_opened, y_compared, y_kept, y_keptBy, y_ahead, y_against, y_sum, y_sumBy, y_term, y_termBy, y_byNot, y_valueOf, .int y_given, y_lines, y_lineWhat, y_lineA, y_lineB, y_seens, y_seenIn, y_seenYards, y_seenNear, .ref b_s, y_aside, y_before, y_marked, y_undone, y_isLaid, .int y_done, .int y_snowNow, .int y_cameNow, .int y_cookThen, .int y_tasteThen, y_places, y_comesAt, y_yardsIn, .long y_g]), (b_supper, kI k 8 c_supper), (b_s, kI k 46 c_s)] sz)) 0 0 (va_A [(y, kO 9 [.int y_thrown, .int y_taped, y_tape, .int y_size, .int y_place, .int y_begin, .int y_token, .long y_word, .int y_told, .int y_wrong, .ref b_supper, y_guestName, y_kind, y_offTold, y_pace, y_cooks, y_snow, y_lineFrom, y_lineTo, y_codes, .int y_code, .int y_toldLines, y_opened, y_compared, y_kept, y_keptBy, y_ahead, y_against, y_sum, y_sumBy, y_term, y_termBy, y_byNot, y_valueOf, .int y_given, y_lines, y_lineWhat, y_lineA, y_lineB, y_seens, y_seenIn, y_seenYards, y_seenNear, .ref b_s, y_aside, y_before, y_marked, y_undone, y_isLaid, .int y_done, .int y_snowNow, .int y_cameNow, .int y_cookThen, .int y_tasteThen, y_places, y_comesAt, y_yardsIn, .long y_g]), (b_supper, kI k 8 c_supper), (b_s, kI k 46 c_s)] sz) := by
  refine Met.ofW (cc := cX9_livesMinute) (maxL := 4) (ret := none) (by decide) rfl ?_
  intro p e s m args below meth c s₁ B hml hv
  obtain ⟨hav, hsz, hP, hK, hD0, hE⟩ := hv
  have hx := B.exec
  have hb := B.bytes
  have hr := B.returns
  have hts := atoms_spec (ws := wsX9_livesMinute) B.pre
  have hown : s.vm.findClass RX9 = some m.cls := findClass_of_methodNamed B.named
  have hlocks := B.notSynchronized
  have hi9 : ∀ w ∈ u_ws RX9 TX9 58, w ∈ wsX9_livesMinute := by decide +kernel
  have lf13 := hts (.fieldLink RX9 13 "LastCookModel" "supper" "[I") (by decide +kernel)
  subst hsz
  have hD := hD0.self (sz := s.heap.size)
  generalize hAe : va_A [(y, kO 9 [.int y_thrown, .int y_taped, y_tape, .int y_size, .int y_place, .int y_begin, .int y_token, .long y_word, .int y_told, .int y_wrong, .ref b_supper, y_guestName, y_kind, y_offTold, y_pace, y_cooks, y_snow, y_lineFrom, y_lineTo, y_codes, .int y_code, .int y_toldLines, y_opened, y_compared, y_kept, y_keptBy, y_ahead, y_against, y_sum, y_sumBy, y_term, y_termBy, y_byNot, y_valueOf, .int y_given, y_lines, y_lineWhat, y_lineA, y_lineB, y_seens, y_seenIn, y_seenYards, y_seenNear, .ref b_s, y_aside, y_before, y_marked, y_undone, y_isLaid, .int y_done, .int y_snowNow, .int y_cameNow, .int y_cookThen, .int y_tasteThen, y_places, y_comesAt, y_yardsIn, .long y_g]), (b_supper, kI k 8 c_supper), (b_s, kI k 46 c_s)] s.heap.size = A at hD ⊢
  have hA : ∀ q : Nat, s.heap.size ≤ q → A q := fun q h => by rw [← hAe]; exact Or.inr h
  have hS : va_S A s.heap s.heap [] := va_S.rf
  have hl := lv_entry ([.ref y]) (n := 4) (Nat.le_of_ble_eq_true rfl)
  rw [show entryFrame m args 4 = entryFrame m ([.ref y] : List Value).toArray 4 by rw [hav], lg_entry_eq]
  generalize (lg_sl ([.ref y]) ++ List.replicate (4 - (lg_sl ([.ref y])).length) Slot.unset).toArray = ls at hl ⊢
  have hl : lv_has ls 4 [(0, .ref y)] := hl
  obtain ⟨R, hR⟩ : ∃ R, R = (headSpec wsX9_livesMinute ({ frames := 2, cells := 0, slots := 0, locals := 140 } : Room)).room := ⟨_, rfl⟩
  rw [← hR]
  generalize hQ : MQ below _ args s 0 0 A = Q
  replace hQ := hQ.symm
  obtain ⟨H, hH⟩ : ∃ H, H = s.heap := ⟨_, rfl⟩
  rw [← hH] at hP ⊢
  have hS : va_S A s.heap H [] := by rw [hH]; exact hS
  refine lv_aload_n hx hb dX9_livesMinute_0 rfl (lv_at hl 0 rfl) ?_
  refine va_get (D := D) (ci := 9) (v := .ref b_supper) (C := RX9) (T := TX9) (N := 58) hx hb hts hi9 hown hK hP 0 rfl rfl 10 (by decide) lf13 (fun _ h9 => h9) rfl dX9_livesMinute_1 ?_
  refine lv_iconst (v := 0) hx hb dX9_livesMinute_4 (by decide) ?_
  refine va_iald hx hb hK hP 1 0 rfl rfl (vp_in_iff.mpr (by decide)) dX9_livesMinute_5 ?_
  refine lv_topi (fun x1 ex1 => ?_)
  obtain rfl : x1 = 0 := ex1.trans (show _ = _ from hs0)
  refine lv_if_ne (tgt := 14) hx hb dX9_livesMinute_6 (by decide) (fun c_2 => absurd (by decide) c_2) (fun c_2 => ?_)
  refine lv_bipush (v := 7) hx hb dX9_livesMinute_9 (by decide) ?_
  refine lv_goto (tgt := 20) hx hb dX9_livesMinute_11 (by decide) ?_
  refine lv_istore_n (lv' := [(1, .int 7), (0, .ref y)]) hx hb dX9_livesMinute_20 rfl hl (by decide) rfl (fun ls hl => ?_)
  refine lv_iload_n hx hb dX9_livesMinute_21 rfl (lv_at hl 0 rfl) ?_
  refine lv_iconst (v := 3) hx hb dX9_livesMinute_22 (by decide) ?_
  refine lv_icmp_ge (tgt := 142) hx hb dX9_livesMinute_23 (by decide) (fun c_3 => ?_) (fun c_3 => absurd (by decide) c_3)
  refine lv_aload_n hx hb dX9_livesMinute_142 rfl (lv_at hl 1 rfl) ?_
  refine kz_Vi (As := []) (rest := []) (wc := [(y, kO 9 [.int y_thrown, .int y_taped, y_tape, .int y_size, .int y_place, .int y_begin, .int y_token, .long y_word, .int y_told, .int y_wrong, .ref b_supper, y_guestName, y_kind, y_offTold, y_pace, y_cooks, y_snow, y_lineFrom, y_lineTo, y_codes, .int y_code, .int y_toldLines, y_opened, y_compared, y_kept, y_keptBy, y_ahead, y_against, y_sum, y_sumBy, y_term, y_termBy, y_byNot, y_valueOf, .int y_given, y_lines, y_lineWhat, y_lineA, y_lineB, y_seens, y_seenIn, y_seenYards, y_seenNear, .ref b_s, y_aside, y_before, y_marked, y_undone, y_isLaid, .int y_done, .int y_snowNow, .int y_cameNow, .int y_cookThen, .int y_tasteThen, y_places, y_comesAt, y_yardsIn, .long y_g]), (b_supper, kI k 8 c_supper), (b_s, kI k 46 c_s)]) (wr := []) ⟨hx, hb, hml, hown, hts⟩ hK hE hP hD hS hA (mX9_passes l D k H.size y y_thrown y_taped y_tape y_size y_place y_begin y_token y_word y_told y_wrong b_supper y_guestName y_kind y_offTold y_pace y_cooks y_snow y_lineFrom y_lineTo y_codes y_code y_toldLines y_opened y_compared y_kept y_keptBy y_ahead y_against y_sum y_sumBy y_term y_termBy y_byNot y_valueOf y_given y_lines y_lineWhat y_lineA y_lineB y_seens y_seenIn y_seenYards y_seenNear b_s y_aside y_before y_marked y_undone y_isLaid y_done y_snowNow y_cameNow y_cookThen y_tasteThen y_places y_comesAt y_yardsIn y_g c_supper c_s hs0) (cwV 0 hts gX9_livesMinute_X9_passes rfl rfl rfl (by decide +kernel) (by rw [hR]; exact ⟨Nat.le_of_ble_eq_true rfl, Nat.le_of_ble_eq_true rfl⟩)) [0, 1, 2] [] rfl rfl (by decide) (by decide) (by decide) 0 rfl rfl rfl hl.1 rfl (Nat.le_of_ble_eq_true rfl) dX9_livesMinute_143 (by rw [hR]; exact ⟨Nat.le_of_ble_eq_true rfl, Nat.le_of_ble_eq_true rfl⟩) (fun r4 u4 H locs hw4 hP hD hS => ?_)
  try dsimp only at hw4
  obtain rfl : r4 = (-1) := hw4
  have hP : va_P D vwCl [(y, kO 9 [.int y_thrown, .int y_taped, y_tape, .int y_size, .int y_place, .int y_begin, .int y_token, .long y_word, .int y_told, .int y_wrong, .ref b_supper, y_guestName, y_kind, y_offTold, y_pace, y_cooks, y_snow, y_lineFrom, y_lineTo, y_codes, .int y_code, .int y_toldLines, y_opened, y_compared, y_kept, y_keptBy, y_ahead, y_against, y_sum, y_sumBy, y_term, y_termBy, y_byNot, y_valueOf, .int y_given, y_lines, y_lineWhat, y_lineA, y_lineB, y_seens, y_seenIn, y_seenYards, y_seenNear, .ref b_s, y_aside, y_before, y_marked, y_undone, y_isLaid, .int y_done, .int y_snowNow, .int 0, .int y_cookThen, .int y_tasteThen, y_places, y_comesAt, y_yardsIn, .long y_g]), (b_supper, kI k 8 c_supper), (b_s, kI k 46 (upd c_s (Int32.toNatClampNeg 1) (c_s (Int32.toNatClampNeg 1) + 1)))] H := hP
  have hD : va_D A [(y, kO 9 [.int y_thrown, .int y_taped, y_tape, .int y_size, .int y_place, .int y_begin, .int y_token, .long y_word, .int y_told, .int y_wrong, .ref b_supper, y_guestName, y_kind, y_offTold, y_pace, y_cooks, y_snow, y_lineFrom, y_lineTo, y_codes, .int y_code, .int y_toldLines, y_opened, y_compared, y_kept, y_keptBy, y_ahead, y_against, y_sum, y_sumBy, y_term, y_termBy, y_byNot, y_valueOf, .int y_given, y_lines, y_lineWhat, y_lineA, y_lineB, y_seens, y_seenIn, y_seenYards, y_seenNear, .ref b_s, y_aside, y_before, y_marked, y_undone, y_isLaid, .int y_done, .int y_snowNow, .int 0, .int y_cookThen, .int y_tasteThen, y_places, y_comesAt, y_yardsIn, .long y_g]), (b_supper, kI k 8 c_supper), (b_s, kI k 46 (upd c_s (Int32.toNatClampNeg 1) (c_s (Int32.toNatClampNeg 1) + 1)))] := hD
  refine lv_pop hx hb dX9_livesMinute_146 rfl ?_
  rw [hQ]
  have hP9 := hP.sub (ws' := [(y, kO 9 [.int y_thrown, .int y_taped, y_tape, .int y_size, .int y_place, .int y_begin, .int y_token, .long y_word, .int y_told, .int y_wrong, .ref b_supper, y_guestName, y_kind, y_offTold, y_pace, y_cooks, y_snow, y_lineFrom, y_lineTo, y_codes, .int y_code, .int y_toldLines, y_opened, y_compared, y_kept, y_keptBy, y_ahead, y_against, y_sum, y_sumBy, y_term, y_termBy, y_byNot, y_valueOf, .int y_given, y_lines, y_lineWhat, y_lineA, y_lineB, y_seens, y_seenIn, y_seenYards, y_seenNear, .ref b_s, y_aside, y_before, y_marked, y_undone, y_isLaid, .int y_done, .int y_snowNow, .int 0, .int y_cookThen, .int y_tasteThen, y_places, y_comesAt, y_yardsIn, .long y_g]), (b_supper, kI k 8 c_supper), (b_s, kI k 46 (upd c_s (Int32.toNatClampNeg 1) (c_s (Int32.toNatClampNeg 1) + 1)))]) [0, 1, 2] rfl
  have hD9 := hD.sub (ws' := [(y, kO 9 [.int y_thrown, .int y_taped, y_tape, .int y_size, .int y_place, .int y_begin, .int y_token, .long y_word, .int y_told, .int y_wrong, .ref b_supper, y_guestName, y_kind, y_offTold, y_pace, y_cooks, y_snow, y_lineFrom, y_lineTo, y_codes, .int y_code, .int y_toldLines, y_opened, y_compared, y_kept, y_keptBy, y_ahead, y_against, y_sum, y_sumBy, y_term, y_termBy, y_byNot, y_valueOf, .int y_given, y_lines, y_lineWhat, y_lineA, y_lineB, y_seens, y_seenIn, y_seenYards, y_seenNear, .ref b_s, y_aside, y_before, y_marked, y_undone, y_isLaid, .int y_done, .int y_snowNow, .int 0, .int y_cookThen, .int y_tasteThen, y_places, y_comesAt, y_yardsIn, .long y_g]), (b_supper, kI k 8 c_supper), (b_s, kI k 46 (upd c_s (Int32.toNatClampNeg 1) (c_s (Int32.toNatClampNeg 1) + 1)))]) [0, 1, 2] (by decide) rfl
  exact W.vret hx hb hr (fun zt ht hW => ⟨⟨(), rfl, trivial, by rw [ht]; exact hP9, hD9⟩, hS.F ht⟩) hS.2.2 dX9_livesMinute_147
theorem dX9_years_0 : decode cX9_years 0 = .ok (.aload_n 0, 1) := by decide +kernel
theorem dX9_years_1 : decode cX9_years 1 = .ok (.iconst 0, 1) := by decide +kernel
theorem dX9_years_2 : decode cX9_years 2 = .ok (.putfield 143, 3) := by decide +kernel
theorem dX9_years_5 : decode cX9_years 5 = .ok (.iload_n 1, 1) := by decide +kernel
theorem dX9_years_6 : decode cX9_years 6 = .ok (.iconst 0, 1) := by decide +kernel
theorem dX9_years_7 : decode cX9_years 7 = .ok (.sipush 9999, 3) := by decide +kernel
theorem dX9_years_10 : decode cX9_years 10 = .ok (.invokestatic 260, 3) := by decide +kernel
theorem dX9_years_13 : decode cX9_years 13 = .ok (.ifCond .eq 22, 3) := by decide +kernel
theorem dX9_years_16 : decode cX9_years 16 = .ok (.iload_n 2, 1) := by decide +kernel
theorem dX9_years_17 : decode cX9_years 17 = .ok (.iconst 1, 1) := by decide +kernel
theorem dX9_years_18 : decode cX9_years 18 = .ok (.bipush 99, 2) := by decide +kernel
theorem dX9_years_20 : decode cX9_years 20 = .ok (.invokestatic 260, 3) := by decide +kernel
theorem dX9_years_23 : decode cX9_years 23 = .ok (.ifCond .eq 12, 3) := by decide +kernel
theorem dX9_years_26 : decode cX9_years 26 = .ok (.iload_n 3, 1) := by decide +kernel
theorem dX9_years_27 : decode cX9_years 27 = .ok (.iconst 0, 1) := by decide +kernel
theorem dX9_years_28 : decode cX9_years 28 = .ok (.iconst 2, 1) := by decide +kernel
theorem dX9_years_29 : decode cX9_years 29 = .ok (.invokestatic 260, 3) := by decide +kernel
theorem dX9_years_32 : decode cX9_years 32 = .ok (.ifCond .ne 7, 3) := by decide +kernel
theorem dX9_years_35 : decode cX9_years 35 = .ok (.ldc_w 452, 3) := by decide +kernel
theorem dX9_years_38 : decode cX9_years 38 = .ok (.ireturn, 1) := by decide +kernel
theorem dX9_years_39 : decode cX9_years 39 = .ok (.aload_n 0, 1) := by decide +kernel
theorem dX9_years_40 : decode cX9_years 40 = .ok (.iload_n 1, 1) := by decide +kernel
theorem dX9_years_41 : decode cX9_years 41 = .ok (.i2l, 1) := by decide +kernel
theorem dX9_years_42 : decode cX9_years 42 = .ok (.putfield 438, 3) := by decide +kernel
theorem dX9_years_45 : decode cX9_years 45 = .ok (.aload_n 0, 1) := by decide +kernel
theorem dX9_years_46 : decode cX9_years 46 = .ok (.getfield 105, 3) := by decide +kernel
theorem dX9_years_49 : decode cX9_years 49 = .ok (.iconst 0, 1) := by decide +kernel
theorem dX9_years_50 : decode cX9_years 50 = .ok (.aload_n 0, 1) := by decide +kernel
theorem dX9_years_51 : decode cX9_years 51 = .ok (.getfield 108, 3) := by decide +kernel
theorem dX9_years_54 : decode cX9_years 54 = .ok (.iconst 0, 1) := by decide +kernel
theorem dX9_years_55 : decode cX9_years 55 = .ok (.invokestatic 384, 3) := by decide +kernel
theorem dX9_years_58 : decode cX9_years 58 = .ok (.iconst 0, 1) := by decide +kernel
theorem dX9_years_59 : decode cX9_years 59 = .ok (.istore 4, 2) := by decide +kernel
theorem dX9_years_61 : decode cX9_years 61 = .ok (.iload 4, 2) := by decide +kernel
theorem dX9_years_63 : decode cX9_years 63 = .ok (.iload_n 2, 1) := by decide +kernel
theorem dX9_years_64 : decode cX9_years 64 = .ok (.if_icmp .ge 13, 3) := by decide +kernel
theorem dX9_years_67 : decode cX9_years 67 = .ok (.aload_n 0, 1) := by decide +kernel
theorem dX9_years_68 : decode cX9_years 68 = .ok (.invokevirtual 453, 3) := by decide +kernel
theorem dX9_years_71 : decode cX9_years 71 = .ok (.iinc 4 1, 3) := by decide +kernel
theorem dX9_years_74 : decode cX9_years 74 = .ok (.goto (-13), 3) := by decide +kernel
theorem dX9_years_77 : decode cX9_years 77 = .ok (.aload_n 0, 1) := by decide +kernel
theorem dX9_years_78 : decode cX9_years 78 = .ok (.getfield 105, 3) := by decide +kernel
theorem dX9_years_81 : decode cX9_years 81 = .ok (.iconst 3, 1) := by decide +kernel
theorem dX9_years_82 : decode cX9_years 82 = .ok (.iaload, 1) := by decide +kernel
theorem dX9_years_83 : decode cX9_years 83 = .ok (.aload_n 0, 1) := by decide +kernel
theorem dX9_years_84 : decode cX9_years 84 = .ok (.getfield 108, 3) := by decide +kernel
theorem dX9_years_87 : decode cX9_years 87 = .ok (.iconst 3, 1) := by decide +kernel
theorem dX9_years_88 : decode cX9_years 88 = .ok (.iaload, 1) := by decide +kernel
theorem dX9_years_89 : decode cX9_years 89 = .ok (.isub, 1) := by decide +kernel
theorem dX9_years_90 : decode cX9_years 90 = .ok (.istore 4, 2) := by decide +kernel
theorem dX9_years_92 : decode cX9_years 92 = .ok (.aload_n 0, 1) := by decide +kernel
theorem dX9_years_93 : decode cX9_years 93 = .ok (.getfield 105, 3) := by decide +kernel
theorem dX9_years_96 : decode cX9_years 96 = .ok (.iconst 2, 1) := by decide +kernel
theorem dX9_years_97 : decode cX9_years 97 = .ok (.iaload, 1) := by decide +kernel
theorem dX9_years_98 : decode cX9_years 98 = .ok (.aload_n 0, 1) := by decide +kernel
theorem dX9_years_99 : decode cX9_years 99 = .ok (.getfield 108, 3) := by decide +kernel
theorem dX9_years_102 : decode cX9_years 102 = .ok (.iconst 2, 1) := by decide +kernel
theorem dX9_years_103 : decode cX9_years 103 = .ok (.iaload, 1) := by decide +kernel
theorem dX9_years_104 : decode cX9_years 104 = .ok (.isub, 1) := by decide +kernel
theorem dX9_years_105 : decode cX9_years 105 = .ok (.istore 5, 2) := by decide +kernel
theorem dX9_years_107 : decode cX9_years 107 = .ok (.aload_n 0, 1) := by decide +kernel
theorem dX9_years_108 : decode cX9_years 108 = .ok (.invokevirtual 363, 3) := by decide +kernel
theorem dX9_years_111 : decode cX9_years 111 = .ok (.istore 6, 2) := by decide +kernel
theorem dX9_years_113 : decode cX9_years 113 = .ok (.aload_n 0, 1) := by decide +kernel
theorem dX9_years_114 : decode cX9_years 114 = .ok (.getfield 108, 3) := by decide +kernel
theorem dX9_years_117 : decode cX9_years 117 = .ok (.iconst 0, 1) := by decide +kernel
theorem dX9_years_118 : decode cX9_years 118 = .ok (.aload_n 0, 1) := by decide +kernel
theorem dX9_years_119 : decode cX9_years 119 = .ok (.getfield 105, 3) := by decide +kernel
theorem dX9_years_122 : decode cX9_years 122 = .ok (.iconst 0, 1) := by decide +kernel
theorem dX9_years_123 : decode cX9_years 123 = .ok (.invokestatic 384, 3) := by decide +kernel
theorem dX9_years_126 : decode cX9_years 126 = .ok (.iload_n 3, 1) := by decide +kernel
theorem dX9_years_127 : decode cX9_years 127 = .ok (.ifCond .ne 8, 3) := by decide +kernel
theorem dX9_years_130 : decode cX9_years 130 = .ok (.iload 4, 2) := by decide +kernel
theorem dX9_years_132 : decode cX9_years 132 = .ok (.goto 15, 3) := by decide +kernel
theorem dX9_years_135 : decode cX9_years 135 = .ok (.iload_n 3, 1) := by decide +kernel
theorem dX9_years_136 : decode cX9_years 136 = .ok (.iconst 1, 1) := by decide +kernel
theorem dX9_years_137 : decode cX9_years 137 = .ok (.if_icmp .ne 8, 3) := by decide +kernel
theorem dX9_years_140 : decode cX9_years 140 = .ok (.iload 5, 2) := by decide +kernel
theorem dX9_years_142 : decode cX9_years 142 = .ok (.goto 5, 3) := by decide +kernel
theorem dX9_years_145 : decode cX9_years 145 = .ok (.iload 6, 2) := by decide +kernel
theorem dX9_years_147 : decode cX9_years 147 = .ok (.ireturn, 1) := by decide +kernel
set_option maxRecDepth 20000 in
theorem ggX9_years_X9_within : GoodIn wsX9_years wsX9_within := goodIn_r _ [9] rfl (by decide +kernel)
set_option maxRecDepth 20000 in
theorem gX9_years_X9_within : GoodIn wsX9_years (va_wsS RX9 260 yX9_within wsX9_within) := goodIn_app (goodIn_of _ (by decide +kernel)) ggX9_years_X9_within
set_option maxRecDepth 20000 in
theorem ggX9_years_X9_copies : GoodIn wsX9_years wsX9_copies := goodIn_r _ [12] rfl (by decide +kernel)
set_option maxRecDepth 20000 in
theorem gX9_years_X9_copies : GoodIn wsX9_years (va_wsS RX9 384 yX9_copies wsX9_copies) := goodIn_app (goodIn_of _ (by decide +kernel)) ggX9_years_X9_copies
set_option maxRecDepth 20000 in
theorem ggX9_years_X9_onRoad : GoodIn wsX9_years wsX9_onRoad := goodIn_r _ [63, 17, 26, 27, 28, 8, 29, 4, 139, 140, 141, 142, 143, 144, 145, 146, 147, 148, 149, 150, 151, 152, 153, 154, 155, 156, 157, 158, 159, 160, 161, 162, 163, 164, 165, 166, 167, 168, 169, 170, 171, 172, 173, 174, 175, 176, 177, 178, 179, 180, 181, 182, 183, 184, 185, 186, 187, 188, 189, 190, 191, 192, 193, 194, 195, 196] rfl (by decide +kernel)
set_option maxRecDepth 20000 in
theorem gX9_years_X9_onRoad : GoodIn wsX9_years (wsV RX9 363 RX9 yX9_onRoad wsX9_onRoad) := goodIn_app (goodIn_of _ (by decide +kernel)) ggX9_years_X9_onRoad
set_option maxRecDepth 20000 in
theorem ggX9_years_X9_livesMinute : GoodIn wsX9_years wsX9_livesMinute := goodIn_r _ [16, 17, 4, 18, 19, 20, 8, 21, 3, 22, 23, 24, 25, 26, 27, 28, 29, 30, 31, 32, 33, 34, 35, 36, 37, 38, 39, 40, 41, 42, 43, 44, 45, 46, 47, 48, 49, 50, 51, 52, 53, 54, 55, 56, 57, 58, 59, 60, 61, 62, 63, 64, 65, 66, 67, 68, 69, 70, 71, 72, 73, 74, 75, 76, 77, 78, 79, 80, 81, 82, 83, 84, 85, 86, 87, 88, 89, 90, 91, 92, 93, 94, 95, 96, 97, 98, 99, 100, 101, 102, 103, 104, 105, 106, 107, 108, 109, 110, 111, 112, 113, 114, 115, 116, 117, 118, 119, 120, 121, 122, 123, 124, 125, 126, 127, 128, 129, 130, 131, 132, 133, 134, 135, 136, 137, 138, 139, 140, 141, 142, 143, 144, 145, 146, 147, 148, 149, 150, 151, 152, 153, 154, 155, 156, 157, 158, 159, 160, 161, 162, 163, 164, 165, 166, 167, 168, 169, 170, 171, 172, 173, 174, 175, 176, 177, 178, 179, 180, 181, 182, 183, 184, 185, 186, 187, 188, 189, 190, 191, 192, 193, 194, 195, 196] rfl (by decide +kernel)
set_option maxRecDepth 20000 in
theorem gX9_years_X9_livesMinute : GoodIn wsX9_years (wsV RX9 453 RX9 yX9_livesMinute wsX9_livesMinute) := goodIn_app (goodIn_of _ (by decide +kernel)) ggX9_years_X9_livesMinute
set_option maxHeartbeats 4000000 in
set_option maxRecDepth 100000 in
theorem mX9_years (l : Launch) (D : va_G) (k : Nat → ClassId) (sz : Nat) (y : Nat) (q1 : Int32) (q2 : Int32) (q3 : Int32) (y_thrown : Int32) (y_taped : Int32) (y_tape : Value) (y_size : Int32) (y_place : Int32) (y_begin : Int32) (y_token : Int32) (y_word : Int64) (y_told : Int32) (y_wrong : Int32) (b_supper : Nat) (y_guestName : Value) (y_kind : Value) (y_offTold : Value) (y_pace : Value) (y_cooks : Value) (y_snow : Value) (y_lineFrom : Value) (y_lineTo : Value) (y_codes : Value) (y_code : Int32) (y_toldLines : Int32) (y_opened : Value) (y_compared : Value) (y_kept : Value) (y_keptBy : Value) (y_ahead : Value) (y_against : Value) (y_sum : Value) (y_sumBy : Value) (y_term : Value) (y_termBy : Value) (y_byNot : Value) (y_valueOf : Value) (y_given : Int32) (y_lines : Value) (y_lineWhat : Value) (y_lineA : Value) (y_lineB : Value) (y_seens : Value) (y_seenIn : Value) (y_seenYards : Value) (y_seenNear : Value) (b_s : Nat) (b_aside : Nat) (y_before : Value) (y_marked : Value) (y_undone : Value) (y_isLaid : Value) (y_done : Int32) (y_snowNow : Int32) (y_cameNow : Int32) (y_cookThen : Int32) (y_tasteThen : Int32) (y_places : Value) (y_comesAt : Value) (y_yardsIn : Value) (y_g : Int64) (c_supper : Nat → Int32) (c_s : Nat → Int32) (c_aside : Nat → Int32) (hs0 : c_supper 0 = 0) (hz2 : c_s 2 = 0) (hz3 : c_s 3 = 0) : Met l yX9_years wsX9_years ({ frames := 3, cells := 0, slots := 0, locals := 210 }) (va_Pc [.ref y, .int q1, .int q2, .int q3] (kz_Pre D k [(y, kO 9 [.int y_thrown, .int y_taped, y_tape, .int y_size, .int y_place, .int y_begin, .int y_token, .long y_word, .int y_told, .int y_wrong, .ref b_supper, y_guestName, y_kind, y_offTold, y_pace, y_cooks, y_snow, y_lineFrom, y_lineTo, y_codes, .int y_code, .int y_toldLines, y_opened, y_compared, y_kept, y_keptBy, y_ahead, y_against, y_sum, y_sumBy, y_term, y_termBy, y_byNot, y_valueOf, .int y_given, y_lines, y_lineWhat, y_lineA, y_lineB, y_seens, y_seenIn, y_seenYards, y_seenNear, .ref b_s, .ref b_aside, y_before, y_marked, y_undone, y_isLaid, .int y_done, .int y_snowNow, .int y_cameNow, .int y_cookThen, .int y_tasteThen, y_places, y_comesAt, y_yardsIn, .long y_g]), (b_supper, kI k 8 c_supper), (b_s, kI k 46 c_s), (b_aside, kI k 46 c_aside)] sz)) (va_Qi (fun (rr : Int32) (uu : Unit) => rr = aY q1 q2 q3) (fun uu zt => kz_B D (va_A [(y, kO 9 [.int y_thrown, .int y_taped, y_tape, .int y_size, .int y_place, .int y_begin, .int y_token, .long y_word, .int y_told, .int y_wrong, .ref b_supper, y_guestName, y_kind, y_offTold, y_pace, y_cooks, y_snow, y_lineFrom, y_lineTo, y_codes, .int y_code, .int y_toldLines, y_opened, y_compared, y_kept, y_keptBy, y_ahead, y_against, y_sum, y_sumBy, y_term, y_termBy, y_byNot, y_valueOf, .int y_given, y_lines, y_lineWhat, y_lineA, y_lineB, y_seens, y_seenIn, y_seenYards, y_seenNear, .ref b_s, .ref b_aside, y_before, y_marked, y_undone, y_isLaid, .int y_done, .int y_snowNow, .int y_cameNow, .int y_cookThen, .int y_tasteThen, y_places, y_comesAt, y_yardsIn, .long y_g]), (b_supper, kI k 8 c_supper), (b_s, kI k 46 c_s), (b_aside, kI k 46 c_aside)] sz) [] zt) (va_A [(y, kO 9 [.int y_thrown, .int y_taped, y_tape, .int y_size, .int y_place, .int y_begin, .int y_token, .long y_word, .int y_told, .int y_wrong, .ref b_supper, y_guestName, y_kind, y_offTold, y_pace, y_cooks, y_snow, y_lineFrom, y_lineTo, y_codes, .int y_code, .int y_toldLines, y_opened, y_compared, y_kept, y_keptBy, y_ahead, y_against, y_sum, y_sumBy, y_term, y_termBy, y_byNot, y_valueOf, .int y_given, y_lines, y_lineWhat, y_lineA, y_lineB, y_seens, y_seenIn, y_seenYards, y_seenNear, .ref b_s, .ref b_aside, y_before, y_marked, y_undone, y_isLaid, .int y_done, .int y_snowNow, .int y_cameNow, .int y_cookThen, .int y_tasteThen, y_places, y_comesAt, y_yardsIn, .long y_g]), (b_supper, kI k 8 c_supper), (b_s, kI k 46 c_s), (b_aside, kI k 46 c_aside)] sz)) 0 0 (va_A [(y, kO 9 [.int y_thrown, .int y_taped, y_tape, .int y_size, .int y_place, .int y_begin, .int y_token, .long y_word, .int y_told, .int y_wrong, .ref b_supper, y_guestName, y_kind, y_offTold, y_pace, y_cooks, y_snow, y_lineFrom, y_lineTo, y_codes, .int y_code, .int y_toldLines, y_opened, y_compared, y_kept, y_keptBy, y_ahead, y_against, y_sum, y_sumBy, y_term, y_termBy, y_byNot, y_valueOf, .int y_given, y_lines, y_lineWhat, y_lineA, y_lineB, y_seens, y_seenIn, y_seenYards, y_seenNear, .ref b_s, .ref b_aside, y_before, y_marked, y_undone, y_isLaid, .int y_done, .int y_snowNow, .int y_cameNow, .int y_cookThen, .int y_tasteThen, y_places, y_comesAt, y_yardsIn, .long y_g]), (b_supper, kI k 8 c_supper), (b_s, kI k 46 c_s), (b_aside, kI k 46 c_aside)] sz) := by
  refine Met.ofW (cc := cX9_years) (maxL := 7) (ret := (some .int)) (by decide) rfl ?_
  intro p e s m args below meth c s₁ B hml hv
  obtain ⟨hav, hsz, hP, hK, hD0, hE⟩ := hv
  have hx := B.exec
  have hb := B.bytes
  have hr := B.returns
  have hts := atoms_spec (ws := wsX9_years) B.pre
  have hown : s.vm.findClass RX9 = some m.cls := findClass_of_methodNamed B.named
  have hlocks := B.notSynchronized
  have hi9 : ∀ w ∈ u_ws RX9 TX9 58, w ∈ wsX9_years := by decide +kernel
  have lf143 := hts (.fieldLink RX9 143 "LastCookModel" "thrown" "I") (by decide +kernel)
  have lc452 := hts (.constant RX9 452 (-100000)) (by decide +kernel)
  have lf438 := hts (.fieldLink RX9 438 "LastCookModel" "g" "J") (by decide +kernel)
  have lf105 := hts (.fieldLink RX9 105 "LastCookModel" "s" "[I") (by decide +kernel)
  have lf108 := hts (.fieldLink RX9 108 "LastCookModel" "aside" "[I") (by decide +kernel)
  subst hsz
  have hD := hD0.self (sz := s.heap.size)
  generalize hAe : va_A [(y, kO 9 [.int y_thrown, .int y_taped, y_tape, .int y_size, .int y_place, .int y_begin, .int y_token, .long y_word, .int y_told, .int y_wrong, .ref b_supper, y_guestName, y_kind, y_offTold, y_pace, y_cooks, y_snow, y_lineFrom, y_lineTo, y_codes, .int y_code, .int y_toldLines, y_opened, y_compared, y_kept, y_keptBy, y_ahead, y_against, y_sum, y_sumBy, y_term, y_termBy, y_byNot, y_valueOf, .int y_given, y_lines, y_lineWhat, y_lineA, y_lineB, y_seens, y_seenIn, y_seenYards, y_seenNear, .ref b_s, .ref b_aside, y_before, y_marked, y_undone, y_isLaid, .int y_done, .int y_snowNow, .int y_cameNow, .int y_cookThen, .int y_tasteThen, y_places, y_comesAt, y_yardsIn, .long y_g]), (b_supper, kI k 8 c_supper), (b_s, kI k 46 c_s), (b_aside, kI k 46 c_aside)] s.heap.size = A at hD ⊢
  have hA : ∀ q : Nat, s.heap.size ≤ q → A q := fun q h => by rw [← hAe]; exact Or.inr h
  have hS : va_S A s.heap s.heap [] := va_S.rf
  have hl := lv_entry ([.ref y, .int q1, .int q2, .int q3]) (n := 7) (Nat.le_of_ble_eq_true rfl)
  rw [show entryFrame m args 7 = entryFrame m ([.ref y, .int q1, .int q2, .int q3] : List Value).toArray 7 by rw [hav], lg_entry_eq]
  generalize (lg_sl ([.ref y, .int q1, .int q2, .int q3]) ++ List.replicate (7 - (lg_sl ([.ref y, .int q1, .int q2, .int q3])).length) Slot.unset).toArray = ls at hl ⊢
  have hl : lv_has ls 7 [(0, .ref y), (1, .int q1), (2, .int q2), (3, .int q3)] := hl
  obtain ⟨R, hR⟩ : ∃ R, R = (headSpec wsX9_years ({ frames := 3, cells := 0, slots := 0, locals := 210 } : Room)).room := ⟨_, rfl⟩
  rw [← hR]
  generalize hQ : MQ below _ args s 0 0 A = Q
  replace hQ := hQ.symm
  obtain ⟨H, hH⟩ : ∃ H, H = s.heap := ⟨_, rfl⟩
  rw [← hH] at hP ⊢
  have hS : va_S A s.heap H [] := by rw [hH]; exact hS
  refine lv_aload_n hx hb dX9_years_0 rfl (lv_at hl 0 rfl) ?_
  refine lv_iconst (v := 0) hx hb dX9_years_1 (by decide) ?_
  refine va_put (D := D) (ci := 9) (v := .int 0) (ty := .int) (C := RX9) (T := TX9) (N := 58) hx hb hts hi9 tyX9 tyX9_ok nmX9 hown hK hP hD hS 0 rfl rfl 0 (by decide) lf143 (fun _ h9 => h9) rfl (by decide +kernel) rfl rfl (Nat.le_of_ble_eq_true rfl) dX9_years_2 (fun H locs hP hD hS => ?_)
  have hP : va_P D vwCl [(y, kO 9 [.int 0, .int y_taped, y_tape, .int y_size, .int y_place, .int y_begin, .int y_token, .long y_word, .int y_told, .int y_wrong, .ref b_supper, y_guestName, y_kind, y_offTold, y_pace, y_cooks, y_snow, y_lineFrom, y_lineTo, y_codes, .int y_code, .int y_toldLines, y_opened, y_compared, y_kept, y_keptBy, y_ahead, y_against, y_sum, y_sumBy, y_term, y_termBy, y_byNot, y_valueOf, .int y_given, y_lines, y_lineWhat, y_lineA, y_lineB, y_seens, y_seenIn, y_seenYards, y_seenNear, .ref b_s, .ref b_aside, y_before, y_marked, y_undone, y_isLaid, .int y_done, .int y_snowNow, .int y_cameNow, .int y_cookThen, .int y_tasteThen, y_places, y_comesAt, y_yardsIn, .long y_g]), (b_supper, kI k 8 c_supper), (b_s, kI k 46 c_s), (b_aside, kI k 46 c_aside)] H := hP
  have hD : va_D A [(y, kO 9 [.int 0, .int y_taped, y_tape, .int y_size, .int y_place, .int y_begin, .int y_token, .long y_word, .int y_told, .int y_wrong, .ref b_supper, y_guestName, y_kind, y_offTold, y_pace, y_cooks, y_snow, y_lineFrom, y_lineTo, y_codes, .int y_code, .int y_toldLines, y_opened, y_compared, y_kept, y_keptBy, y_ahead, y_against, y_sum, y_sumBy, y_term, y_termBy, y_byNot, y_valueOf, .int y_given, y_lines, y_lineWhat, y_lineA, y_lineB, y_seens, y_seenIn, y_seenYards, y_seenNear, .ref b_s, .ref b_aside, y_before, y_marked, y_undone, y_isLaid, .int y_done, .int y_snowNow, .int y_cameNow, .int y_cookThen, .int y_tasteThen, y_places, y_comesAt, y_yardsIn, .long y_g]), (b_supper, kI k 8 c_supper), (b_s, kI k 46 c_s), (b_aside, kI k 46 c_aside)] := hD
  refine lv_iload_n hx hb dX9_years_5 rfl (lv_at hl 1 rfl) ?_
  refine lv_iconst (v := 0) hx hb dX9_years_6 (by decide) ?_
  refine lv_sipush (v := 9999) hx hb dX9_years_7 (by decide) ?_
  refine kz_Si (As := [.int q1, .int 0, .int 9999]) (rest := []) (wc := []) (wr := [(y, kO 9 [.int 0, .int y_taped, y_tape, .int y_size, .int y_place, .int y_begin, .int y_token, .long y_word, .int y_told, .int y_wrong, .ref b_supper, y_guestName, y_kind, y_offTold, y_pace, y_cooks, y_snow, y_lineFrom, y_lineTo, y_codes, .int y_code, .int y_toldLines, y_opened, y_compared, y_kept, y_keptBy, y_ahead, y_against, y_sum, y_sumBy, y_term, y_termBy, y_byNot, y_valueOf, .int y_given, y_lines, y_lineWhat, y_lineA, y_lineB, y_seens, y_seenIn, y_seenYards, y_seenNear, .ref b_s, .ref b_aside, y_before, y_marked, y_undone, y_isLaid, .int y_done, .int y_snowNow, .int y_cameNow, .int y_cookThen, .int y_tasteThen, y_places, y_comesAt, y_yardsIn, .long y_g]), (b_supper, kI k 8 c_supper), (b_s, kI k 46 c_s), (b_aside, kI k 46 c_aside)]) ⟨hx, hb, hml, hown, hts⟩ hK hE hP hD hS hA (mX9_within l D k H.size q1 0 9999) (va_cwS 3 hts gX9_years_X9_within rfl rfl rfl (by decide +kernel) (by rw [hR]; exact ⟨Nat.le_of_ble_eq_true rfl, Nat.le_of_ble_eq_true rfl⟩)) [] [0, 1, 2, 3] rfl rfl (by decide) (by decide) (by decide) rfl hl.1 rfl (Nat.le_of_ble_eq_true rfl) dX9_years_10 (by rw [hR]; exact ⟨Nat.le_of_ble_eq_true rfl, Nat.le_of_ble_eq_true rfl⟩) (fun r1 u1 H locs hw1 hP hD hS => ?_)
  try dsimp only at hw1
  obtain rfl : r1 = bz (0 ≤ q1 ∧ q1 ≤ 9999) := hw1
  have hP : va_P D vwCl [(y, kO 9 [.int 0, .int y_taped, y_tape, .int y_size, .int y_place, .int y_begin, .int y_token, .long y_word, .int y_told, .int y_wrong, .ref b_supper, y_guestName, y_kind, y_offTold, y_pace, y_cooks, y_snow, y_lineFrom, y_lineTo, y_codes, .int y_code, .int y_toldLines, y_opened, y_compared, y_kept, y_keptBy, y_ahead, y_against, y_sum, y_sumBy, y_term, y_termBy, y_byNot, y_valueOf, .int y_given, y_lines, y_lineWhat, y_lineA, y_lineB, y_seens, y_seenIn, y_seenYards, y_seenNear, .ref b_s, .ref b_aside, y_before, y_marked, y_undone, y_isLaid, .int y_done, .int y_snowNow, .int y_cameNow, .int y_cookThen, .int y_tasteThen, y_places, y_comesAt, y_yardsIn, .long y_g]), (b_supper, kI k 8 c_supper), (b_s, kI k 46 c_s), (b_aside, kI k 46 c_aside)] H := hP
  have hD : va_D A [(y, kO 9 [.int 0, .int y_taped, y_tape, .int y_size, .int y_place, .int y_begin, .int y_token, .long y_word, .int y_told, .int y_wrong, .ref b_supper, y_guestName, y_kind, y_offTold, y_pace, y_cooks, y_snow, y_lineFrom, y_lineTo, y_codes, .int y_code, .int y_toldLines, y_opened, y_compared, y_kept, y_keptBy, y_ahead, y_against, y_sum, y_sumBy, y_term, y_termBy, y_byNot, y_valueOf, .int y_given, y_lines, y_lineWhat, y_lineA, y_lineB, y_seens, y_seenIn, y_seenYards, y_seenNear, .ref b_s, .ref b_aside, y_before, y_marked, y_undone, y_isLaid, .int y_done, .int y_snowNow, .int y_cameNow, .int y_cookThen, .int y_tasteThen, y_places, y_comesAt, y_yardsIn, .long y_g]), (b_supper, kI k 8 c_supper), (b_s, kI k 46 c_s), (b_aside, kI k 46 c_aside)] := hD
  refine lv_if_eq (tgt := 35) hx hb dX9_years_13 (by decide) (fun c_2 => ?_) (fun c_2 => ?_)
  · skip
    refine lv_ldcw hx hb hown lc452 dX9_years_35 ?_
    rw [hQ]
    have hP9 := hP.sub (ws' := []) [] rfl
    have hD9 := hD.sub (ws' := []) [] (by decide) rfl
    exact W.iret (v := (-100000)) hx hb hr (fun zt ht hW => ⟨⟨(-100000), (), rfl, (by unfold aY; rw [if_neg (bz_0 c_2)]), by rw [ht]; exact hP9, hD9⟩, hS.F ht⟩) hS.2.2 dX9_years_38
  · skip
    refine lv_iload_n hx hb dX9_years_16 rfl (lv_at hl 2 rfl) ?_
    refine lv_iconst (v := 1) hx hb dX9_years_17 (by decide) ?_
    refine lv_bipush (v := 99) hx hb dX9_years_18 (by decide) ?_
    refine kz_Si (As := [.int q2, .int 1, .int 99]) (rest := []) (wc := []) (wr := [(y, kO 9 [.int 0, .int y_taped, y_tape, .int y_size, .int y_place, .int y_begin, .int y_token, .long y_word, .int y_told, .int y_wrong, .ref b_supper, y_guestName, y_kind, y_offTold, y_pace, y_cooks, y_snow, y_lineFrom, y_lineTo, y_codes, .int y_code, .int y_toldLines, y_opened, y_compared, y_kept, y_keptBy, y_ahead, y_against, y_sum, y_sumBy, y_term, y_termBy, y_byNot, y_valueOf, .int y_given, y_lines, y_lineWhat, y_lineA, y_lineB, y_seens, y_seenIn, y_seenYards, y_seenNear, .ref b_s, .ref b_aside, y_before, y_marked, y_undone, y_isLaid, .int y_done, .int y_snowNow, .int y_cameNow, .int y_cookThen, .int y_tasteThen, y_places, y_comesAt, y_yardsIn, .long y_g]), (b_supper, kI k 8 c_supper), (b_s, kI k 46 c_s), (b_aside, kI k 46 c_aside)]) ⟨hx, hb, hml, hown, hts⟩ hK hE hP hD hS hA (mX9_within l D k H.size q2 1 99) (va_cwS 3 hts gX9_years_X9_within rfl rfl rfl (by decide +kernel) (by rw [hR]; exact ⟨Nat.le_of_ble_eq_true rfl, Nat.le_of_ble_eq_true rfl⟩)) [] [0, 1, 2, 3] rfl rfl (by decide) (by decide) (by decide) rfl hl.1 rfl (Nat.le_of_ble_eq_true rfl) dX9_years_20 (by rw [hR]; exact ⟨Nat.le_of_ble_eq_true rfl, Nat.le_of_ble_eq_true rfl⟩) (fun r3 u3 H locs hw3 hP hD hS => ?_)
    try dsimp only at hw3
    obtain rfl : r3 = bz (1 ≤ q2 ∧ q2 ≤ 99) := hw3
    have hP : va_P D vwCl [(y, kO 9 [.int 0, .int y_taped, y_tape, .int y_size, .int y_place, .int y_begin, .int y_token, .long y_word, .int y_told, .int y_wrong, .ref b_supper, y_guestName, y_kind, y_offTold, y_pace, y_cooks, y_snow, y_lineFrom, y_lineTo, y_codes, .int y_code, .int y_toldLines, y_opened, y_compared, y_kept, y_keptBy, y_ahead, y_against, y_sum, y_sumBy, y_term, y_termBy, y_byNot, y_valueOf, .int y_given, y_lines, y_lineWhat, y_lineA, y_lineB, y_seens, y_seenIn, y_seenYards, y_seenNear, .ref b_s, .ref b_aside, y_before, y_marked, y_undone, y_isLaid, .int y_done, .int y_snowNow, .int y_cameNow, .int y_cookThen, .int y_tasteThen, y_places, y_comesAt, y_yardsIn, .long y_g]), (b_supper, kI k 8 c_supper), (b_s, kI k 46 c_s), (b_aside, kI k 46 c_aside)] H := hP
    have hD : va_D A [(y, kO 9 [.int 0, .int y_taped, y_tape, .int y_size, .int y_place, .int y_begin, .int y_token, .long y_word, .int y_told, .int y_wrong, .ref b_supper, y_guestName, y_kind, y_offTold, y_pace, y_cooks, y_snow, y_lineFrom, y_lineTo, y_codes, .int y_code, .int y_toldLines, y_opened, y_compared, y_kept, y_keptBy, y_ahead, y_against, y_sum, y_sumBy, y_term, y_termBy, y_byNot, y_valueOf, .int y_given, y_lines, y_lineWhat, y_lineA, y_lineB, y_seens, y_seenIn, y_seenYards, y_seenNear, .ref b_s, .ref b_aside, y_before, y_marked, y_undone, y_isLaid, .int y_done, .int y_snowNow, .int y_cameNow, .int y_cookThen, .int y_tasteThen, y_places, y_comesAt, y_yardsIn, .long y_g]), (b_supper, kI k 8 c_supper), (b_s, kI k 46 c_s), (b_aside, kI k 46 c_aside)] := hD
    refine lv_if_eq (tgt := 35) hx hb dX9_years_23 (by decide) (fun c_4 => ?_) (fun c_4 => ?_)
    · skip
      refine lv_ldcw hx hb hown lc452 dX9_years_35 ?_
      rw [hQ]
      have hP9 := hP.sub (ws' := []) [] rfl
      have hD9 := hD.sub (ws' := []) [] (by decide) rfl
      exact W.iret (v := (-100000)) hx hb hr (fun zt ht hW => ⟨⟨(-100000), (), rfl, (by unfold aY; rw [if_pos (bz_1 c_2), if_neg (bz_0 c_4)]), by rw [ht]; exact hP9, hD9⟩, hS.F ht⟩) hS.2.2 dX9_years_38
    · skip
      obtain ⟨N, hN, eN⟩ := nI_bt (bz_1 c_4) (by decide) 99 (by decide)
      subst eN
      refine lv_iload_n hx hb dX9_years_26 rfl (lv_at hl 3 rfl) ?_
      refine lv_iconst (v := 0) hx hb dX9_years_27 (by decide) ?_
      refine lv_iconst (v := 2) hx hb dX9_years_28 (by decide) ?_
      refine kz_Si (As := [.int q3, .int 0, .int 2]) (rest := []) (wc := []) (wr := [(y, kO 9 [.int 0, .int y_taped, y_tape, .int y_size, .int y_place, .int y_begin, .int y_token, .long y_word, .int y_told, .int y_wrong, .ref b_supper, y_guestName, y_kind, y_offTold, y_pace, y_cooks, y_snow, y_lineFrom, y_lineTo, y_codes, .int y_code, .int y_toldLines, y_opened, y_compared, y_kept, y_keptBy, y_ahead, y_against, y_sum, y_sumBy, y_term, y_termBy, y_byNot, y_valueOf, .int y_given, y_lines, y_lineWhat, y_lineA, y_lineB, y_seens, y_seenIn, y_seenYards, y_seenNear, .ref b_s, .ref b_aside, y_before, y_marked, y_undone, y_isLaid, .int y_done, .int y_snowNow, .int y_cameNow, .int y_cookThen, .int y_tasteThen, y_places, y_comesAt, y_yardsIn, .long y_g]), (b_supper, kI k 8 c_supper), (b_s, kI k 46 c_s), (b_aside, kI k 46 c_aside)]) ⟨hx, hb, hml, hown, hts⟩ hK hE hP hD hS hA (mX9_within l D k H.size q3 0 2) (va_cwS 3 hts gX9_years_X9_within rfl rfl rfl (by decide +kernel) (by rw [hR]; exact ⟨Nat.le_of_ble_eq_true rfl, Nat.le_of_ble_eq_true rfl⟩)) [] [0, 1, 2, 3] rfl rfl (by decide) (by decide) (by decide) rfl hl.1 rfl (Nat.le_of_ble_eq_true rfl) dX9_years_29 (by rw [hR]; exact ⟨Nat.le_of_ble_eq_true rfl, Nat.le_of_ble_eq_true rfl⟩) (fun r5 u5 H locs hw5 hP hD hS => ?_)
      try dsimp only at hw5
      obtain rfl : r5 = bz (0 ≤ q3 ∧ q3 ≤ 2) := hw5
      have hP : va_P D vwCl [(y, kO 9 [.int 0, .int y_taped, y_tape, .int y_size, .int y_place, .int y_begin, .int y_token, .long y_word, .int y_told, .int y_wrong, .ref b_supper, y_guestName, y_kind, y_offTold, y_pace, y_cooks, y_snow, y_lineFrom, y_lineTo, y_codes, .int y_code, .int y_toldLines, y_opened, y_compared, y_kept, y_keptBy, y_ahead, y_against, y_sum, y_sumBy, y_term, y_termBy, y_byNot, y_valueOf, .int y_given, y_lines, y_lineWhat, y_lineA, y_lineB, y_seens, y_seenIn, y_seenYards, y_seenNear, .ref b_s, .ref b_aside, y_before, y_marked, y_undone, y_isLaid, .int y_done, .int y_snowNow, .int y_cameNow, .int y_cookThen, .int y_tasteThen, y_places, y_comesAt, y_yardsIn, .long y_g]), (b_supper, kI k 8 c_supper), (b_s, kI k 46 c_s), (b_aside, kI k 46 c_aside)] H := hP
      have hD : va_D A [(y, kO 9 [.int 0, .int y_taped, y_tape, .int y_size, .int y_place, .int y_begin, .int y_token, .long y_word, .int y_told, .int y_wrong, .ref b_supper, y_guestName, y_kind, y_offTold, y_pace, y_cooks, y_snow, y_lineFrom, y_lineTo, y_codes, .int y_code, .int y_toldLines, y_opened, y_compared, y_kept, y_keptBy, y_ahead, y_against, y_sum, y_sumBy, y_term, y_termBy, y_byNot, y_valueOf, .int y_given, y_lines, y_lineWhat, y_lineA, y_lineB, y_seens, y_seenIn, y_seenYards, y_seenNear, .ref b_s, .ref b_aside, y_before, y_marked, y_undone, y_isLaid, .int y_done, .int y_snowNow, .int y_cameNow, .int y_cookThen, .int y_tasteThen, y_places, y_comesAt, y_yardsIn, .long y_g]), (b_supper, kI k 8 c_supper), (b_s, kI k 46 c_s), (b_aside, kI k 46 c_aside)] := hD
      refine lv_if_ne (tgt := 39) hx hb dX9_years_32 (by decide) (fun c_6 => ?_) (fun c_6 => ?_)
      · skip
        refine lv_aload_n hx hb dX9_years_39 rfl (lv_at hl 0 rfl) ?_
        refine lv_iload_n hx hb dX9_years_40 rfl (lv_at hl 1 rfl) ?_
        refine lv_i2l hx hb dX9_years_41 rfl ?_
        refine va_put (D := D) (ci := 9) (v := .long q1.toInt64) (ty := .long) (C := RX9) (T := TX9) (N := 58) hx hb hts hi9 tyX9 tyX9_ok nmX9 hown hK hP hD hS 0 rfl rfl 57 (by decide) lf438 (fun _ h9 => h9) rfl (by decide +kernel) rfl rfl (Nat.le_of_ble_eq_true rfl) dX9_years_42 (fun H locs hP hD hS => ?_)
        have hP : va_P D vwCl [(y, kO 9 [.int 0, .int y_taped, y_tape, .int y_size, .int y_place, .int y_begin, .int y_token, .long y_word, .int y_told, .int y_wrong, .ref b_supper, y_guestName, y_kind, y_offTold, y_pace, y_cooks, y_snow, y_lineFrom, y_lineTo, y_codes, .int y_code, .int y_toldLines, y_opened, y_compared, y_kept, y_keptBy, y_ahead, y_against, y_sum, y_sumBy, y_term, y_termBy, y_byNot, y_valueOf, .int y_given, y_lines, y_lineWhat, y_lineA, y_lineB, y_seens, y_seenIn, y_seenYards, y_seenNear, .ref b_s, .ref b_aside, y_before, y_marked, y_undone, y_isLaid, .int y_done, .int y_snowNow, .int y_cameNow, .int y_cookThen, .int y_tasteThen, y_places, y_comesAt, y_yardsIn, .long q1.toInt64]), (b_supper, kI k 8 c_supper), (b_s, kI k 46 c_s), (b_aside, kI k 46 c_aside)] H := hP
        have hD : va_D A [(y, kO 9 [.int 0, .int y_taped, y_tape, .int y_size, .int y_place, .int y_begin, .int y_token, .long y_word, .int y_told, .int y_wrong, .ref b_supper, y_guestName, y_kind, y_offTold, y_pace, y_cooks, y_snow, y_lineFrom, y_lineTo, y_codes, .int y_code, .int y_toldLines, y_opened, y_compared, y_kept, y_keptBy, y_ahead, y_against, y_sum, y_sumBy, y_term, y_termBy, y_byNot, y_valueOf, .int y_given, y_lines, y_lineWhat, y_lineA, y_lineB, y_seens, y_seenIn, y_seenYards, y_seenNear, .ref b_s, .ref b_aside, y_before, y_marked, y_undone, y_isLaid, .int y_done, .int y_snowNow, .int y_cameNow, .int y_cookThen, .int y_tasteThen, y_places, y_comesAt, y_yardsIn, .long q1.toInt64]), (b_supper, kI k 8 c_supper), (b_s, kI k 46 c_s), (b_aside, kI k 46 c_aside)] := hD
        refine lv_aload_n hx hb dX9_years_45 rfl (lv_at hl 0 rfl) ?_
        refine va_get (D := D) (ci := 9) (v := .ref b_s) (C := RX9) (T := TX9) (N := 58) hx hb hts hi9 hown hK hP 0 rfl rfl 43 (by decide) lf105 (fun _ h9 => h9) rfl dX9_years_46 ?_
        refine lv_iconst (v := 0) hx hb dX9_years_49 (by decide) ?_
        refine lv_aload_n hx hb dX9_years_50 rfl (lv_at hl 0 rfl) ?_
        refine va_get (D := D) (ci := 9) (v := .ref b_aside) (C := RX9) (T := TX9) (N := 58) hx hb hts hi9 hown hK hP 0 rfl rfl 44 (by decide) lf108 (fun _ h9 => h9) rfl dX9_years_51 ?_
        refine lv_iconst (v := 0) hx hb dX9_years_54 (by decide) ?_
        refine kz_Sv (As := [.ref b_s, .int 0, .ref b_aside, .int 0]) (rest := []) (wc := [(b_s, kI k 46 c_s), (b_aside, kI k 46 c_aside)]) (wr := [(y, kO 9 [.int 0, .int y_taped, y_tape, .int y_size, .int y_place, .int y_begin, .int y_token, .long y_word, .int y_told, .int y_wrong, .ref b_supper, y_guestName, y_kind, y_offTold, y_pace, y_cooks, y_snow, y_lineFrom, y_lineTo, y_codes, .int y_code, .int y_toldLines, y_opened, y_compared, y_kept, y_keptBy, y_ahead, y_against, y_sum, y_sumBy, y_term, y_termBy, y_byNot, y_valueOf, .int y_given, y_lines, y_lineWhat, y_lineA, y_lineB, y_seens, y_seenIn, y_seenYards, y_seenNear, .ref b_s, .ref b_aside, y_before, y_marked, y_undone, y_isLaid, .int y_done, .int y_snowNow, .int y_cameNow, .int y_cookThen, .int y_tasteThen, y_places, y_comesAt, y_yardsIn, .long q1.toInt64]), (b_supper, kI k 8 c_supper)]) ⟨hx, hb, hml, hown, hts⟩ hK hE hP hD hS hA (mX9_copies l D k H.size b_s b_aside 46 46 0 0 c_s c_aside (by first | decide | omega) (by first | decide | omega) (by first | decide | omega) (by first | decide | omega)) (va_cwS 4 hts gX9_years_X9_copies rfl rfl rfl (by decide +kernel) (by rw [hR]; exact ⟨Nat.le_of_ble_eq_true rfl, Nat.le_of_ble_eq_true rfl⟩)) [2, 3] [0, 1] rfl rfl (by decide) (by decide) (by decide) rfl hl.1 rfl (Nat.le_of_ble_eq_true rfl) dX9_years_55 (by rw [hR]; exact ⟨Nat.le_of_ble_eq_true rfl, Nat.le_of_ble_eq_true rfl⟩) (fun u7 H locs hw7 hP hD hS => ?_)
        have hP : va_P D vwCl [(y, kO 9 [.int 0, .int y_taped, y_tape, .int y_size, .int y_place, .int y_begin, .int y_token, .long y_word, .int y_told, .int y_wrong, .ref b_supper, y_guestName, y_kind, y_offTold, y_pace, y_cooks, y_snow, y_lineFrom, y_lineTo, y_codes, .int y_code, .int y_toldLines, y_opened, y_compared, y_kept, y_keptBy, y_ahead, y_against, y_sum, y_sumBy, y_term, y_termBy, y_byNot, y_valueOf, .int y_given, y_lines, y_lineWhat, y_lineA, y_lineB, y_seens, y_seenIn, y_seenYards, y_seenNear, .ref b_s, .ref b_aside, y_before, y_marked, y_undone, y_isLaid, .int y_done, .int y_snowNow, .int y_cameNow, .int y_cookThen, .int y_tasteThen, y_places, y_comesAt, y_yardsIn, .long q1.toInt64]), (b_supper, kI k 8 c_supper), (b_s, kI k 46 c_s), (b_aside, kI k 46 (va_cpy c_s c_aside 0 0 46))] H := hP
        have hD : va_D A [(y, kO 9 [.int 0, .int y_taped, y_tape, .int y_size, .int y_place, .int y_begin, .int y_token, .long y_word, .int y_told, .int y_wrong, .ref b_supper, y_guestName, y_kind, y_offTold, y_pace, y_cooks, y_snow, y_lineFrom, y_lineTo, y_codes, .int y_code, .int y_toldLines, y_opened, y_compared, y_kept, y_keptBy, y_ahead, y_against, y_sum, y_sumBy, y_term, y_termBy, y_byNot, y_valueOf, .int y_given, y_lines, y_lineWhat, y_lineA, y_lineB, y_seens, y_seenIn, y_seenYards, y_seenNear, .ref b_s, .ref b_aside, y_before, y_marked, y_undone, y_isLaid, .int y_done, .int y_snowNow, .int y_cameNow, .int y_cookThen, .int y_tasteThen, y_places, y_comesAt, y_yardsIn, .long q1.toInt64]), (b_supper, kI k 8 c_supper), (b_s, kI k 46 c_s), (b_aside, kI k 46 (va_cpy c_s c_aside 0 0 46))] := hD
        refine lv_iconst (v := 0) hx hb dX9_years_58 (by decide) ?_
        refine lv_istore (lv' := [(4, .int 0), (0, .ref y), (1, .int q1), (2, .int (nI N)), (3, .int q3)]) hx hb dX9_years_59 hl (by decide) rfl (fun ls hl => ?_)
        have hloop61 : ∀ (n : Nat) (j : Nat) (w9 : Int32) (s9 : Nat → Int32) (g9 : Int64), N - j < n → (j ≤ N) → (s9 2 = 0) → (s9 3 = 0) → ∀ (H : Heap) (locs : List Loc) (ls : Array Slot), va_P D vwCl [(y, kO 9 [.int 0, .int y_taped, y_tape, .int y_size, .int y_place, .int y_begin, .int y_token, .long y_word, .int y_told, .int y_wrong, .ref b_supper, y_guestName, y_kind, y_offTold, y_pace, y_cooks, y_snow, y_lineFrom, y_lineTo, y_codes, .int y_code, .int y_toldLines, y_opened, y_compared, y_kept, y_keptBy, y_ahead, y_against, y_sum, y_sumBy, y_term, y_termBy, y_byNot, y_valueOf, .int y_given, y_lines, y_lineWhat, y_lineA, y_lineB, y_seens, y_seenIn, y_seenYards, y_seenNear, .ref b_s, .ref b_aside, y_before, y_marked, y_undone, y_isLaid, .int y_done, .int y_snowNow, .int w9, .int y_cookThen, .int y_tasteThen, y_places, y_comesAt, y_yardsIn, .long g9]), (b_supper, kI k 8 c_supper), (b_s, kI k 46 s9), (b_aside, kI k 46 (va_cpy c_s c_aside 0 0 46))] H → va_D A [(y, kO 9 [.int 0, .int y_taped, y_tape, .int y_size, .int y_place, .int y_begin, .int y_token, .long y_word, .int y_told, .int y_wrong, .ref b_supper, y_guestName, y_kind, y_offTold, y_pace, y_cooks, y_snow, y_lineFrom, y_lineTo, y_codes, .int y_code, .int y_toldLines, y_opened, y_compared, y_kept, y_keptBy, y_ahead, y_against, y_sum, y_sumBy, y_term, y_termBy, y_byNot, y_valueOf, .int y_given, y_lines, y_lineWhat, y_lineA, y_lineB, y_seens, y_seenIn, y_seenYards, y_seenNear, .ref b_s, .ref b_aside, y_before, y_marked, y_undone, y_isLaid, .int y_done, .int y_snowNow, .int w9, .int y_cookThen, .int y_tasteThen, y_places, y_comesAt, y_yardsIn, .long g9]), (b_supper, kI k 8 c_supper), (b_s, kI k 46 s9), (b_aside, kI k 46 (va_cpy c_s c_aside 0 0 46))] → va_S A s.heap H locs → lv_has ls 7 [(4, .int (nI j)), (3, .int q3), (2, .int (nI N)), (1, .int q1), (0, .ref y)] → W p l e R s m args below meth c H locs 0 0 Q (F0 m 61 ls []) := by
          intro n61
          induction n61 with
          | zero => intro j w9 s9 g9 hm; exact absurd hm (Nat.not_lt_zero _)
          | succ n61 ih61 =>
            intro j w9 s9 g9 hm61 hj h2 h3 H locs ls hP hD hS hl
            refine lv_iload hx hb dX9_years_61 (lv_at hl 0 rfl) ?_
            refine lv_iload_n hx hb dX9_years_63 rfl (lv_at hl 2 rfl) ?_
            refine lv_icmp_ge (tgt := 77) hx hb dX9_years_64 (by decide) (fun c_8 => ?_) (fun c_8 => ?_)
            · skip
              have k_8 : N ≤ j := (nI_leI (a := N) (b := j) (by omega) (by omega)).mp c_8
              refine lv_aload_n hx hb dX9_years_77 rfl (lv_at hl 4 rfl) ?_
              refine va_get (D := D) (ci := 9) (v := .ref b_s) (C := RX9) (T := TX9) (N := 58) hx hb hts hi9 hown hK hP 0 rfl rfl 43 (by decide) lf105 (fun _ h9 => h9) rfl dX9_years_78 ?_
              refine lv_iconst (v := 3) hx hb dX9_years_81 (by decide) ?_
              refine va_iald hx hb hK hP 2 0 rfl rfl (vp_in_iff.mpr (by decide)) dX9_years_82 ?_
              refine lv_topi (fun x9 ex9 => ?_)
              obtain rfl : x9 = 0 := ex9.trans (show _ = _ from h3)
              refine lv_aload_n hx hb dX9_years_83 rfl (lv_at hl 4 rfl) ?_
              refine va_get (D := D) (ci := 9) (v := .ref b_aside) (C := RX9) (T := TX9) (N := 58) hx hb hts hi9 hown hK hP 0 rfl rfl 44 (by decide) lf108 (fun _ h9 => h9) rfl dX9_years_84 ?_
              refine lv_iconst (v := 3) hx hb dX9_years_87 (by decide) ?_
              refine va_iald hx hb hK hP 3 0 rfl rfl (vp_in_iff.mpr (by decide)) dX9_years_88 ?_
              refine lv_topi (fun x10 ex10 => ?_)
              obtain rfl : x10 = 0 := ex10.trans (show _ = _ from ((cpy_at (by decide)).trans hz3))
              refine lv_isub hx hb dX9_years_89 ?_
              refine lv_topi (fun x11 ex11 => ?_)
              obtain rfl : x11 = 0 := ex11.trans (by decide)
              refine lv_istore (lv' := [(4, .int 0), (3, .int q3), (2, .int (nI N)), (1, .int q1), (0, .ref y)]) hx hb dX9_years_90 hl (by decide) rfl (fun ls hl => ?_)
              refine lv_aload_n hx hb dX9_years_92 rfl (lv_at hl 4 rfl) ?_
              refine va_get (D := D) (ci := 9) (v := .ref b_s) (C := RX9) (T := TX9) (N := 58) hx hb hts hi9 hown hK hP 0 rfl rfl 43 (by decide) lf105 (fun _ h9 => h9) rfl dX9_years_93 ?_
              refine lv_iconst (v := 2) hx hb dX9_years_96 (by decide) ?_
              refine va_iald hx hb hK hP 2 0 rfl rfl (vp_in_iff.mpr (by decide)) dX9_years_97 ?_
              refine lv_topi (fun x12 ex12 => ?_)
              obtain rfl : x12 = 0 := ex12.trans (show _ = _ from h2)
              refine lv_aload_n hx hb dX9_years_98 rfl (lv_at hl 4 rfl) ?_
              refine va_get (D := D) (ci := 9) (v := .ref b_aside) (C := RX9) (T := TX9) (N := 58) hx hb hts hi9 hown hK hP 0 rfl rfl 44 (by decide) lf108 (fun _ h9 => h9) rfl dX9_years_99 ?_
              refine lv_iconst (v := 2) hx hb dX9_years_102 (by decide) ?_
              refine va_iald hx hb hK hP 3 0 rfl rfl (vp_in_iff.mpr (by decide)) dX9_years_103 ?_
              refine lv_topi (fun x13 ex13 => ?_)
              obtain rfl : x13 = 0 := ex13.trans (show _ = _ from ((cpy_at (by decide)).trans hz2))
              refine lv_isub hx hb dX9_years_104 ?_
              refine lv_topi (fun x14 ex14 => ?_)
              obtain rfl : x14 = 0 := ex14.trans (by decide)
              refine lv_istore (lv' := [(5, .int 0), (4, .int 0), (3, .int q3), (2, .int (nI N)), (1, .int q1), (0, .ref y)]) hx hb dX9_years_105 hl (by decide) rfl (fun ls hl => ?_)
              refine lv_aload_n hx hb dX9_years_107 rfl (lv_at hl 5 rfl) ?_
              refine kz_Vi (As := []) (rest := []) (wc := [(y, kO 9 [.int 0, .int y_taped, y_tape, .int y_size, .int y_place, .int y_begin, .int y_token, .long y_word, .int y_told, .int y_wrong, .ref b_supper, y_guestName, y_kind, y_offTold, y_pace, y_cooks, y_snow, y_lineFrom, y_lineTo, y_codes, .int y_code, .int y_toldLines, y_opened, y_compared, y_kept, y_keptBy, y_ahead, y_against, y_sum, y_sumBy, y_term, y_termBy, y_byNot, y_valueOf, .int y_given, y_lines, y_lineWhat, y_lineA, y_lineB, y_seens, y_seenIn, y_seenYards, y_seenNear, .ref b_s, .ref b_aside, y_before, y_marked, y_undone, y_isLaid, .int y_done, .int y_snowNow, .int w9, .int y_cookThen, .int y_tasteThen, y_places, y_comesAt, y_yardsIn, .long g9]), (b_supper, kI k 8 c_supper)]) (wr := [(b_s, kI k 46 s9), (b_aside, kI k 46 (va_cpy c_s c_aside 0 0 46))]) ⟨hx, hb, hml, hown, hts⟩ hK hE hP hD hS hA (mX9_onRoad l D k H.size y 0 y_taped y_tape y_size y_place y_begin y_token y_word y_told y_wrong b_supper y_guestName y_kind y_offTold y_pace y_cooks y_snow y_lineFrom y_lineTo y_codes y_code y_toldLines y_opened y_compared y_kept y_keptBy y_ahead y_against y_sum y_sumBy y_term y_termBy y_byNot y_valueOf y_given y_lines y_lineWhat y_lineA y_lineB y_seens y_seenIn y_seenYards y_seenNear (.ref b_s) (.ref b_aside) y_before y_marked y_undone y_isLaid y_done y_snowNow w9 y_cookThen y_tasteThen y_places y_comesAt y_yardsIn g9 c_supper hs0) (cwV 0 hts gX9_years_X9_onRoad rfl rfl rfl (by decide +kernel) (by rw [hR]; exact ⟨Nat.le_of_ble_eq_true rfl, Nat.le_of_ble_eq_true rfl⟩)) [0, 1] [2, 3] rfl rfl (by decide) (by decide) (by decide) 0 rfl rfl rfl hl.1 rfl (Nat.le_of_ble_eq_true rfl) dX9_years_108 (by rw [hR]; exact ⟨Nat.le_of_ble_eq_true rfl, Nat.le_of_ble_eq_true rfl⟩) (fun r15 u15 H locs hw15 hP hD hS => ?_)
              try dsimp only at hw15
              obtain rfl : r15 = 0 := hw15
              have hP : va_P D vwCl [(b_s, kI k 46 s9), (b_aside, kI k 46 (va_cpy c_s c_aside 0 0 46)), (y, kO 9 [.int 0, .int y_taped, y_tape, .int y_size, .int y_place, .int y_begin, .int y_token, .long y_word, .int y_told, .int y_wrong, .ref b_supper, y_guestName, y_kind, y_offTold, y_pace, y_cooks, y_snow, y_lineFrom, y_lineTo, y_codes, .int y_code, .int y_toldLines, y_opened, y_compared, y_kept, y_keptBy, y_ahead, y_against, y_sum, y_sumBy, y_term, y_termBy, y_byNot, y_valueOf, .int y_given, y_lines, y_lineWhat, y_lineA, y_lineB, y_seens, y_seenIn, y_seenYards, y_seenNear, .ref b_s, .ref b_aside, y_before, y_marked, y_undone, y_isLaid, .int y_done, .int y_snowNow, .int w9, .int y_cookThen, .int y_tasteThen, y_places, y_comesAt, y_yardsIn, .long g9]), (b_supper, kI k 8 c_supper)] H := hP
              have hD : va_D A [(b_s, kI k 46 s9), (b_aside, kI k 46 (va_cpy c_s c_aside 0 0 46)), (y, kO 9 [.int 0, .int y_taped, y_tape, .int y_size, .int y_place, .int y_begin, .int y_token, .long y_word, .int y_told, .int y_wrong, .ref b_supper, y_guestName, y_kind, y_offTold, y_pace, y_cooks, y_snow, y_lineFrom, y_lineTo, y_codes, .int y_code, .int y_toldLines, y_opened, y_compared, y_kept, y_keptBy, y_ahead, y_against, y_sum, y_sumBy, y_term, y_termBy, y_byNot, y_valueOf, .int y_given, y_lines, y_lineWhat, y_lineA, y_lineB, y_seens, y_seenIn, y_seenYards, y_seenNear, .ref b_s, .ref b_aside, y_before, y_marked, y_undone, y_isLaid, .int y_done, .int y_snowNow, .int w9, .int y_cookThen, .int y_tasteThen, y_places, y_comesAt, y_yardsIn, .long g9]), (b_supper, kI k 8 c_supper)] := hD
              refine lv_istore (lv' := [(6, .int 0), (5, .int 0), (4, .int 0), (3, .int q3), (2, .int (nI N)), (1, .int q1), (0, .ref y)]) hx hb dX9_years_111 hl (by decide) rfl (fun ls hl => ?_)
              refine lv_aload_n hx hb dX9_years_113 rfl (lv_at hl 6 rfl) ?_
              refine va_get (D := D) (ci := 9) (v := .ref b_aside) (C := RX9) (T := TX9) (N := 58) hx hb hts hi9 hown hK hP 2 rfl rfl 44 (by decide) lf108 (fun _ h9 => h9) rfl dX9_years_114 ?_
              refine lv_iconst (v := 0) hx hb dX9_years_117 (by decide) ?_
              refine lv_aload_n hx hb dX9_years_118 rfl (lv_at hl 6 rfl) ?_
              refine va_get (D := D) (ci := 9) (v := .ref b_s) (C := RX9) (T := TX9) (N := 58) hx hb hts hi9 hown hK hP 2 rfl rfl 43 (by decide) lf105 (fun _ h9 => h9) rfl dX9_years_119 ?_
              refine lv_iconst (v := 0) hx hb dX9_years_122 (by decide) ?_
              refine kz_Sv (As := [.ref b_aside, .int 0, .ref b_s, .int 0]) (rest := []) (wc := [(b_aside, kI k 46 (va_cpy c_s c_aside 0 0 46)), (b_s, kI k 46 s9)]) (wr := [(y, kO 9 [.int 0, .int y_taped, y_tape, .int y_size, .int y_place, .int y_begin, .int y_token, .long y_word, .int y_told, .int y_wrong, .ref b_supper, y_guestName, y_kind, y_offTold, y_pace, y_cooks, y_snow, y_lineFrom, y_lineTo, y_codes, .int y_code, .int y_toldLines, y_opened, y_compared, y_kept, y_keptBy, y_ahead, y_against, y_sum, y_sumBy, y_term, y_termBy, y_byNot, y_valueOf, .int y_given, y_lines, y_lineWhat, y_lineA, y_lineB, y_seens, y_seenIn, y_seenYards, y_seenNear, .ref b_s, .ref b_aside, y_before, y_marked, y_undone, y_isLaid, .int y_done, .int y_snowNow, .int w9, .int y_cookThen, .int y_tasteThen, y_places, y_comesAt, y_yardsIn, .long g9]), (b_supper, kI k 8 c_supper)]) ⟨hx, hb, hml, hown, hts⟩ hK hE hP hD hS hA (mX9_copies l D k H.size b_aside b_s 46 46 0 0 (va_cpy c_s c_aside 0 0 46) s9 (by first | decide | omega) (by first | decide | omega) (by first | decide | omega) (by first | decide | omega)) (va_cwS 4 hts gX9_years_X9_copies rfl rfl rfl (by decide +kernel) (by rw [hR]; exact ⟨Nat.le_of_ble_eq_true rfl, Nat.le_of_ble_eq_true rfl⟩)) [1, 0] [2, 3] rfl rfl (by decide) (by decide) (by decide) rfl hl.1 rfl (Nat.le_of_ble_eq_true rfl) dX9_years_123 (by rw [hR]; exact ⟨Nat.le_of_ble_eq_true rfl, Nat.le_of_ble_eq_true rfl⟩) (fun u16 H locs hw16 hP hD hS => ?_)
              have hP : va_P D vwCl [(y, kO 9 [.int 0, .int y_taped, y_tape, .int y_size, .int y_place, .int y_begin, .int y_token, .long y_word, .int y_told, .int y_wrong, .ref b_supper, y_guestName, y_kind, y_offTold, y_pace, y_cooks, y_snow, y_lineFrom, y_lineTo, y_codes, .int y_code, .int y_toldLines, y_opened, y_compared, y_kept, y_keptBy, y_ahead, y_against, y_sum, y_sumBy, y_term, y_termBy, y_byNot, y_valueOf, .int y_given, y_lines, y_lineWhat, y_lineA, y_lineB, y_seens, y_seenIn, y_seenYards, y_seenNear, .ref b_s, .ref b_aside, y_before, y_marked, y_undone, y_isLaid, .int y_done, .int y_snowNow, .int w9, .int y_cookThen, .int y_tasteThen, y_places, y_comesAt, y_yardsIn, .long g9]), (b_supper, kI k 8 c_supper), (b_aside, kI k 46 (va_cpy c_s c_aside 0 0 46)), (b_s, kI k 46 (va_cpy (va_cpy c_s c_aside 0 0 46) s9 0 0 46))] H := hP
              have hD : va_D A [(y, kO 9 [.int 0, .int y_taped, y_tape, .int y_size, .int y_place, .int y_begin, .int y_token, .long y_word, .int y_told, .int y_wrong, .ref b_supper, y_guestName, y_kind, y_offTold, y_pace, y_cooks, y_snow, y_lineFrom, y_lineTo, y_codes, .int y_code, .int y_toldLines, y_opened, y_compared, y_kept, y_keptBy, y_ahead, y_against, y_sum, y_sumBy, y_term, y_termBy, y_byNot, y_valueOf, .int y_given, y_lines, y_lineWhat, y_lineA, y_lineB, y_seens, y_seenIn, y_seenYards, y_seenNear, .ref b_s, .ref b_aside, y_before, y_marked, y_undone, y_isLaid, .int y_done, .int y_snowNow, .int w9, .int y_cookThen, .int y_tasteThen, y_places, y_comesAt, y_yardsIn, .long g9]), (b_supper, kI k 8 c_supper), (b_aside, kI k 46 (va_cpy c_s c_aside 0 0 46)), (b_s, kI k 46 (va_cpy (va_cpy c_s c_aside 0 0 46) s9 0 0 46))] := hD
              refine lv_iload_n hx hb dX9_years_126 rfl (lv_at hl 3 rfl) ?_
              refine lv_if_ne (tgt := 135) hx hb dX9_years_127 (by decide) (fun c_17 => ?_) (fun c_17 => ?_)
              · skip
                refine lv_iload_n hx hb dX9_years_135 rfl (lv_at hl 3 rfl) ?_
                refine lv_iconst (v := 1) hx hb dX9_years_136 (by decide) ?_
                refine lv_icmp_ne (tgt := 145) hx hb dX9_years_137 (by decide) (fun c_18 => ?_) (fun c_18 => ?_)
                · skip
                  refine lv_iload hx hb dX9_years_145 (lv_at hl 0 rfl) ?_
                  rw [hQ]
                  have hP9 := hP.sub (ws' := []) [] rfl
                  have hD9 := hD.sub (ws' := []) [] (by decide) rfl
                  exact W.iret (v := 0) hx hb hr (fun zt ht hW => ⟨⟨0, (), rfl, (by unfold aY; rw [if_pos (bz_1 c_2), if_pos (bz_1 c_4), if_pos (bz_1 c_6)]), by rw [ht]; exact hP9, hD9⟩, hS.F ht⟩) hS.2.2 dX9_years_147
                · skip
                  refine lv_iload hx hb dX9_years_140 (lv_at hl 1 rfl) ?_
                  refine lv_goto (tgt := 147) hx hb dX9_years_142 (by decide) ?_
                  rw [hQ]
                  have hP9 := hP.sub (ws' := []) [] rfl
                  have hD9 := hD.sub (ws' := []) [] (by decide) rfl
                  exact W.iret (v := 0) hx hb hr (fun zt ht hW => ⟨⟨0, (), rfl, (by unfold aY; rw [if_pos (bz_1 c_2), if_pos (bz_1 c_4), if_pos (bz_1 c_6)]), by rw [ht]; exact hP9, hD9⟩, hS.F ht⟩) hS.2.2 dX9_years_147
              · skip
                refine lv_iload hx hb dX9_years_130 (lv_at hl 2 rfl) ?_
                refine lv_goto (tgt := 147) hx hb dX9_years_132 (by decide) ?_
                rw [hQ]
                have hP9 := hP.sub (ws' := []) [] rfl
                have hD9 := hD.sub (ws' := []) [] (by decide) rfl
                exact W.iret (v := 0) hx hb hr (fun zt ht hW => ⟨⟨0, (), rfl, (by unfold aY; rw [if_pos (bz_1 c_2), if_pos (bz_1 c_4), if_pos (bz_1 c_6)]), by rw [ht]; exact hP9, hD9⟩, hS.F ht⟩) hS.2.2 dX9_years_147
            · skip
              have k_8 : ¬ (N ≤ j) := fun h => c_8 ((nI_leI (a := N) (b := j) (by omega) (by omega)).mpr h)
              refine lv_aload_n hx hb dX9_years_67 rfl (lv_at hl 4 rfl) ?_
              refine kz_Vv (As := []) (rest := []) (wc := [(y, kO 9 [.int 0, .int y_taped, y_tape, .int y_size, .int y_place, .int y_begin, .int y_token, .long y_word, .int y_told, .int y_wrong, .ref b_supper, y_guestName, y_kind, y_offTold, y_pace, y_cooks, y_snow, y_lineFrom, y_lineTo, y_codes, .int y_code, .int y_toldLines, y_opened, y_compared, y_kept, y_keptBy, y_ahead, y_against, y_sum, y_sumBy, y_term, y_termBy, y_byNot, y_valueOf, .int y_given, y_lines, y_lineWhat, y_lineA, y_lineB, y_seens, y_seenIn, y_seenYards, y_seenNear, .ref b_s, .ref b_aside, y_before, y_marked, y_undone, y_isLaid, .int y_done, .int y_snowNow, .int w9, .int y_cookThen, .int y_tasteThen, y_places, y_comesAt, y_yardsIn, .long g9]), (b_supper, kI k 8 c_supper), (b_s, kI k 46 s9)]) (wr := [(b_aside, kI k 46 (va_cpy c_s c_aside 0 0 46))]) ⟨hx, hb, hml, hown, hts⟩ hK hE hP hD hS hA (mX9_livesMinute l D k H.size y 0 y_taped y_tape y_size y_place y_begin y_token y_word y_told y_wrong b_supper y_guestName y_kind y_offTold y_pace y_cooks y_snow y_lineFrom y_lineTo y_codes y_code y_toldLines y_opened y_compared y_kept y_keptBy y_ahead y_against y_sum y_sumBy y_term y_termBy y_byNot y_valueOf y_given y_lines y_lineWhat y_lineA y_lineB y_seens y_seenIn y_seenYards y_seenNear b_s (.ref b_aside) y_before y_marked y_undone y_isLaid y_done y_snowNow w9 y_cookThen y_tasteThen y_places y_comesAt y_yardsIn g9 c_supper s9 hs0) (cwV 0 hts gX9_years_X9_livesMinute rfl rfl rfl (by decide +kernel) (by rw [hR]; exact ⟨Nat.le_of_ble_eq_true rfl, Nat.le_of_ble_eq_true rfl⟩)) [0, 1, 2] [3] rfl rfl (by decide) (by decide) (by decide) 0 rfl rfl rfl hl.1 rfl (Nat.le_of_ble_eq_true rfl) dX9_years_68 (by rw [hR]; exact ⟨Nat.le_of_ble_eq_true rfl, Nat.le_of_ble_eq_true rfl⟩) (fun u19 H locs hw19 hP hD hS => ?_)
              have hP : va_P D vwCl [(b_aside, kI k 46 (va_cpy c_s c_aside 0 0 46)), (y, kO 9 [.int 0, .int y_taped, y_tape, .int y_size, .int y_place, .int y_begin, .int y_token, .long y_word, .int y_told, .int y_wrong, .ref b_supper, y_guestName, y_kind, y_offTold, y_pace, y_cooks, y_snow, y_lineFrom, y_lineTo, y_codes, .int y_code, .int y_toldLines, y_opened, y_compared, y_kept, y_keptBy, y_ahead, y_against, y_sum, y_sumBy, y_term, y_termBy, y_byNot, y_valueOf, .int y_given, y_lines, y_lineWhat, y_lineA, y_lineB, y_seens, y_seenIn, y_seenYards, y_seenNear, .ref b_s, .ref b_aside, y_before, y_marked, y_undone, y_isLaid, .int y_done, .int y_snowNow, .int 0, .int y_cookThen, .int y_tasteThen, y_places, y_comesAt, y_yardsIn, .long g9]), (b_supper, kI k 8 c_supper), (b_s, kI k 46 (upd s9 (Int32.toNatClampNeg 1) (s9 (Int32.toNatClampNeg 1) + 1)))] H := hP
              have hD : va_D A [(b_aside, kI k 46 (va_cpy c_s c_aside 0 0 46)), (y, kO 9 [.int 0, .int y_taped, y_tape, .int y_size, .int y_place, .int y_begin, .int y_token, .long y_word, .int y_told, .int y_wrong, .ref b_supper, y_guestName, y_kind, y_offTold, y_pace, y_cooks, y_snow, y_lineFrom, y_lineTo, y_codes, .int y_code, .int y_toldLines, y_opened, y_compared, y_kept, y_keptBy, y_ahead, y_against, y_sum, y_sumBy, y_term, y_termBy, y_byNot, y_valueOf, .int y_given, y_lines, y_lineWhat, y_lineA, y_lineB, y_seens, y_seenIn, y_seenYards, y_seenNear, .ref b_s, .ref b_aside, y_before, y_marked, y_undone, y_isLaid, .int y_done, .int y_snowNow, .int 0, .int y_cookThen, .int y_tasteThen, y_places, y_comesAt, y_yardsIn, .long g9]), (b_supper, kI k 8 c_supper), (b_s, kI k 46 (upd s9 (Int32.toNatClampNeg 1) (s9 (Int32.toNatClampNeg 1) + 1)))] := hD
              refine lv_iinc (v := (nI (j + 1))) (lv' := [(4, .int (nI (j + 1))), (3, .int q3), (2, .int (nI N)), (1, .int q1), (0, .ref y)]) hx hb dX9_years_71 hl (k := 0) rfl (nI_1 _) (by decide) rfl (fun ls hl => ?_)
              refine lv_goto (tgt := 61) hx hb dX9_years_74 (by decide) ?_
              exact ih61 (j + 1) 0 (upd s9 (Int32.toNatClampNeg 1) (s9 (Int32.toNatClampNeg 1) + 1)) g9 (by omega) (by omega) ((pk_un (by decide)).trans h2) ((pk_un (by decide)).trans h3) _ _ _ (hP.sub [1, 2, 3, 0] rfl) (hD.sub [1, 2, 3, 0] (by decide) rfl) hS (lv_sub hl [0, 1, 2, 3, 4] rfl)
        exact hloop61 ((N - 0) + 1) 0 y_cameNow c_s q1.toInt64 (Nat.lt_succ_self _) (by omega) (hz2) (hz3) _ _ _ (hP.sub [0, 1, 2, 3] rfl) (hD.sub [0, 1, 2, 3] (by decide) rfl) hS (lv_sub hl [0, 4, 3, 2, 1] rfl)
      · skip
        refine lv_ldcw hx hb hown lc452 dX9_years_35 ?_
        rw [hQ]
        have hP9 := hP.sub (ws' := []) [] rfl
        have hD9 := hD.sub (ws' := []) [] (by decide) rfl
        exact W.iret (v := (-100000)) hx hb hr (fun zt ht hW => ⟨⟨(-100000), (), rfl, (by unfold aY; rw [if_pos (bz_1 c_2), if_pos (bz_1 c_4), if_neg (bz_0 c_6)]), by rw [ht]; exact hP9, hD9⟩, hS.F ht⟩) hS.2.2 dX9_years_38
