theorem dX1_read_0 : decode cX1_read 0 = .ok (.aload_n 0, 1) := by decide +kernel
theorem dX1_read_1 : decode cX1_read 1 = .ok (.invokevirtual 31, 3) := by decide +kernel
theorem dX1_read_4 : decode cX1_read 4 = .ok (.iconst 0, 1) := by decide +kernel
theorem dX1_read_5 : decode cX1_read 5 = .ok (.istore_n 3, 1) := by decide +kernel
theorem dX1_read_6 : decode cX1_read 6 = .ok (.iload_n 3, 1) := by decide +kernel
theorem dX1_read_7 : decode cX1_read 7 = .ok (.sipush 1000, 3) := by decide +kernel
theorem dX1_read_10 : decode cX1_read 10 = .ok (.if_icmp .ge 36, 3) := by decide +kernel
theorem dX1_read_13 : decode cX1_read 13 = .ok (.aload_n 1, 1) := by decide +kernel
theorem dX1_read_14 : decode cX1_read 14 = .ok (.invokevirtual 36, 3) := by decide +kernel
theorem dX1_read_17 : decode cX1_read 17 = .ok (.ifCond .ne 29, 3) := by decide +kernel
theorem dX1_read_46 : decode cX1_read 46 = .ok (.iconst 1, 1) := by decide +kernel
theorem dX1_read_47 : decode cX1_read 47 = .ok (.ireturn, 1) := by decide +kernel
set_option maxRecDepth 20000 in
theorem ggX1_read_X1_clear : GoodIn wsX1_read wsX1_clear := goodIn_r _ [5, 6, 187, 188, 189, 190] rfl (by decide +kernel)
set_option maxRecDepth 20000 in
theorem gX1_read_X1_clear : GoodIn wsX1_read (wsV RX1 31 RX1 yX1_clear wsX1_clear) := goodIn_app (goodIn_of _ (by decide +kernel)) ggX1_read_X1_clear
set_option maxRecDepth 20000 in
theorem ggX1_read_X6_isAtEnd : GoodIn wsX1_read wsX6_isAtEnd := goodIn_r _ [11, 12, 191, 192, 193, 194, 195, 196, 197, 198, 199] rfl (by decide +kernel)
set_option maxRecDepth 20000 in
theorem gX1_read_X6_isAtEnd : GoodIn wsX1_read (wsV RX1 36 RX6 yX6_isAtEnd wsX6_isAtEnd) := goodIn_app (goodIn_of _ (by decide +kernel)) ggX1_read_X6_isAtEnd
set_option maxHeartbeats 4000000 in
set_option maxRecDepth 100000 in
theorem mX1_read (l : Launch) (D : va_G) (k : Nat → ClassId) (sz : Nat) (dl : Nat) (tp : Nat) (td : Nat) (dl_deeds : Value) (dl_guests : Value) (dl_wholes : Value) (dl_size : Int32) (tp_signs : Value) (tp_words : Value) (tp_length : Int32) (tp_next : Int32) (tp_place : Int32) (tp_value : Int32) (tp_letters : Int64) (tp_fault : Int32) : Met l yX1_read wsX1_read ({ frames := 1, cells := 0, slots := 0, locals := 70 }) (va_Pc [.ref dl, .ref tp, .ref td] (kz_Pre D k [(dl, kO 1 [dl_deeds, dl_guests, dl_wholes, .int dl_size]), (tp, kO 6 [tp_signs, tp_words, .int tp_length, .int tp_next, .int tp_place, .int 0, .int tp_value, .long tp_letters, .int tp_fault])] sz)) (va_Qi (fun (rr : Int32) (uu : Unit) => rr = 1) (fun uu zt => kz_B D (va_A [(dl, kO 1 [dl_deeds, dl_guests, dl_wholes, .int dl_size]), (tp, kO 6 [tp_signs, tp_words, .int tp_length, .int tp_next, .int tp_place, .int 0, .int tp_value, .long tp_letters, .int tp_fault])] sz) [(dl, kO 1 [dl_deeds, dl_guests, dl_wholes, .int 0]), (tp, kO 6 [tp_signs, tp_words, .int tp_length, .int tp_next, .int tp_place, .int 0, .int tp_value, .long tp_letters, .int tp_fault])] zt) (va_A [(dl, kO 1 [dl_deeds, dl_guests, dl_wholes, .int dl_size]), (tp, kO 6 [tp_signs, tp_words, .int tp_length, .int tp_next, .int tp_place, .int 0, .int tp_value, .long tp_letters, .int tp_fault])] sz)) 0 0 (va_A [(dl, kO 1 [dl_deeds, dl_guests, dl_wholes, .int dl_size]), (tp, kO 6 [tp_signs, tp_words, .int tp_length, .int tp_next, .int tp_place, .int 0, .int tp_value, .long tp_letters, .int tp_fault])] sz) := by
  refine Met.ofW (cc := cX1_read) (maxL := 4) (ret := (some .boolean)) (by decide) rfl ?_
  intro p e s m args below meth c s₁ B hml hv
  obtain ⟨hav, hsz, hP, hK, hD0, hE⟩ := hv
  have hx := B.exec
  have hb := B.bytes
  have hr := B.returns
  have hts := atoms_spec (ws := wsX1_read) B.pre
  have hown : s.vm.findClass RX1 = some m.cls := findClass_of_methodNamed B.named
  have hlocks := B.notSynchronized
  subst hsz
  have hD := hD0.self (sz := s.heap.size)
  generalize hAe : va_A [(dl, kO 1 [dl_deeds, dl_guests, dl_wholes, .int dl_size]), (tp, kO 6 [tp_signs, tp_words, .int tp_length, .int tp_next, .int tp_place, .int 0, .int tp_value, .long tp_letters, .int tp_fault])] s.heap.size = A at hD ⊢
  have hA : ∀ q : Nat, s.heap.size ≤ q → A q := fun q h => by rw [← hAe]; exact Or.inr h
  have hS : va_S A s.heap s.heap [] := va_S.rf
  have hl := lv_entry ([.ref dl, .ref tp, .ref td]) (n := 4) (Nat.le_of_ble_eq_true rfl)
  rw [show entryFrame m args 4 = entryFrame m ([.ref dl, .ref tp, .ref td] : List Value).toArray 4 by rw [hav], lg_entry_eq]
  generalize (lg_sl ([.ref dl, .ref tp, .ref td]) ++ List.replicate (4 - (lg_sl ([.ref dl, .ref tp, .ref td])).length) Slot.unset).toArray = ls at hl ⊢
  have hl : lv_has ls 4 [(0, .ref dl), (1, .ref tp), (2, .ref td)] := hl
  obtain ⟨R, hR⟩ : ∃ R, R = (headSpec wsX1_read ({ frames := 1, cells := 0, slots := 0, locals := 70 } : Room)).room := ⟨_, rfl⟩
  rw [← hR]
  generalize hQ : MQ below _ args s 0 0 A = Q
  replace hQ := hQ.symm
  obtain ⟨H, hH⟩ : ∃ H, H = s.heap := ⟨_, rfl⟩
  rw [← hH] at hP ⊢
  have hS : va_S A s.heap H [] := by rw [hH]; exact hS
  refine lv_aload_n hx hb dX1_read_0 rfl (lv_at hl 0 rfl) ?_
  refine kz_Vv (As := []) (rest := []) (wc := [(dl, kO 1 [dl_deeds, dl_guests, dl_wholes, .int dl_size])]) (wr := [(tp, kO 6 [tp_signs, tp_words, .int tp_length, .int tp_next, .int tp_place, .int 0, .int tp_value, .long tp_letters, .int tp_fault])]) ⟨hx, hb, hml, hown, hts⟩ hK hE hP hD hS hA (mX1_clear l D k H.size dl dl_deeds dl_guests dl_wholes dl_size) (cwV 0 hts gX1_read_X1_clear rfl rfl rfl (by decide +kernel) (by rw [hR]; exact ⟨Nat.le_of_ble_eq_true rfl, Nat.le_of_ble_eq_true rfl⟩)) [0] [1] rfl rfl (by decide) (by decide) (by decide) 0 rfl rfl rfl hl.1 rfl (Nat.le_of_ble_eq_true rfl) dX1_read_1 (by rw [hR]; exact ⟨Nat.le_of_ble_eq_true rfl, Nat.le_of_ble_eq_true rfl⟩) (fun u1 H locs hw1 hP hD hS => ?_)
  have hP : va_P D vwCl [(tp, kO 6 [tp_signs, tp_words, .int tp_length, .int tp_next, .int tp_place, .int 0, .int tp_value, .long tp_letters, .int tp_fault]), (dl, kO 1 [dl_deeds, dl_guests, dl_wholes, .int 0])] H := hP
  have hD : va_D A [(tp, kO 6 [tp_signs, tp_words, .int tp_length, .int tp_next, .int tp_place, .int 0, .int tp_value, .long tp_letters, .int tp_fault]), (dl, kO 1 [dl_deeds, dl_guests, dl_wholes, .int 0])] := hD
  refine lv_iconst (v := 0) hx hb dX1_read_4 (by decide) ?_
  refine lv_istore_n (lv' := [(3, .int 0), (0, .ref dl), (1, .ref tp), (2, .ref td)]) hx hb dX1_read_5 rfl hl (by decide) rfl (fun ls hl => ?_)
  refine lv_iload_n hx hb dX1_read_6 rfl (lv_at hl 0 rfl) ?_
  refine lv_sipush (v := 1000) hx hb dX1_read_7 (by decide) ?_
  refine lv_icmp_ge (tgt := 46) hx hb dX1_read_10 (by decide) (fun c_2 => absurd c_2 (by decide)) (fun c_2 => ?_)
  refine lv_aload_n hx hb dX1_read_13 rfl (lv_at hl 2 rfl) ?_
  refine kz_Vi (As := []) (rest := []) (wc := [(tp, kO 6 [tp_signs, tp_words, .int tp_length, .int tp_next, .int tp_place, .int 0, .int tp_value, .long tp_letters, .int tp_fault])]) (wr := [(dl, kO 1 [dl_deeds, dl_guests, dl_wholes, .int 0])]) ⟨hx, hb, hml, hown, hts⟩ hK hE hP hD hS hA (mX6_isAtEnd l D k H.size tp tp_signs tp_words tp_length tp_next tp_place tp_value tp_letters tp_fault) (cwV 0 hts gX1_read_X6_isAtEnd rfl rfl rfl (by decide +kernel) (by rw [hR]; exact ⟨Nat.le_of_ble_eq_true rfl, Nat.le_of_ble_eq_true rfl⟩)) [0] [1] rfl rfl (by decide) (by decide) (by decide) 0 rfl rfl rfl hl.1 rfl (Nat.le_of_ble_eq_true rfl) dX1_read_14 (by rw [hR]; exact ⟨Nat.le_of_ble_eq_true rfl, Nat.le_of_ble_eq_true rfl⟩) (fun r3 u3 H locs hw3 hP hD hS => ?_)
  try dsimp only at hw3
  obtain rfl : r3 = 1 := hw3
  have hP : va_P D vwCl [(dl, kO 1 [dl_deeds, dl_guests, dl_wholes, .int 0]), (tp, kO 6 [tp_signs, tp_words, .int tp_length, .int tp_next, .int tp_place, .int 0, .int tp_value, .long tp_letters, .int tp_fault])] H := hP
  have hD : va_D A [(dl, kO 1 [dl_deeds, dl_guests, dl_wholes, .int 0]), (tp, kO 6 [tp_signs, tp_words, .int tp_length, .int tp_next, .int tp_place, .int 0, .int tp_value, .long tp_letters, .int tp_fault])] := hD
  refine lv_if_ne (tgt := 46) hx hb dX1_read_17 (by decide) (fun c_4 => ?_) (fun c_4 => absurd c_4 (by decide))
  refine lv_iconst (v := 1) hx hb dX1_read_46 (by decide) ?_
  rw [hQ]
  have hP9 := hP.sub (ws' := [(dl, kO 1 [dl_deeds, dl_guests, dl_wholes, .int 0]), (tp, kO 6 [tp_signs, tp_words, .int tp_length, .int tp_next, .int tp_place, .int 0, .int tp_value, .long tp_letters, .int tp_fault])]) [0, 1] rfl
  have hD9 := hD.sub (ws' := [(dl, kO 1 [dl_deeds, dl_guests, dl_wholes, .int 0]), (tp, kO 6 [tp_signs, tp_words, .int tp_length, .int tp_next, .int tp_place, .int 0, .int tp_value, .long tp_letters, .int tp_fault])]) [0, 1] (by decide) rfl
  exact W.zret (v := 1) hx hb hr rfl (fun zt ht hW => ⟨⟨1, (), rfl, rfl, by rw [ht]; exact hP9, hD9⟩, hS.F ht⟩) hS.2.2 dX1_read_47
theorem dX8_night_0 : decode cX8_night 0 = .ok (.aload_n 0, 1) := by decide +kernel
theorem dX8_night_1 : decode cX8_night 1 = .ok (.getfield 10, 3) := by decide +kernel
theorem dX8_night_4 : decode cX8_night 4 = .ok (.invokevirtual 75, 3) := by decide +kernel
theorem dX8_night_7 : decode cX8_night 7 = .ok (.aload_n 0, 1) := by decide +kernel
theorem dX8_night_8 : decode cX8_night 8 = .ok (.getfield 33, 3) := by decide +kernel
theorem dX8_night_11 : decode cX8_night 11 = .ok (.aload_n 0, 1) := by decide +kernel
theorem dX8_night_12 : decode cX8_night 12 = .ok (.getfield 10, 3) := by decide +kernel
theorem dX8_night_15 : decode cX8_night 15 = .ok (.aload_n 0, 1) := by decide +kernel
theorem dX8_night_16 : decode cX8_night 16 = .ok (.getfield 19, 3) := by decide +kernel
theorem dX8_night_19 : decode cX8_night 19 = .ok (.invokevirtual 102, 3) := by decide +kernel
theorem dX8_night_22 : decode cX8_night 22 = .ok (.istore_n 1, 1) := by decide +kernel
theorem dX8_night_23 : decode cX8_night 23 = .ok (.aload_n 0, 1) := by decide +kernel
theorem dX8_night_24 : decode cX8_night 24 = .ok (.getfield 10, 3) := by decide +kernel
theorem dX8_night_27 : decode cX8_night 27 = .ok (.invokevirtual 82, 3) := by decide +kernel
theorem dX8_night_30 : decode cX8_night 30 = .ok (.iload_n 1, 1) := by decide +kernel
theorem dX8_night_31 : decode cX8_night 31 = .ok (.ifCond .ne 11, 3) := by decide +kernel
theorem dX8_night_42 : decode cX8_night 42 = .ok (.aload_n 0, 1) := by decide +kernel
theorem dX8_night_43 : decode cX8_night 43 = .ok (.getfield 29, 3) := by decide +kernel
theorem dX8_night_46 : decode cX8_night 46 = .ok (.astore_n 2, 1) := by decide +kernel
theorem dX8_night_47 : decode cX8_night 47 = .ok (.aload_n 0, 1) := by decide +kernel
theorem dX8_night_48 : decode cX8_night 48 = .ok (.aload_n 0, 1) := by decide +kernel
theorem dX8_night_49 : decode cX8_night 49 = .ok (.getfield 33, 3) := by decide +kernel
theorem dX8_night_52 : decode cX8_night 52 = .ok (.putfield 29, 3) := by decide +kernel
theorem dX8_night_55 : decode cX8_night 55 = .ok (.aload_n 0, 1) := by decide +kernel
theorem dX8_night_56 : decode cX8_night 56 = .ok (.aload_n 2, 1) := by decide +kernel
theorem dX8_night_57 : decode cX8_night 57 = .ok (.putfield 33, 3) := by decide +kernel
theorem dX8_night_60 : decode cX8_night 60 = .ok (.iconst 0, 1) := by decide +kernel
theorem dX8_night_61 : decode cX8_night 61 = .ok (.ireturn, 1) := by decide +kernel
set_option maxRecDepth 20000 in
theorem ggX8_night_X6_rewind : GoodIn wsX8_night wsX6_rewind := goodIn_r _ [10, 11, 12, 13, 14, 15, 9, 16, 17, 18, 19, 20, 21, 22, 23, 24, 25, 26, 27, 28, 29, 30, 31, 32, 33, 34, 35, 36, 37, 38, 39, 40, 41, 42, 43, 44, 45, 46, 47, 48, 49, 50, 51, 52, 53, 54, 55, 56, 57, 58, 59, 60, 61, 62, 63, 64, 65, 66, 67, 68, 69, 70, 71, 72, 73, 74, 75, 76, 77, 78, 79, 80, 81, 82, 83, 84, 85, 86, 87, 88, 89, 90, 91, 92, 93, 94, 95, 96, 97, 98, 99, 100, 101, 102, 103, 104, 105, 106, 107, 108, 109, 110, 111, 112, 113, 114, 115, 116, 117, 118, 119, 120, 121, 122, 123, 124, 125, 126, 127, 128, 129, 130, 215, 216, 217, 218, 219, 220, 221, 222, 223] rfl (by decide +kernel)
set_option maxRecDepth 20000 in
theorem gX8_night_X6_rewind : GoodIn wsX8_night (wsV RX8 75 RX6 yX6_rewind wsX6_rewind) := goodIn_app (goodIn_of _ (by decide +kernel)) ggX8_night_X6_rewind
set_option maxRecDepth 20000 in
theorem ggX8_night_X1_read : GoodIn wsX8_night wsX1_read := goodIn_r _ [135, 136, 137, 138, 134, 139, 140, 141, 142, 143, 9, 144, 21, 145, 146, 147, 148, 149, 150, 151, 152, 153, 154, 155, 20, 156, 157, 158, 159, 19, 12, 160, 14, 15, 16, 11, 17, 18, 22, 23, 24, 25, 26, 27, 28, 29, 30, 31, 32, 33, 34, 35, 36, 37, 38, 39, 40, 41, 42, 43, 44, 45, 46, 47, 48, 49, 50, 51, 52, 53, 54, 55, 56, 57, 58, 59, 60, 61, 62, 63, 64, 65, 66, 67, 68, 69, 70, 71, 72, 73, 74, 75, 76, 77, 78, 79, 80, 81, 82, 83, 84, 85, 86, 87, 88, 89, 90, 91, 92, 93, 94, 95, 96, 97, 98, 99, 100, 101, 102, 103, 104, 105, 106, 107, 108, 109, 110, 111, 112, 113, 114, 115, 116, 117, 118, 119, 120, 121, 122, 123, 124, 125, 126, 127, 128, 129, 130, 161, 162, 163, 164, 165, 166, 167, 168, 169, 170, 171, 172, 173, 174, 175, 176, 177, 178, 179, 180, 181, 182, 183, 184, 185, 186, 187, 188, 189, 190, 191, 13, 192, 193, 194, 195, 196, 197, 198, 199, 224, 225, 226, 227, 215, 216, 217, 218, 219, 220, 221, 222, 223, 228, 229, 230, 231, 232, 233, 234, 235, 236, 237, 238, 239, 240] rfl (by decide +kernel)
set_option maxRecDepth 20000 in
theorem gX8_night_X1_read : GoodIn wsX8_night (wsV RX8 102 RX1 yX1_read wsX1_read) := goodIn_app (goodIn_of _ (by decide +kernel)) ggX8_night_X1_read
set_option maxRecDepth 20000 in
theorem ggX8_night_X6_clear : GoodIn wsX8_night wsX6_clear := goodIn_r _ [203, 17, 215, 216, 217, 218, 219, 220, 221, 222, 223] rfl (by decide +kernel)
set_option maxRecDepth 20000 in
theorem gX8_night_X6_clear : GoodIn wsX8_night (wsV RX8 82 RX6 yX6_clear wsX6_clear) := goodIn_app (goodIn_of _ (by decide +kernel)) ggX8_night_X6_clear
set_option maxHeartbeats 4000000 in
set_option maxRecDepth 100000 in
theorem mX8_night (l : Launch) (D : va_G) (k : Nat → ClassId) (sz : Nat) (x : Nat) (tp : Nat) (td : Nat) (x_draft : Value) (li : Nat) (dl : Nat) (x_now : Value) (x_trial : Value) (x_sights : Value) (x_past : Value) (x_marks : Value) (x_drawn : Int64) (tp_signs : Value) (tp_words : Value) (tp_next : Int32) (tp_place : Int32) (tp_kind : Int32) (tp_value : Int32) (tp_letters : Int64) (tp_fault : Int32) (dl_deeds : Value) (dl_guests : Value) (dl_wholes : Value) (dl_size : Int32) : Met l yX8_night wsX8_night ({ frames := 2, cells := 0, slots := 0, locals := 140 }) (va_Pc [.ref x] (kz_Pre D k [(x, kO 8 [.ref tp, .ref td, x_draft, .ref li, .ref dl, x_now, x_trial, x_sights, x_past, x_marks, .long x_drawn]), (tp, kO 6 [tp_signs, tp_words, .int 0, .int tp_next, .int tp_place, .int tp_kind, .int tp_value, .long tp_letters, .int tp_fault]), (dl, kO 1 [dl_deeds, dl_guests, dl_wholes, .int dl_size])] sz)) (va_Qi (fun (rr : Int32) (uu : Unit) => rr = 0) (fun uu zt => kz_B D (va_A [(x, kO 8 [.ref tp, .ref td, x_draft, .ref li, .ref dl, x_now, x_trial, x_sights, x_past, x_marks, .long x_drawn]), (tp, kO 6 [tp_signs, tp_words, .int 0, .int tp_next, .int tp_place, .int tp_kind, .int tp_value, .long tp_letters, .int tp_fault]), (dl, kO 1 [dl_deeds, dl_guests, dl_wholes, .int dl_size])] sz) [] zt) (va_A [(x, kO 8 [.ref tp, .ref td, x_draft, .ref li, .ref dl, x_now, x_trial, x_sights, x_past, x_marks, .long x_drawn]), (tp, kO 6 [tp_signs, tp_words, .int 0, .int tp_next, .int tp_place, .int tp_kind, .int tp_value, .long tp_letters, .int tp_fault]), (dl, kO 1 [dl_deeds, dl_guests, dl_wholes, .int dl_size])] sz)) 0 0 (va_A [(x, kO 8 [.ref tp, .ref td, x_draft, .ref li, .ref dl, x_now, x_trial, x_sights, x_past, x_marks, .long x_drawn]), (tp, kO 6 [tp_signs, tp_words, .int 0, .int tp_next, .int tp_place, .int tp_kind, .int tp_value, .long tp_letters, .int tp_fault]), (dl, kO 1 [dl_deeds, dl_guests, dl_wholes, .int dl_size])] sz) := by
  refine Met.ofW (cc := cX8_night) (maxL := 3) (ret := (some .int)) (by decide) rfl ?_
  intro p e s m args below meth c s₁ B hml hv
  obtain ⟨hav, hsz, hP, hK, hD0, hE⟩ := hv
  have hx := B.exec
  have hb := B.bytes
  have hr := B.returns
  have hts := atoms_spec (ws := wsX8_night) B.pre
  have hown : s.vm.findClass RX8 = some m.cls := findClass_of_methodNamed B.named
  have hlocks := B.notSynchronized
  have hi8 : ∀ w ∈ u_ws RX8 TX8 11, w ∈ wsX8_night := by decide +kernel
  have lf10 := hts (.fieldLink RX8 10 "LastCook" "tape" "LLastCook$Tape;") (by decide +kernel)
  have lf33 := hts (.fieldLink RX8 33 "LastCook" "draftLines" "LLastCook$Lines;") (by decide +kernel)
  have lf19 := hts (.fieldLink RX8 19 "LastCook" "told" "LLastCook$Told;") (by decide +kernel)
  have lf29 := hts (.fieldLink RX8 29 "LastCook" "lines" "LLastCook$Lines;") (by decide +kernel)
  subst hsz
  have hD := hD0.self (sz := s.heap.size)
  generalize hAe : va_A [(x, kO 8 [.ref tp, .ref td, x_draft, .ref li, .ref dl, x_now, x_trial, x_sights, x_past, x_marks, .long x_drawn]), (tp, kO 6 [tp_signs, tp_words, .int 0, .int tp_next, .int tp_place, .int tp_kind, .int tp_value, .long tp_letters, .int tp_fault]), (dl, kO 1 [dl_deeds, dl_guests, dl_wholes, .int dl_size])] s.heap.size = A at hD ⊢
  have hA : ∀ q : Nat, s.heap.size ≤ q → A q := fun q h => by rw [← hAe]; exact Or.inr h
  have hS : va_S A s.heap s.heap [] := va_S.rf
  have hl := lv_entry ([.ref x]) (n := 3) (Nat.le_of_ble_eq_true rfl)
  rw [show entryFrame m args 3 = entryFrame m ([.ref x] : List Value).toArray 3 by rw [hav], lg_entry_eq]
  generalize (lg_sl ([.ref x]) ++ List.replicate (3 - (lg_sl ([.ref x])).length) Slot.unset).toArray = ls at hl ⊢
  have hl : lv_has ls 3 [(0, .ref x)] := hl
  obtain ⟨R, hR⟩ : ∃ R, R = (headSpec wsX8_night ({ frames := 2, cells := 0, slots := 0, locals := 140 } : Room)).room := ⟨_, rfl⟩
  rw [← hR]
  generalize hQ : MQ below _ args s 0 0 A = Q
  replace hQ := hQ.symm
  obtain ⟨H, hH⟩ : ∃ H, H = s.heap := ⟨_, rfl⟩
  rw [← hH] at hP ⊢
  have hS : va_S A s.heap H [] := by rw [hH]; exact hS
  refine lv_aload_n hx hb dX8_night_0 rfl (lv_at hl 0 rfl) ?_
  refine va_get (D := D) (ci := 8) (v := .ref tp) (C := RX8) (T := TX8) (N := 11) hx hb hts hi8 hown hK hP 0 rfl rfl 0 (by decide) lf10 (fun _ h9 => h9) rfl dX8_night_1 ?_
  refine kz_Vv (As := []) (rest := []) (wc := [(tp, kO 6 [tp_signs, tp_words, .int 0, .int tp_next, .int tp_place, .int tp_kind, .int tp_value, .long tp_letters, .int tp_fault])]) (wr := [(x, kO 8 [.ref tp, .ref td, x_draft, .ref li, .ref dl, x_now, x_trial, x_sights, x_past, x_marks, .long x_drawn]), (dl, kO 1 [dl_deeds, dl_guests, dl_wholes, .int dl_size])]) ⟨hx, hb, hml, hown, hts⟩ hK hE hP hD hS hA (mX6_rewind l D k H.size tp tp_signs tp_words tp_next tp_place tp_kind tp_value tp_letters tp_fault) (cwV 0 hts gX8_night_X6_rewind rfl rfl rfl (by decide +kernel) (by rw [hR]; exact ⟨Nat.le_of_ble_eq_true rfl, Nat.le_of_ble_eq_true rfl⟩)) [1] [0, 2] rfl rfl (by decide) (by decide) (by decide) 0 rfl rfl rfl hl.1 rfl (Nat.le_of_ble_eq_true rfl) dX8_night_4 (by rw [hR]; exact ⟨Nat.le_of_ble_eq_true rfl, Nat.le_of_ble_eq_true rfl⟩) (fun u1 H locs hw1 hP hD hS => ?_)
  have hP : va_P D vwCl [(x, kO 8 [.ref tp, .ref td, x_draft, .ref li, .ref dl, x_now, x_trial, x_sights, x_past, x_marks, .long x_drawn]), (dl, kO 1 [dl_deeds, dl_guests, dl_wholes, .int dl_size]), (tp, kO 6 [tp_signs, tp_words, .int 0, .int 0, .int 0, .int 0, .int (-1), .long tp_letters, .int 0])] H := hP
  have hD : va_D A [(x, kO 8 [.ref tp, .ref td, x_draft, .ref li, .ref dl, x_now, x_trial, x_sights, x_past, x_marks, .long x_drawn]), (dl, kO 1 [dl_deeds, dl_guests, dl_wholes, .int dl_size]), (tp, kO 6 [tp_signs, tp_words, .int 0, .int 0, .int 0, .int 0, .int (-1), .long tp_letters, .int 0])] := hD
  refine lv_aload_n hx hb dX8_night_7 rfl (lv_at hl 0 rfl) ?_
  refine va_get (D := D) (ci := 8) (v := .ref dl) (C := RX8) (T := TX8) (N := 11) hx hb hts hi8 hown hK hP 0 rfl rfl 4 (by decide) lf33 (fun _ h9 => h9) rfl dX8_night_8 ?_
  refine lv_aload_n hx hb dX8_night_11 rfl (lv_at hl 0 rfl) ?_
  refine va_get (D := D) (ci := 8) (v := .ref tp) (C := RX8) (T := TX8) (N := 11) hx hb hts hi8 hown hK hP 0 rfl rfl 0 (by decide) lf10 (fun _ h9 => h9) rfl dX8_night_12 ?_
  refine lv_aload_n hx hb dX8_night_15 rfl (lv_at hl 0 rfl) ?_
  refine va_get (D := D) (ci := 8) (v := .ref td) (C := RX8) (T := TX8) (N := 11) hx hb hts hi8 hown hK hP 0 rfl rfl 1 (by decide) lf19 (fun _ h9 => h9) rfl dX8_night_16 ?_
  refine kz_Vi (As := [.ref tp, .ref td]) (rest := []) (wc := [(dl, kO 1 [dl_deeds, dl_guests, dl_wholes, .int dl_size]), (tp, kO 6 [tp_signs, tp_words, .int 0, .int 0, .int 0, .int 0, .int (-1), .long tp_letters, .int 0])]) (wr := [(x, kO 8 [.ref tp, .ref td, x_draft, .ref li, .ref dl, x_now, x_trial, x_sights, x_past, x_marks, .long x_drawn])]) ⟨hx, hb, hml, hown, hts⟩ hK hE hP hD hS hA (mX1_read l D k H.size dl tp td dl_deeds dl_guests dl_wholes dl_size tp_signs tp_words 0 0 0 (-1) tp_letters 0) (cwV 2 hts gX8_night_X1_read rfl rfl rfl (by decide +kernel) (by rw [hR]; exact ⟨Nat.le_of_ble_eq_true rfl, Nat.le_of_ble_eq_true rfl⟩)) [1, 2] [0] rfl rfl (by decide) (by decide) (by decide) 0 rfl rfl rfl hl.1 rfl (Nat.le_of_ble_eq_true rfl) dX8_night_19 (by rw [hR]; exact ⟨Nat.le_of_ble_eq_true rfl, Nat.le_of_ble_eq_true rfl⟩) (fun r2 u2 H locs hw2 hP hD hS => ?_)
  try dsimp only at hw2
  obtain rfl : r2 = 1 := hw2
  have hP : va_P D vwCl [(x, kO 8 [.ref tp, .ref td, x_draft, .ref li, .ref dl, x_now, x_trial, x_sights, x_past, x_marks, .long x_drawn]), (dl, kO 1 [dl_deeds, dl_guests, dl_wholes, .int 0]), (tp, kO 6 [tp_signs, tp_words, .int 0, .int 0, .int 0, .int 0, .int (-1), .long tp_letters, .int 0])] H := hP
  have hD : va_D A [(x, kO 8 [.ref tp, .ref td, x_draft, .ref li, .ref dl, x_now, x_trial, x_sights, x_past, x_marks, .long x_drawn]), (dl, kO 1 [dl_deeds, dl_guests, dl_wholes, .int 0]), (tp, kO 6 [tp_signs, tp_words, .int 0, .int 0, .int 0, .int 0, .int (-1), .long tp_letters, .int 0])] := hD
  refine lv_istore_n (lv' := [(1, .int 1), (0, .ref x)]) hx hb dX8_night_22 rfl hl (by decide) rfl (fun ls hl => ?_)
  refine lv_aload_n hx hb dX8_night_23 rfl (lv_at hl 1 rfl) ?_
  refine va_get (D := D) (ci := 8) (v := .ref tp) (C := RX8) (T := TX8) (N := 11) hx hb hts hi8 hown hK hP 0 rfl rfl 0 (by decide) lf10 (fun _ h9 => h9) rfl dX8_night_24 ?_
  refine kz_Vv (As := []) (rest := []) (wc := [(tp, kO 6 [tp_signs, tp_words, .int 0, .int 0, .int 0, .int 0, .int (-1), .long tp_letters, .int 0])]) (wr := [(x, kO 8 [.ref tp, .ref td, x_draft, .ref li, .ref dl, x_now, x_trial, x_sights, x_past, x_marks, .long x_drawn]), (dl, kO 1 [dl_deeds, dl_guests, dl_wholes, .int 0])]) ⟨hx, hb, hml, hown, hts⟩ hK hE hP hD hS hA (mX6_clear l D k H.size tp tp_signs tp_words 0 0 0 0 (-1) tp_letters 0) (cwV 0 hts gX8_night_X6_clear rfl rfl rfl (by decide +kernel) (by rw [hR]; exact ⟨Nat.le_of_ble_eq_true rfl, Nat.le_of_ble_eq_true rfl⟩)) [2] [0, 1] rfl rfl (by decide) (by decide) (by decide) 0 rfl rfl rfl hl.1 rfl (Nat.le_of_ble_eq_true rfl) dX8_night_27 (by rw [hR]; exact ⟨Nat.le_of_ble_eq_true rfl, Nat.le_of_ble_eq_true rfl⟩) (fun u3 H locs hw3 hP hD hS => ?_)
  have hP : va_P D vwCl [(x, kO 8 [.ref tp, .ref td, x_draft, .ref li, .ref dl, x_now, x_trial, x_sights, x_past, x_marks, .long x_drawn]), (dl, kO 1 [dl_deeds, dl_guests, dl_wholes, .int 0]), (tp, kO 6 [tp_signs, tp_words, .int 0, .int 0, .int 0, .int 0, .int (-1), .long tp_letters, .int 0])] H := hP
  have hD : va_D A [(x, kO 8 [.ref tp, .ref td, x_draft, .ref li, .ref dl, x_now, x_trial, x_sights, x_past, x_marks, .long x_drawn]), (dl, kO 1 [dl_deeds, dl_guests, dl_wholes, .int 0]), (tp, kO 6 [tp_signs, tp_words, .int 0, .int 0, .int 0, .int 0, .int (-1), .long tp_letters, .int 0])] := hD
  refine lv_iload_n hx hb dX8_night_30 rfl (lv_at hl 0 rfl) ?_
  refine lv_if_ne (tgt := 42) hx hb dX8_night_31 (by decide) (fun c_4 => ?_) (fun c_4 => absurd c_4 (by decide))
  refine lv_aload_n hx hb dX8_night_42 rfl (lv_at hl 1 rfl) ?_
  refine va_get (D := D) (ci := 8) (v := .ref li) (C := RX8) (T := TX8) (N := 11) hx hb hts hi8 hown hK hP 0 rfl rfl 3 (by decide) lf29 (fun _ h9 => h9) rfl dX8_night_43 ?_
  refine lv_astore_n (lv' := [(2, .ref li), (1, .int 1), (0, .ref x)]) hx hb dX8_night_46 rfl hl (by decide) rfl (fun ls hl => ?_)
  refine lv_aload_n hx hb dX8_night_47 rfl (lv_at hl 2 rfl) ?_
  refine lv_aload_n hx hb dX8_night_48 rfl (lv_at hl 2 rfl) ?_
  refine va_get (D := D) (ci := 8) (v := .ref dl) (C := RX8) (T := TX8) (N := 11) hx hb hts hi8 hown hK hP 0 rfl rfl 4 (by decide) lf33 (fun _ h9 => h9) rfl dX8_night_49 ?_
  refine va_put (D := D) (ci := 8) (v := .ref dl) (ty := (.object "LastCook$Lines")) (C := RX8) (T := TX8) (N := 11) hx hb hts hi8 tyX8 tyX8_ok nmX8 hown hK hP hD hS 0 rfl rfl 3 (by decide) lf29 (fun _ h9 => h9) rfl (by decide +kernel) rfl rfl (Nat.le_of_ble_eq_true rfl) dX8_night_52 (fun H locs hP hD hS => ?_)
  have hP : va_P D vwCl [(x, kO 8 [.ref tp, .ref td, x_draft, .ref dl, .ref dl, x_now, x_trial, x_sights, x_past, x_marks, .long x_drawn]), (dl, kO 1 [dl_deeds, dl_guests, dl_wholes, .int 0]), (tp, kO 6 [tp_signs, tp_words, .int 0, .int 0, .int 0, .int 0, .int (-1), .long tp_letters, .int 0])] H := hP
  have hD : va_D A [(x, kO 8 [.ref tp, .ref td, x_draft, .ref dl, .ref dl, x_now, x_trial, x_sights, x_past, x_marks, .long x_drawn]), (dl, kO 1 [dl_deeds, dl_guests, dl_wholes, .int 0]), (tp, kO 6 [tp_signs, tp_words, .int 0, .int 0, .int 0, .int 0, .int (-1), .long tp_letters, .int 0])] := hD
  refine lv_aload_n hx hb dX8_night_55 rfl (lv_at hl 2 rfl) ?_
  refine lv_aload_n hx hb dX8_night_56 rfl (lv_at hl 0 rfl) ?_
  refine va_put (D := D) (ci := 8) (v := .ref li) (ty := (.object "LastCook$Lines")) (C := RX8) (T := TX8) (N := 11) hx hb hts hi8 tyX8 tyX8_ok nmX8 hown hK hP hD hS 0 rfl rfl 4 (by decide) lf33 (fun _ h9 => h9) rfl (by decide +kernel) rfl rfl (Nat.le_of_ble_eq_true rfl) dX8_night_57 (fun H locs hP hD hS => ?_)
  have hP : va_P D vwCl [(x, kO 8 [.ref tp, .ref td, x_draft, .ref dl, .ref li, x_now, x_trial, x_sights, x_past, x_marks, .long x_drawn]), (dl, kO 1 [dl_deeds, dl_guests, dl_wholes, .int 0]), (tp, kO 6 [tp_signs, tp_words, .int 0, .int 0, .int 0, .int 0, .int (-1), .long tp_letters, .int 0])] H := hP
  have hD : va_D A [(x, kO 8 [.ref tp, .ref td, x_draft, .ref dl, .ref li, x_now, x_trial, x_sights, x_past, x_marks, .long x_drawn]), (dl, kO 1 [dl_deeds, dl_guests, dl_wholes, .int 0]), (tp, kO 6 [tp_signs, tp_words, .int 0, .int 0, .int 0, .int 0, .int (-1), .long tp_letters, .int 0])] := hD
  refine lv_iconst (v := 0) hx hb dX8_night_60 (by decide) ?_
  rw [hQ]
  have hP9 := hP.sub (ws' := []) [] rfl
  have hD9 := hD.sub (ws' := []) [] (by decide) rfl
  exact W.iret (v := 0) hx hb hr (fun zt ht hW => ⟨⟨0, (), rfl, rfl, by rw [ht]; exact hP9, hD9⟩, hS.F ht⟩) hS.2.2 dX8_night_61
theorem dX8_beginAnew_0 : decode cX8_beginAnew 0 = .ok (.aload_n 0, 1) := by decide +kernel
theorem dX8_beginAnew_1 : decode cX8_beginAnew 1 = .ok (.getfield 39, 3) := by decide +kernel
theorem dX8_beginAnew_4 : decode cX8_beginAnew 4 = .ok (.aload_n 0, 1) := by decide +kernel
theorem dX8_beginAnew_5 : decode cX8_beginAnew 5 = .ok (.getfield 19, 3) := by decide +kernel
theorem dX8_beginAnew_8 : decode cX8_beginAnew 8 = .ok (.invokevirtual 91, 3) := by decide +kernel
theorem dX8_beginAnew_11 : decode cX8_beginAnew 11 = .ok (.aload_n 0, 1) := by decide +kernel
theorem dX8_beginAnew_12 : decode cX8_beginAnew 12 = .ok (.getfield 29, 3) := by decide +kernel
theorem dX8_beginAnew_15 : decode cX8_beginAnew 15 = .ok (.invokevirtual 95, 3) := by decide +kernel
theorem dX8_beginAnew_18 : decode cX8_beginAnew 18 = .ok (.aload_n 0, 1) := by decide +kernel
theorem dX8_beginAnew_19 : decode cX8_beginAnew 19 = .ok (.getfield 49, 3) := by decide +kernel
theorem dX8_beginAnew_22 : decode cX8_beginAnew 22 = .ok (.invokevirtual 96, 3) := by decide +kernel
theorem dX8_beginAnew_25 : decode cX8_beginAnew 25 = .ok (.aload_n 0, 1) := by decide +kernel
theorem dX8_beginAnew_26 : decode cX8_beginAnew 26 = .ok (.getfield 56, 3) := by decide +kernel
theorem dX8_beginAnew_29 : decode cX8_beginAnew 29 = .ok (.invokevirtual 97, 3) := by decide +kernel
theorem dX8_beginAnew_32 : decode cX8_beginAnew 32 = .ok (.iconst 0, 1) := by decide +kernel
theorem dX8_beginAnew_33 : decode cX8_beginAnew 33 = .ok (.istore_n 1, 1) := by decide +kernel
theorem dX8_beginAnew_34 : decode cX8_beginAnew 34 = .ok (.iload_n 1, 1) := by decide +kernel
theorem dX8_beginAnew_35 : decode cX8_beginAnew 35 = .ok (.aload_n 0, 1) := by decide +kernel
theorem dX8_beginAnew_36 : decode cX8_beginAnew 36 = .ok (.getfield 62, 3) := by decide +kernel
theorem dX8_beginAnew_39 : decode cX8_beginAnew 39 = .ok (.arraylength, 1) := by decide +kernel
theorem dX8_beginAnew_40 : decode cX8_beginAnew 40 = .ok (.if_icmp .ge 19, 3) := by decide +kernel
theorem dX8_beginAnew_43 : decode cX8_beginAnew 43 = .ok (.aload_n 0, 1) := by decide +kernel
theorem dX8_beginAnew_44 : decode cX8_beginAnew 44 = .ok (.getfield 62, 3) := by decide +kernel
theorem dX8_beginAnew_47 : decode cX8_beginAnew 47 = .ok (.iload_n 1, 1) := by decide +kernel
theorem dX8_beginAnew_48 : decode cX8_beginAnew 48 = .ok (.aaload, 1) := by decide +kernel
theorem dX8_beginAnew_49 : decode cX8_beginAnew 49 = .ok (.iconst 0, 1) := by decide +kernel
theorem dX8_beginAnew_50 : decode cX8_beginAnew 50 = .ok (.putfield 98, 3) := by decide +kernel
theorem dX8_beginAnew_53 : decode cX8_beginAnew 53 = .ok (.iinc 1 1, 3) := by decide +kernel
theorem dX8_beginAnew_56 : decode cX8_beginAnew 56 = .ok (.goto (-22), 3) := by decide +kernel
theorem dX8_beginAnew_59 : decode cX8_beginAnew 59 = .ok (.return_, 1) := by decide +kernel
set_option maxRecDepth 20000 in
theorem ggX8_beginAnew_X4_begin : GoodIn wsX8_beginAnew wsX4_begin := goodIn_r _ [12, 13, 14, 15, 16, 17, 18, 19, 11, 20, 21, 22, 23, 24, 25, 26, 27, 28, 29, 30, 31, 65, 66, 67, 68, 69, 70, 71, 72, 73, 74, 75, 76, 77, 78, 79, 80, 81, 82, 83, 84, 85, 86, 87, 88, 89, 90] rfl (by decide +kernel)
set_option maxRecDepth 20000 in
theorem gX8_beginAnew_X4_begin : GoodIn wsX8_beginAnew (wsV RX8 91 RX4 yX4_begin wsX4_begin) := goodIn_app (goodIn_of _ (by decide +kernel)) ggX8_beginAnew_X4_begin
set_option maxRecDepth 20000 in
theorem ggX8_beginAnew_X1_clear : GoodIn wsX8_beginAnew wsX1_clear := goodIn_r _ [36, 37, 91, 92, 93, 94] rfl (by decide +kernel)
set_option maxRecDepth 20000 in
theorem gX8_beginAnew_X1_clear : GoodIn wsX8_beginAnew (wsV RX8 95 RX1 yX1_clear wsX1_clear) := goodIn_app (goodIn_of _ (by decide +kernel)) ggX8_beginAnew_X1_clear
set_option maxRecDepth 20000 in
theorem ggX8_beginAnew_X5_clear : GoodIn wsX8_beginAnew wsX5_clear := goodIn_r _ [42, 43, 95, 96, 97, 98] rfl (by decide +kernel)
set_option maxRecDepth 20000 in
theorem gX8_beginAnew_X5_clear : GoodIn wsX8_beginAnew (wsV RX8 96 RX5 yX5_clear wsX5_clear) := goodIn_app (goodIn_of _ (by decide +kernel)) ggX8_beginAnew_X5_clear
set_option maxRecDepth 20000 in
theorem ggX8_beginAnew_X3_clear : GoodIn wsX8_beginAnew wsX3_clear := goodIn_r _ [48, 49, 99, 100, 101] rfl (by decide +kernel)
set_option maxRecDepth 20000 in
theorem gX8_beginAnew_X3_clear : GoodIn wsX8_beginAnew (wsV RX8 97 RX3 yX3_clear wsX3_clear) := goodIn_app (goodIn_of _ (by decide +kernel)) ggX8_beginAnew_X3_clear
set_option maxHeartbeats 4000000 in
set_option maxRecDepth 100000 in
theorem mX8_beginAnew (l : Launch) (D : va_G) (k : Nat → ClassId) (sz : Nat) (x : Nat) (x_tape : Value) (td : Nat) (x_draft : Value) (li : Nat) (x_draftLines : Value) (nw : Nat) (x_trial : Value) (sg : Nat) (pa : Nat) (mk : Nat) (x_drawn : Int64) (td_names : Value) (td_kinds : Value) (td_yards : Value) (td_paces : Value) (td_skills : Value) (td_snow : Value) (td_law : Value) (td_snows : Int32) (td_bend : Int32) (td_hour : Int32) (td_bendTold : Int32) (td_hourTold : Int32) (nw0 : Nat) (nw1 : Nat) (nw2 : Nat) (nw3 : Nat) (nw4 : Nat) (nw5 : Nat) (nw6 : Nat) (nw_inside : Int32) (nw_night : Int32) (nw_minute : Int32) (nw_tasted : Int32) (nw_lastCook : Int32) (nw_stirred : Int32) (nwf0 : Nat → Int32) (nwf1 : Nat → Int32) (nwf2 : Nat → Int32) (nwf3 : Nat → Int32) (nwf4 : Nat → Int32) (nwf5 : Nat → Int32) (nwf6 : Nat → Int32) (li_deeds : Value) (li_guests : Value) (li_wholes : Value) (li_size : Int32) (sg_minutes : Value) (sg_yards : Value) (sg_near : Value) (sg_size : Int32) (pa_kept : Value) (pa_first : Int32) (pa_size : Int32) (mf : Nat → Option Nat) (mk0 : Nat) (mk0_road : Value) (mk0_lines : Value) (mk0_sights : Value) (mk0_laid : Int32) (mk1 : Nat) (mk1_road : Value) (mk1_lines : Value) (mk1_sights : Value) (mk1_laid : Int32) (mk2 : Nat) (mk2_road : Value) (mk2_lines : Value) (mk2_sights : Value) (mk2_laid : Int32) (mk3 : Nat) (mk3_road : Value) (mk3_lines : Value) (mk3_sights : Value) (mk3_laid : Int32) (hm0 : mf 0 = some mk0) (hm1 : mf 1 = some mk1) (hm2 : mf 2 = some mk2) (hm3 : mf 3 = some mk3) : Met l yX8_beginAnew wsX8_beginAnew ({ frames := 2, cells := 0, slots := 0, locals := 140 }) (va_Pc [.ref x] (kz_Pre D k [(x, kO 8 [x_tape, .ref td, x_draft, .ref li, x_draftLines, .ref nw, x_trial, .ref sg, .ref pa, .ref mk, .long x_drawn]), (td, kO 7 [td_names, td_kinds, td_yards, td_paces, td_skills, td_snow, td_law, .int 0, .int td_snows, .int td_bend, .int td_hour, .int td_bendTold, .int td_hourTold]), (nw, kO 4 [.ref nw0, .ref nw1, .ref nw2, .ref nw3, .ref nw4, .ref nw5, .ref nw6, .int nw_inside, .int nw_night, .int nw_minute, .int nw_tasted, .int nw_lastCook, .int nw_stirred]), (nw0, kI k 6 nwf0), (nw1, kI k 6 nwf1), (nw2, kI k 6 nwf2), (nw3, kI k 6 nwf3), (nw4, kI k 6 nwf4), (nw5, kI k 6 nwf5), (nw6, kI k 6 nwf6), (li, kO 1 [li_deeds, li_guests, li_wholes, .int li_size]), (sg, kO 5 [sg_minutes, sg_yards, sg_near, .int sg_size]), (pa, kO 3 [pa_kept, .int pa_first, .int pa_size]), (mk, kM k 4 mf), (mk0, kO 2 [mk0_road, mk0_lines, mk0_sights, .int mk0_laid]), (mk1, kO 2 [mk1_road, mk1_lines, mk1_sights, .int mk1_laid]), (mk2, kO 2 [mk2_road, mk2_lines, mk2_sights, .int mk2_laid]), (mk3, kO 2 [mk3_road, mk3_lines, mk3_sights, .int mk3_laid])] sz)) (va_Qv (fun (uu : Unit) => True) (fun uu zt => kz_B D (va_A [(x, kO 8 [x_tape, .ref td, x_draft, .ref li, x_draftLines, .ref nw, x_trial, .ref sg, .ref pa, .ref mk, .long x_drawn]), (td, kO 7 [td_names, td_kinds, td_yards, td_paces, td_skills, td_snow, td_law, .int 0, .int td_snows, .int td_bend, .int td_hour, .int td_bendTold, .int td_hourTold]), (nw, kO 4 [.ref nw0, .ref nw1, .ref nw2, .ref nw3, .ref nw4, .ref nw5, .ref nw6, .int nw_inside, .int nw_night, .int nw_minute, .int nw_tasted, .int nw_lastCook, .int nw_stirred]), (nw0, kI k 6 nwf0), (nw1, kI k 6 nwf1), (nw2, kI k 6 nwf2), (nw3, kI k 6 nwf3), (nw4, kI k 6 nwf4), (nw5, kI k 6 nwf5), (nw6, kI k 6 nwf6), (li, kO 1 [li_deeds, li_guests, li_wholes, .int li_size]), (sg, kO 5 [sg_minutes, sg_yards, sg_near, .int sg_size]), (pa, kO 3 [pa_kept, .int pa_first, .int pa_size]), (mk, kM k 4 mf), (mk0, kO 2 [mk0_road, mk0_lines, mk0_sights, .int mk0_laid]), (mk1, kO 2 [mk1_road, mk1_lines, mk1_sights, .int mk1_laid]), (mk2, kO 2 [mk2_road, mk2_lines, mk2_sights, .int mk2_laid]), (mk3, kO 2 [mk3_road, mk3_lines, mk3_sights, .int mk3_laid])] sz) [] zt) (va_A [(x, kO 8 [x_tape, .ref td, x_draft, .ref li, x_draftLines, .ref nw, x_trial, .ref sg, .ref pa, .ref mk, .long x_drawn]), (td, kO 7 [td_names, td_kinds, td_yards, td_paces, td_skills, td_snow, td_law, .int 0, .int td_snows, .int td_bend, .int td_hour, .int td_bendTold, .int td_hourTold]), (nw, kO 4 [.ref nw0, .ref nw1, .ref nw2, .ref nw3, .ref nw4, .ref nw5, .ref nw6, .int nw_inside, .int nw_night, .int nw_minute, .int nw_tasted, .int nw_lastCook, .int nw_stirred]), (nw0, kI k 6 nwf0), (nw1, kI k 6 nwf1), (nw2, kI k 6 nwf2), (nw3, kI k 6 nwf3), (nw4, kI k 6 nwf4), (nw5, kI k 6 nwf5), (nw6, kI k 6 nwf6), (li, kO 1 [li_deeds, li_guests, li_wholes, .int li_size]), (sg, kO 5 [sg_minutes, sg_yards, sg_near, .int sg_size]), (pa, kO 3 [pa_kept, .int pa_first, .int pa_size]), (mk, kM k 4 mf), (mk0, kO 2 [mk0_road, mk0_lines, mk0_sights, .int mk0_laid]), (mk1, kO 2 [mk1_road, mk1_lines, mk1_sights, .int mk1_laid]), (mk2, kO 2 [mk2_road, mk2_lines, mk2_sights, .int mk2_laid]), (mk3, kO 2 [mk3_road, mk3_lines, mk3_sights, .int mk3_laid])] sz)) 0 0 (va_A [(x, kO 8 [x_tape, .ref td, x_draft, .ref li, x_draftLines, .ref nw, x_trial, .ref sg, .ref pa, .ref mk, .long x_drawn]), (td, kO 7 [td_names, td_kinds, td_yards, td_paces, td_skills, td_snow, td_law, .int 0, .int td_snows, .int td_bend, .int td_hour, .int td_bendTold, .int td_hourTold]), (nw, kO 4 [.ref nw0, .ref nw1, .ref nw2, .ref nw3, .ref nw4, .ref nw5, .ref nw6, .int nw_inside, .int nw_night, .int nw_minute, .int nw_tasted, .int nw_lastCook, .int nw_stirred]), (nw0, kI k 6 nwf0), (nw1, kI k 6 nwf1), (nw2, kI k 6 nwf2), (nw3, kI k 6 nwf3), (nw4, kI k 6 nwf4), (nw5, kI k 6 nwf5), (nw6, kI k 6 nwf6), (li, kO 1 [li_deeds, li_guests, li_wholes, .int li_size]), (sg, kO 5 [sg_minutes, sg_yards, sg_near, .int sg_size]), (pa, kO 3 [pa_kept, .int pa_first, .int pa_size]), (mk, kM k 4 mf), (mk0, kO 2 [mk0_road, mk0_lines, mk0_sights, .int mk0_laid]), (mk1, kO 2 [mk1_road, mk1_lines, mk1_sights, .int mk1_laid]), (mk2, kO 2 [mk2_road, mk2_lines, mk2_sights, .int mk2_laid]), (mk3, kO 2 [mk3_road, mk3_lines, mk3_sights, .int mk3_laid])] sz) := by
  refine Met.ofW (cc := cX8_beginAnew) (maxL := 2) (ret := none) (by decide) rfl ?_
  intro p e s m args below meth c s₁ B hml hv
  obtain ⟨hav, hsz, hP, hK, hD0, hE⟩ := hv
  have hx := B.exec
  have hb := B.bytes
  have hr := B.returns
  have hts := atoms_spec (ws := wsX8_beginAnew) B.pre
  have hown : s.vm.findClass RX8 = some m.cls := findClass_of_methodNamed B.named
  have hlocks := B.notSynchronized
  have hi2 : ∀ w ∈ u_ws RX2 TX2 4, w ∈ wsX8_beginAnew := by decide +kernel
  have hi8 : ∀ w ∈ u_ws RX8 TX8 11, w ∈ wsX8_beginAnew := by decide +kernel
  have lf39 := hts (.fieldLink RX8 39 "LastCook" "now" "LLastCook$Road;") (by decide +kernel)
  have lf19 := hts (.fieldLink RX8 19 "LastCook" "told" "LLastCook$Told;") (by decide +kernel)
  have lf29 := hts (.fieldLink RX8 29 "LastCook" "lines" "LLastCook$Lines;") (by decide +kernel)
  have lf49 := hts (.fieldLink RX8 49 "LastCook" "sights" "LLastCook$Sights;") (by decide +kernel)
  have lf56 := hts (.fieldLink RX8 56 "LastCook" "past" "LLastCook$Past;") (by decide +kernel)
  have lf62 := hts (.fieldLink RX8 62 "LastCook" "marks" "[LLastCook$Mark;") (by decide +kernel)
  have lf98 := hts (.fieldLink RX8 98 "LastCook$Mark" "laid" "Z") (by decide +kernel)
  subst hsz
  have hD := hD0.self (sz := s.heap.size)
  generalize hAe : va_A [(x, kO 8 [x_tape, .ref td, x_draft, .ref li, x_draftLines, .ref nw, x_trial, .ref sg, .ref pa, .ref mk, .long x_drawn]), (td, kO 7 [td_names, td_kinds, td_yards, td_paces, td_skills, td_snow, td_law, .int 0, .int td_snows, .int td_bend, .int td_hour, .int td_bendTold, .int td_hourTold]), (nw, kO 4 [.ref nw0, .ref nw1, .ref nw2, .ref nw3, .ref nw4, .ref nw5, .ref nw6, .int nw_inside, .int nw_night, .int nw_minute, .int nw_tasted, .int nw_lastCook, .int nw_stirred]), (nw0, kI k 6 nwf0), (nw1, kI k 6 nwf1), (nw2, kI k 6 nwf2), (nw3, kI k 6 nwf3), (nw4, kI k 6 nwf4), (nw5, kI k 6 nwf5), (nw6, kI k 6 nwf6), (li, kO 1 [li_deeds, li_guests, li_wholes, .int li_size]), (sg, kO 5 [sg_minutes, sg_yards, sg_near, .int sg_size]), (pa, kO 3 [pa_kept, .int pa_first, .int pa_size]), (mk, kM k 4 mf), (mk0, kO 2 [mk0_road, mk0_lines, mk0_sights, .int mk0_laid]), (mk1, kO 2 [mk1_road, mk1_lines, mk1_sights, .int mk1_laid]), (mk2, kO 2 [mk2_road, mk2_lines, mk2_sights, .int mk2_laid]), (mk3, kO 2 [mk3_road, mk3_lines, mk3_sights, .int mk3_laid])] s.heap.size = A at hD ⊢
  have hA : ∀ q : Nat, s.heap.size ≤ q → A q := fun q h => by rw [← hAe]; exact Or.inr h
  have hS : va_S A s.heap s.heap [] := va_S.rf
  have hl := lv_entry ([.ref x]) (n := 2) (Nat.le_of_ble_eq_true rfl)
  rw [show entryFrame m args 2 = entryFrame m ([.ref x] : List Value).toArray 2 by rw [hav], lg_entry_eq]
  generalize (lg_sl ([.ref x]) ++ List.replicate (2 - (lg_sl ([.ref x])).length) Slot.unset).toArray = ls at hl ⊢
  have hl : lv_has ls 2 [(0, .ref x)] := hl
  obtain ⟨R, hR⟩ : ∃ R, R = (headSpec wsX8_beginAnew ({ frames := 2, cells := 0, slots := 0, locals := 140 } : Room)).room := ⟨_, rfl⟩
  rw [← hR]
  generalize hQ : MQ below _ args s 0 0 A = Q
  replace hQ := hQ.symm
  obtain ⟨H, hH⟩ : ∃ H, H = s.heap := ⟨_, rfl⟩
  rw [← hH] at hP ⊢
  have hS : va_S A s.heap H [] := by rw [hH]; exact hS
  refine lv_aload_n hx hb dX8_beginAnew_0 rfl (lv_at hl 0 rfl) ?_
  refine va_get (D := D) (ci := 8) (v := .ref nw) (C := RX8) (T := TX8) (N := 11) hx hb hts hi8 hown hK hP 0 rfl rfl 5 (by decide) lf39 (fun _ h9 => h9) rfl dX8_beginAnew_1 ?_
  refine lv_aload_n hx hb dX8_beginAnew_4 rfl (lv_at hl 0 rfl) ?_
  refine va_get (D := D) (ci := 8) (v := .ref td) (C := RX8) (T := TX8) (N := 11) hx hb hts hi8 hown hK hP 0 rfl rfl 1 (by decide) lf19 (fun _ h9 => h9) rfl dX8_beginAnew_5 ?_
  refine kz_Vv (As := [.ref td]) (rest := []) (wc := [(nw, kO 4 [.ref nw0, .ref nw1, .ref nw2, .ref nw3, .ref nw4, .ref nw5, .ref nw6, .int nw_inside, .int nw_night, .int nw_minute, .int nw_tasted, .int nw_lastCook, .int nw_stirred]), (nw0, kI k 6 nwf0), (nw1, kI k 6 nwf1), (nw2, kI k 6 nwf2), (nw3, kI k 6 nwf3), (nw4, kI k 6 nwf4), (nw5, kI k 6 nwf5), (nw6, kI k 6 nwf6), (td, kO 7 [td_names, td_kinds, td_yards, td_paces, td_skills, td_snow, td_law, .int 0, .int td_snows, .int td_bend, .int td_hour, .int td_bendTold, .int td_hourTold])]) (wr := [(x, kO 8 [x_tape, .ref td, x_draft, .ref li, x_draftLines, .ref nw, x_trial, .ref sg, .ref pa, .ref mk, .long x_drawn]), (li, kO 1 [li_deeds, li_guests, li_wholes, .int li_size]), (sg, kO 5 [sg_minutes, sg_yards, sg_near, .int sg_size]), (pa, kO 3 [pa_kept, .int pa_first, .int pa_size]), (mk, kM k 4 mf), (mk0, kO 2 [mk0_road, mk0_lines, mk0_sights, .int mk0_laid]), (mk1, kO 2 [mk1_road, mk1_lines, mk1_sights, .int mk1_laid]), (mk2, kO 2 [mk2_road, mk2_lines, mk2_sights, .int mk2_laid]), (mk3, kO 2 [mk3_road, mk3_lines, mk3_sights, .int mk3_laid])]) ⟨hx, hb, hml, hown, hts⟩ hK hE hP hD hS hA (mX4_begin l D k H.size nw td nw0 nw1 nw2 nw3 nw4 nw5 nw6 nw_inside nw_night nw_minute nw_tasted nw_lastCook nw_stirred nwf0 nwf1 nwf2 nwf3 nwf4 nwf5 nwf6 td_names td_kinds td_yards td_paces td_skills td_snow td_law td_snows td_bend td_hour td_bendTold td_hourTold) (cwV 1 hts gX8_beginAnew_X4_begin rfl rfl rfl (by decide +kernel) (by rw [hR]; exact ⟨Nat.le_of_ble_eq_true rfl, Nat.le_of_ble_eq_true rfl⟩)) [2, 3, 4, 5, 6, 7, 8, 9, 1] [0, 10, 11, 12, 13, 14, 15, 16, 17] rfl rfl (by decide) (by decide) (by decide) 0 rfl rfl rfl hl.1 rfl (Nat.le_of_ble_eq_true rfl) dX8_beginAnew_8 (by rw [hR]; exact ⟨Nat.le_of_ble_eq_true rfl, Nat.le_of_ble_eq_true rfl⟩) (fun u1 H locs hw1 hP hD hS => ?_)
  obtain ⟨g01, g11, g21, g31, g41, g51, g61⟩ := u1
  have hP : va_P D vwCl [(x, kO 8 [x_tape, .ref td, x_draft, .ref li, x_draftLines, .ref nw, x_trial, .ref sg, .ref pa, .ref mk, .long x_drawn]), (li, kO 1 [li_deeds, li_guests, li_wholes, .int li_size]), (sg, kO 5 [sg_minutes, sg_yards, sg_near, .int sg_size]), (pa, kO 3 [pa_kept, .int pa_first, .int pa_size]), (mk, kM k 4 mf), (mk0, kO 2 [mk0_road, mk0_lines, mk0_sights, .int mk0_laid]), (mk1, kO 2 [mk1_road, mk1_lines, mk1_sights, .int mk1_laid]), (mk2, kO 2 [mk2_road, mk2_lines, mk2_sights, .int mk2_laid]), (mk3, kO 2 [mk3_road, mk3_lines, mk3_sights, .int mk3_laid]), (nw, kO 4 [.ref nw0, .ref nw1, .ref nw2, .ref nw3, .ref nw4, .ref nw5, .ref nw6, .int 0, .int 0, .int 0, .int 0, .int (-1), .int nw_stirred]), (nw0, kI k 6 g01), (nw1, kI k 6 g11), (nw2, kI k 6 g21), (nw3, kI k 6 g31), (nw4, kI k 6 g41), (nw5, kI k 6 g51), (nw6, kI k 6 g61), (td, kO 7 [td_names, td_kinds, td_yards, td_paces, td_skills, td_snow, td_law, .int 0, .int td_snows, .int td_bend, .int td_hour, .int td_bendTold, .int td_hourTold])] H := hP
  have hD : va_D A [(x, kO 8 [x_tape, .ref td, x_draft, .ref li, x_draftLines, .ref nw, x_trial, .ref sg, .ref pa, .ref mk, .long x_drawn]), (li, kO 1 [li_deeds, li_guests, li_wholes, .int li_size]), (sg, kO 5 [sg_minutes, sg_yards, sg_near, .int sg_size]), (pa, kO 3 [pa_kept, .int pa_first, .int pa_size]), (mk, kM k 4 mf), (mk0, kO 2 [mk0_road, mk0_lines, mk0_sights, .int mk0_laid]), (mk1, kO 2 [mk1_road, mk1_lines, mk1_sights, .int mk1_laid]), (mk2, kO 2 [mk2_road, mk2_lines, mk2_sights, .int mk2_laid]), (mk3, kO 2 [mk3_road, mk3_lines, mk3_sights, .int mk3_laid]), (nw, kO 4 [.ref nw0, .ref nw1, .ref nw2, .ref nw3, .ref nw4, .ref nw5, .ref nw6, .int 0, .int 0, .int 0, .int 0, .int (-1), .int nw_stirred]), (nw0, kI k 6 g01), (nw1, kI k 6 g11), (nw2, kI k 6 g21), (nw3, kI k 6 g31), (nw4, kI k 6 g41), (nw5, kI k 6 g51), (nw6, kI k 6 g61), (td, kO 7 [td_names, td_kinds, td_yards, td_paces, td_skills, td_snow, td_law, .int 0, .int td_snows, .int td_bend, .int td_hour, .int td_bendTold, .int td_hourTold])] := hD
  refine lv_aload_n hx hb dX8_beginAnew_11 rfl (lv_at hl 0 rfl) ?_
  refine va_get (D := D) (ci := 8) (v := .ref li) (C := RX8) (T := TX8) (N := 11) hx hb hts hi8 hown hK hP 0 rfl rfl 3 (by decide) lf29 (fun _ h9 => h9) rfl dX8_beginAnew_12 ?_
  refine kz_Vv (As := []) (rest := []) (wc := [(li, kO 1 [li_deeds, li_guests, li_wholes, .int li_size])]) (wr := [(x, kO 8 [x_tape, .ref td, x_draft, .ref li, x_draftLines, .ref nw, x_trial, .ref sg, .ref pa, .ref mk, .long x_drawn]), (sg, kO 5 [sg_minutes, sg_yards, sg_near, .int sg_size]), (pa, kO 3 [pa_kept, .int pa_first, .int pa_size]), (mk, kM k 4 mf), (mk0, kO 2 [mk0_road, mk0_lines, mk0_sights, .int mk0_laid]), (mk1, kO 2 [mk1_road, mk1_lines, mk1_sights, .int mk1_laid]), (mk2, kO 2 [mk2_road, mk2_lines, mk2_sights, .int mk2_laid]), (mk3, kO 2 [mk3_road, mk3_lines, mk3_sights, .int mk3_laid]), (nw, kO 4 [.ref nw0, .ref nw1, .ref nw2, .ref nw3, .ref nw4, .ref nw5, .ref nw6, .int 0, .int 0, .int 0, .int 0, .int (-1), .int nw_stirred]), (nw0, kI k 6 g01), (nw1, kI k 6 g11), (nw2, kI k 6 g21), (nw3, kI k 6 g31), (nw4, kI k 6 g41), (nw5, kI k 6 g51), (nw6, kI k 6 g61), (td, kO 7 [td_names, td_kinds, td_yards, td_paces, td_skills, td_snow, td_law, .int 0, .int td_snows, .int td_bend, .int td_hour, .int td_bendTold, .int td_hourTold])]) ⟨hx, hb, hml, hown, hts⟩ hK hE hP hD hS hA (mX1_clear l D k H.size li li_deeds li_guests li_wholes li_size) (cwV 0 hts gX8_beginAnew_X1_clear rfl rfl rfl (by decide +kernel) (by rw [hR]; exact ⟨Nat.le_of_ble_eq_true rfl, Nat.le_of_ble_eq_true rfl⟩)) [1] [0, 2, 3, 4, 5, 6, 7, 8, 9, 10, 11, 12, 13, 14, 15, 16, 17] rfl rfl (by decide) (by decide) (by decide) 0 rfl rfl rfl hl.1 rfl (Nat.le_of_ble_eq_true rfl) dX8_beginAnew_15 (by rw [hR]; exact ⟨Nat.le_of_ble_eq_true rfl, Nat.le_of_ble_eq_true rfl⟩) (fun u2 H locs hw2 hP hD hS => ?_)
  have hP : va_P D vwCl [(x, kO 8 [x_tape, .ref td, x_draft, .ref li, x_draftLines, .ref nw, x_trial, .ref sg, .ref pa, .ref mk, .long x_drawn]), (sg, kO 5 [sg_minutes, sg_yards, sg_near, .int sg_size]), (pa, kO 3 [pa_kept, .int pa_first, .int pa_size]), (mk, kM k 4 mf), (mk0, kO 2 [mk0_road, mk0_lines, mk0_sights, .int mk0_laid]), (mk1, kO 2 [mk1_road, mk1_lines, mk1_sights, .int mk1_laid]), (mk2, kO 2 [mk2_road, mk2_lines, mk2_sights, .int mk2_laid]), (mk3, kO 2 [mk3_road, mk3_lines, mk3_sights, .int mk3_laid]), (nw, kO 4 [.ref nw0, .ref nw1, .ref nw2, .ref nw3, .ref nw4, .ref nw5, .ref nw6, .int 0, .int 0, .int 0, .int 0, .int (-1), .int nw_stirred]), (nw0, kI k 6 g01), (nw1, kI k 6 g11), (nw2, kI k 6 g21), (nw3, kI k 6 g31), (nw4, kI k 6 g41), (nw5, kI k 6 g51), (nw6, kI k 6 g61), (td, kO 7 [td_names, td_kinds, td_yards, td_paces, td_skills, td_snow, td_law, .int 0, .int td_snows, .int td_bend, .int td_hour, .int td_bendTold, .int td_hourTold]), (li, kO 1 [li_deeds, li_guests, li_wholes, .int 0])] H := hP
  have hD : va_D A [(x, kO 8 [x_tape, .ref td, x_draft, .ref li, x_draftLines, .ref nw, x_trial, .ref sg, .ref pa, .ref mk, .long x_drawn]), (sg, kO 5 [sg_minutes, sg_yards, sg_near, .int sg_size]), (pa, kO 3 [pa_kept, .int pa_first, .int pa_size]), (mk, kM k 4 mf), (mk0, kO 2 [mk0_road, mk0_lines, mk0_sights, .int mk0_laid]), (mk1, kO 2 [mk1_road, mk1_lines, mk1_sights, .int mk1_laid]), (mk2, kO 2 [mk2_road, mk2_lines, mk2_sights, .int mk2_laid]), (mk3, kO 2 [mk3_road, mk3_lines, mk3_sights, .int mk3_laid]), (nw, kO 4 [.ref nw0, .ref nw1, .ref nw2, .ref nw3, .ref nw4, .ref nw5, .ref nw6, .int 0, .int 0, .int 0, .int 0, .int (-1), .int nw_stirred]), (nw0, kI k 6 g01), (nw1, kI k 6 g11), (nw2, kI k 6 g21), (nw3, kI k 6 g31), (nw4, kI k 6 g41), (nw5, kI k 6 g51), (nw6, kI k 6 g61), (td, kO 7 [td_names, td_kinds, td_yards, td_paces, td_skills, td_snow, td_law, .int 0, .int td_snows, .int td_bend, .int td_hour, .int td_bendTold, .int td_hourTold]), (li, kO 1 [li_deeds, li_guests, li_wholes, .int 0])] := hD
  refine lv_aload_n hx hb dX8_beginAnew_18 rfl (lv_at hl 0 rfl) ?_
  refine va_get (D := D) (ci := 8) (v := .ref sg) (C := RX8) (T := TX8) (N := 11) hx hb hts hi8 hown hK hP 0 rfl rfl 7 (by decide) lf49 (fun _ h9 => h9) rfl dX8_beginAnew_19 ?_
  refine kz_Vv (As := []) (rest := []) (wc := [(sg, kO 5 [sg_minutes, sg_yards, sg_near, .int sg_size])]) (wr := [(x, kO 8 [x_tape, .ref td, x_draft, .ref li, x_draftLines, .ref nw, x_trial, .ref sg, .ref pa, .ref mk, .long x_drawn]), (pa, kO 3 [pa_kept, .int pa_first, .int pa_size]), (mk, kM k 4 mf), (mk0, kO 2 [mk0_road, mk0_lines, mk0_sights, .int mk0_laid]), (mk1, kO 2 [mk1_road, mk1_lines, mk1_sights, .int mk1_laid]), (mk2, kO 2 [mk2_road, mk2_lines, mk2_sights, .int mk2_laid]), (mk3, kO 2 [mk3_road, mk3_lines, mk3_sights, .int mk3_laid]), (nw, kO 4 [.ref nw0, .ref nw1, .ref nw2, .ref nw3, .ref nw4, .ref nw5, .ref nw6, .int 0, .int 0, .int 0, .int 0, .int (-1), .int nw_stirred]), (nw0, kI k 6 g01), (nw1, kI k 6 g11), (nw2, kI k 6 g21), (nw3, kI k 6 g31), (nw4, kI k 6 g41), (nw5, kI k 6 g51), (nw6, kI k 6 g61), (td, kO 7 [td_names, td_kinds, td_yards, td_paces, td_skills, td_snow, td_law, .int 0, .int td_snows, .int td_bend, .int td_hour, .int td_bendTold, .int td_hourTold]), (li, kO 1 [li_deeds, li_guests, li_wholes, .int 0])]) ⟨hx, hb, hml, hown, hts⟩ hK hE hP hD hS hA (mX5_clear l D k H.size sg sg_minutes sg_yards sg_near sg_size) (cwV 0 hts gX8_beginAnew_X5_clear rfl rfl rfl (by decide +kernel) (by rw [hR]; exact ⟨Nat.le_of_ble_eq_true rfl, Nat.le_of_ble_eq_true rfl⟩)) [1] [0, 2, 3, 4, 5, 6, 7, 8, 9, 10, 11, 12, 13, 14, 15, 16, 17] rfl rfl (by decide) (by decide) (by decide) 0 rfl rfl rfl hl.1 rfl (Nat.le_of_ble_eq_true rfl) dX8_beginAnew_22 (by rw [hR]; exact ⟨Nat.le_of_ble_eq_true rfl, Nat.le_of_ble_eq_true rfl⟩) (fun u3 H locs hw3 hP hD hS => ?_)
  have hP : va_P D vwCl [(x, kO 8 [x_tape, .ref td, x_draft, .ref li, x_draftLines, .ref nw, x_trial, .ref sg, .ref pa, .ref mk, .long x_drawn]), (pa, kO 3 [pa_kept, .int pa_first, .int pa_size]), (mk, kM k 4 mf), (mk0, kO 2 [mk0_road, mk0_lines, mk0_sights, .int mk0_laid]), (mk1, kO 2 [mk1_road, mk1_lines, mk1_sights, .int mk1_laid]), (mk2, kO 2 [mk2_road, mk2_lines, mk2_sights, .int mk2_laid]), (mk3, kO 2 [mk3_road, mk3_lines, mk3_sights, .int mk3_laid]), (nw, kO 4 [.ref nw0, .ref nw1, .ref nw2, .ref nw3, .ref nw4, .ref nw5, .ref nw6, .int 0, .int 0, .int 0, .int 0, .int (-1), .int nw_stirred]), (nw0, kI k 6 g01), (nw1, kI k 6 g11), (nw2, kI k 6 g21), (nw3, kI k 6 g31), (nw4, kI k 6 g41), (nw5, kI k 6 g51), (nw6, kI k 6 g61), (td, kO 7 [td_names, td_kinds, td_yards, td_paces, td_skills, td_snow, td_law, .int 0, .int td_snows, .int td_bend, .int td_hour, .int td_bendTold, .int td_hourTold]), (li, kO 1 [li_deeds, li_guests, li_wholes, .int 0]), (sg, kO 5 [sg_minutes, sg_yards, sg_near, .int 0])] H := hP
  have hD : va_D A [(x, kO 8 [x_tape, .ref td, x_draft, .ref li, x_draftLines, .ref nw, x_trial, .ref sg, .ref pa, .ref mk, .long x_drawn]), (pa, kO 3 [pa_kept, .int pa_first, .int pa_size]), (mk, kM k 4 mf), (mk0, kO 2 [mk0_road, mk0_lines, mk0_sights, .int mk0_laid]), (mk1, kO 2 [mk1_road, mk1_lines, mk1_sights, .int mk1_laid]), (mk2, kO 2 [mk2_road, mk2_lines, mk2_sights, .int mk2_laid]), (mk3, kO 2 [mk3_road, mk3_lines, mk3_sights, .int mk3_laid]), (nw, kO 4 [.ref nw0, .ref nw1, .ref nw2, .ref nw3, .ref nw4, .ref nw5, .ref nw6, .int 0, .int 0, .int 0, .int 0, .int (-1), .int nw_stirred]), (nw0, kI k 6 g01), (nw1, kI k 6 g11), (nw2, kI k 6 g21), (nw3, kI k 6 g31), (nw4, kI k 6 g41), (nw5, kI k 6 g51), (nw6, kI k 6 g61), (td, kO 7 [td_names, td_kinds, td_yards, td_paces, td_skills, td_snow, td_law, .int 0, .int td_snows, .int td_bend, .int td_hour, .int td_bendTold, .int td_hourTold]), (li, kO 1 [li_deeds, li_guests, li_wholes, .int 0]), (sg, kO 5 [sg_minutes, sg_yards, sg_near, .int 0])] := hD
  refine lv_aload_n hx hb dX8_beginAnew_25 rfl (lv_at hl 0 rfl) ?_
  refine va_get (D := D) (ci := 8) (v := .ref pa) (C := RX8) (T := TX8) (N := 11) hx hb hts hi8 hown hK hP 0 rfl rfl 8 (by decide) lf56 (fun _ h9 => h9) rfl dX8_beginAnew_26 ?_
  refine kz_Vv (As := []) (rest := []) (wc := [(pa, kO 3 [pa_kept, .int pa_first, .int pa_size])]) (wr := [(x, kO 8 [x_tape, .ref td, x_draft, .ref li, x_draftLines, .ref nw, x_trial, .ref sg, .ref pa, .ref mk, .long x_drawn]), (mk, kM k 4 mf), (mk0, kO 2 [mk0_road, mk0_lines, mk0_sights, .int mk0_laid]), (mk1, kO 2 [mk1_road, mk1_lines, mk1_sights, .int mk1_laid]), (mk2, kO 2 [mk2_road, mk2_lines, mk2_sights, .int mk2_laid]), (mk3, kO 2 [mk3_road, mk3_lines, mk3_sights, .int mk3_laid]), (nw, kO 4 [.ref nw0, .ref nw1, .ref nw2, .ref nw3, .ref nw4, .ref nw5, .ref nw6, .int 0, .int 0, .int 0, .int 0, .int (-1), .int nw_stirred]), (nw0, kI k 6 g01), (nw1, kI k 6 g11), (nw2, kI k 6 g21), (nw3, kI k 6 g31), (nw4, kI k 6 g41), (nw5, kI k 6 g51), (nw6, kI k 6 g61), (td, kO 7 [td_names, td_kinds, td_yards, td_paces, td_skills, td_snow, td_law, .int 0, .int td_snows, .int td_bend, .int td_hour, .int td_bendTold, .int td_hourTold]), (li, kO 1 [li_deeds, li_guests, li_wholes, .int 0]), (sg, kO 5 [sg_minutes, sg_yards, sg_near, .int 0])]) ⟨hx, hb, hml, hown, hts⟩ hK hE hP hD hS hA (mX3_clear l D k H.size pa pa_kept pa_first pa_size) (cwV 0 hts gX8_beginAnew_X3_clear rfl rfl rfl (by decide +kernel) (by rw [hR]; exact ⟨Nat.le_of_ble_eq_true rfl, Nat.le_of_ble_eq_true rfl⟩)) [1] [0, 2, 3, 4, 5, 6, 7, 8, 9, 10, 11, 12, 13, 14, 15, 16, 17] rfl rfl (by decide) (by decide) (by decide) 0 rfl rfl rfl hl.1 rfl (Nat.le_of_ble_eq_true rfl) dX8_beginAnew_29 (by rw [hR]; exact ⟨Nat.le_of_ble_eq_true rfl, Nat.le_of_ble_eq_true rfl⟩) (fun u4 H locs hw4 hP hD hS => ?_)
  have hP : va_P D vwCl [(x, kO 8 [x_tape, .ref td, x_draft, .ref li, x_draftLines, .ref nw, x_trial, .ref sg, .ref pa, .ref mk, .long x_drawn]), (mk, kM k 4 mf), (mk0, kO 2 [mk0_road, mk0_lines, mk0_sights, .int mk0_laid]), (mk1, kO 2 [mk1_road, mk1_lines, mk1_sights, .int mk1_laid]), (mk2, kO 2 [mk2_road, mk2_lines, mk2_sights, .int mk2_laid]), (mk3, kO 2 [mk3_road, mk3_lines, mk3_sights, .int mk3_laid]), (nw, kO 4 [.ref nw0, .ref nw1, .ref nw2, .ref nw3, .ref nw4, .ref nw5, .ref nw6, .int 0, .int 0, .int 0, .int 0, .int (-1), .int nw_stirred]), (nw0, kI k 6 g01), (nw1, kI k 6 g11), (nw2, kI k 6 g21), (nw3, kI k 6 g31), (nw4, kI k 6 g41), (nw5, kI k 6 g51), (nw6, kI k 6 g61), (td, kO 7 [td_names, td_kinds, td_yards, td_paces, td_skills, td_snow, td_law, .int 0, .int td_snows, .int td_bend, .int td_hour, .int td_bendTold, .int td_hourTold]), (li, kO 1 [li_deeds, li_guests, li_wholes, .int 0]), (sg, kO 5 [sg_minutes, sg_yards, sg_near, .int 0]), (pa, kO 3 [pa_kept, .int pa_first, .int 0])] H := hP
  have hD : va_D A [(x, kO 8 [x_tape, .ref td, x_draft, .ref li, x_draftLines, .ref nw, x_trial, .ref sg, .ref pa, .ref mk, .long x_drawn]), (mk, kM k 4 mf), (mk0, kO 2 [mk0_road, mk0_lines, mk0_sights, .int mk0_laid]), (mk1, kO 2 [mk1_road, mk1_lines, mk1_sights, .int mk1_laid]), (mk2, kO 2 [mk2_road, mk2_lines, mk2_sights, .int mk2_laid]), (mk3, kO 2 [mk3_road, mk3_lines, mk3_sights, .int mk3_laid]), (nw, kO 4 [.ref nw0, .ref nw1, .ref nw2, .ref nw3, .ref nw4, .ref nw5, .ref nw6, .int 0, .int 0, .int 0, .int 0, .int (-1), .int nw_stirred]), (nw0, kI k 6 g01), (nw1, kI k 6 g11), (nw2, kI k 6 g21), (nw3, kI k 6 g31), (nw4, kI k 6 g41), (nw5, kI k 6 g51), (nw6, kI k 6 g61), (td, kO 7 [td_names, td_kinds, td_yards, td_paces, td_skills, td_snow, td_law, .int 0, .int td_snows, .int td_bend, .int td_hour, .int td_bendTold, .int td_hourTold]), (li, kO 1 [li_deeds, li_guests, li_wholes, .int 0]), (sg, kO 5 [sg_minutes, sg_yards, sg_near, .int 0]), (pa, kO 3 [pa_kept, .int pa_first, .int 0])] := hD
  refine lv_iconst (v := 0) hx hb dX8_beginAnew_32 (by decide) ?_
  refine lv_istore_n (lv' := [(1, .int 0), (0, .ref x)]) hx hb dX8_beginAnew_33 rfl hl (by decide) rfl (fun ls hl => ?_)
  refine lv_iload_n hx hb dX8_beginAnew_34 rfl (lv_at hl 0 rfl) ?_
  refine lv_aload_n hx hb dX8_beginAnew_35 rfl (lv_at hl 1 rfl) ?_
  refine va_get (D := D) (ci := 8) (v := .ref mk) (C := RX8) (T := TX8) (N := 11) hx hb hts hi8 hown hK hP 0 rfl rfl 9 (by decide) lf62 (fun _ h9 => h9) rfl dX8_beginAnew_36 ?_
  refine va_alen (v := 4) hx hb hK hP 1 4 rfl rfl rfl dX8_beginAnew_39 ?_
  refine lv_icmp_ge (tgt := 59) hx hb dX8_beginAnew_40 (by decide) (fun c_5 => absurd c_5 (by decide)) (fun c_5 => ?_)
  refine lv_aload_n hx hb dX8_beginAnew_43 rfl (lv_at hl 1 rfl) ?_
  refine va_get (D := D) (ci := 8) (v := .ref mk) (C := RX8) (T := TX8) (N := 11) hx hb hts hi8 hown hK hP 0 rfl rfl 9 (by decide) lf62 (fun _ h9 => h9) rfl dX8_beginAnew_44 ?_
  refine lv_iload_n hx hb dX8_beginAnew_47 rfl (lv_at hl 0 rfl) ?_
  refine va_aldq hx hb hK hP 1 4 rfl rfl (vp_in_iff.mpr (by decide)) dX8_beginAnew_48 ?_
  refine kz_top (w := .ref mk0) (by rw [show Int32.toNatClampNeg 0 = 0 from rfl, hm0]; rfl) ?_
  refine lv_iconst (v := 0) hx hb dX8_beginAnew_49 (by decide) ?_
  refine va_put (D := D) (ci := 2) (v := .int 0) (ty := .boolean) (C := RX2) (T := TX2) (N := 4) hx hb hts hi2 tyX2 tyX2_ok nmX2 hown hK hP hD hS 2 rfl rfl 3 (by decide) lf98 (fun _ h9 => h9) rfl (by decide +kernel) rfl rfl (Nat.le_of_ble_eq_true rfl) dX8_beginAnew_50 (fun H locs hP hD hS => ?_)
  have hP : va_P D vwCl [(x, kO 8 [x_tape, .ref td, x_draft, .ref li, x_draftLines, .ref nw, x_trial, .ref sg, .ref pa, .ref mk, .long x_drawn]), (mk, kM k 4 mf), (mk0, kO 2 [mk0_road, mk0_lines, mk0_sights, .int 0]), (mk1, kO 2 [mk1_road, mk1_lines, mk1_sights, .int mk1_laid]), (mk2, kO 2 [mk2_road, mk2_lines, mk2_sights, .int mk2_laid]), (mk3, kO 2 [mk3_road, mk3_lines, mk3_sights, .int mk3_laid]), (nw, kO 4 [.ref nw0, .ref nw1, .ref nw2, .ref nw3, .ref nw4, .ref nw5, .ref nw6, .int 0, .int 0, .int 0, .int 0, .int (-1), .int nw_stirred]), (nw0, kI k 6 g01), (nw1, kI k 6 g11), (nw2, kI k 6 g21), (nw3, kI k 6 g31), (nw4, kI k 6 g41), (nw5, kI k 6 g51), (nw6, kI k 6 g61), (td, kO 7 [td_names, td_kinds, td_yards, td_paces, td_skills, td_snow, td_law, .int 0, .int td_snows, .int td_bend, .int td_hour, .int td_bendTold, .int td_hourTold]), (li, kO 1 [li_deeds, li_guests, li_wholes, .int 0]), (sg, kO 5 [sg_minutes, sg_yards, sg_near, .int 0]), (pa, kO 3 [pa_kept, .int pa_first, .int 0])] H := hP
  have hD : va_D A [(x, kO 8 [x_tape, .ref td, x_draft, .ref li, x_draftLines, .ref nw, x_trial, .ref sg, .ref pa, .ref mk, .long x_drawn]), (mk, kM k 4 mf), (mk0, kO 2 [mk0_road, mk0_lines, mk0_sights, .int 0]), (mk1, kO 2 [mk1_road, mk1_lines, mk1_sights, .int mk1_laid]), (mk2, kO 2 [mk2_road, mk2_lines, mk2_sights, .int mk2_laid]), (mk3, kO 2 [mk3_road, mk3_lines, mk3_sights, .int mk3_laid]), (nw, kO 4 [.ref nw0, .ref nw1, .ref nw2, .ref nw3, .ref nw4, .ref nw5, .ref nw6, .int 0, .int 0, .int 0, .int 0, .int (-1), .int nw_stirred]), (nw0, kI k 6 g01), (nw1, kI k 6 g11), (nw2, kI k 6 g21), (nw3, kI k 6 g31), (nw4, kI k 6 g41), (nw5, kI k 6 g51), (nw6, kI k 6 g61), (td, kO 7 [td_names, td_kinds, td_yards, td_paces, td_skills, td_snow, td_law, .int 0, .int td_snows, .int td_bend, .int td_hour, .int td_bendTold, .int td_hourTold]), (li, kO 1 [li_deeds, li_guests, li_wholes, .int 0]), (sg, kO 5 [sg_minutes, sg_yards, sg_near, .int 0]), (pa, kO 3 [pa_kept, .int pa_first, .int 0])] := hD
  refine lv_iinc (v := 1) (lv' := [(1, .int 1), (0, .ref x)]) hx hb dX8_beginAnew_53 hl (k := 0) rfl (by decide) (by decide) rfl (fun ls hl => ?_)
  refine lv_goto (tgt := 34) hx hb dX8_beginAnew_56 (by decide) ?_
  refine lv_iload_n hx hb dX8_beginAnew_34 rfl (lv_at hl 0 rfl) ?_
  refine lv_aload_n hx hb dX8_beginAnew_35 rfl (lv_at hl 1 rfl) ?_
  refine va_get (D := D) (ci := 8) (v := .ref mk) (C := RX8) (T := TX8) (N := 11) hx hb hts hi8 hown hK hP 0 rfl rfl 9 (by decide) lf62 (fun _ h9 => h9) rfl dX8_beginAnew_36 ?_
  refine va_alen (v := 4) hx hb hK hP 1 4 rfl rfl rfl dX8_beginAnew_39 ?_
  refine lv_icmp_ge (tgt := 59) hx hb dX8_beginAnew_40 (by decide) (fun c_7 => absurd c_7 (by decide)) (fun c_7 => ?_)
  refine lv_aload_n hx hb dX8_beginAnew_43 rfl (lv_at hl 1 rfl) ?_
  refine va_get (D := D) (ci := 8) (v := .ref mk) (C := RX8) (T := TX8) (N := 11) hx hb hts hi8 hown hK hP 0 rfl rfl 9 (by decide) lf62 (fun _ h9 => h9) rfl dX8_beginAnew_44 ?_
  refine lv_iload_n hx hb dX8_beginAnew_47 rfl (lv_at hl 0 rfl) ?_
  refine va_aldq hx hb hK hP 1 4 rfl rfl (vp_in_iff.mpr (by decide)) dX8_beginAnew_48 ?_
  refine kz_top (w := .ref mk1) (by rw [show Int32.toNatClampNeg 1 = 1 from rfl, hm1]; rfl) ?_
  refine lv_iconst (v := 0) hx hb dX8_beginAnew_49 (by decide) ?_
  refine va_put (D := D) (ci := 2) (v := .int 0) (ty := .boolean) (C := RX2) (T := TX2) (N := 4) hx hb hts hi2 tyX2 tyX2_ok nmX2 hown hK hP hD hS 3 rfl rfl 3 (by decide) lf98 (fun _ h9 => h9) rfl (by decide +kernel) rfl rfl (Nat.le_of_ble_eq_true rfl) dX8_beginAnew_50 (fun H locs hP hD hS => ?_)
  have hP : va_P D vwCl [(x, kO 8 [x_tape, .ref td, x_draft, .ref li, x_draftLines, .ref nw, x_trial, .ref sg, .ref pa, .ref mk, .long x_drawn]), (mk, kM k 4 mf), (mk0, kO 2 [mk0_road, mk0_lines, mk0_sights, .int 0]), (mk1, kO 2 [mk1_road, mk1_lines, mk1_sights, .int 0]), (mk2, kO 2 [mk2_road, mk2_lines, mk2_sights, .int mk2_laid]), (mk3, kO 2 [mk3_road, mk3_lines, mk3_sights, .int mk3_laid]), (nw, kO 4 [.ref nw0, .ref nw1, .ref nw2, .ref nw3, .ref nw4, .ref nw5, .ref nw6, .int 0, .int 0, .int 0, .int 0, .int (-1), .int nw_stirred]), (nw0, kI k 6 g01), (nw1, kI k 6 g11), (nw2, kI k 6 g21), (nw3, kI k 6 g31), (nw4, kI k 6 g41), (nw5, kI k 6 g51), (nw6, kI k 6 g61), (td, kO 7 [td_names, td_kinds, td_yards, td_paces, td_skills, td_snow, td_law, .int 0, .int td_snows, .int td_bend, .int td_hour, .int td_bendTold, .int td_hourTold]), (li, kO 1 [li_deeds, li_guests, li_wholes, .int 0]), (sg, kO 5 [sg_minutes, sg_yards, sg_near, .int 0]), (pa, kO 3 [pa_kept, .int pa_first, .int 0])] H := hP
  have hD : va_D A [(x, kO 8 [x_tape, .ref td, x_draft, .ref li, x_draftLines, .ref nw, x_trial, .ref sg, .ref pa, .ref mk, .long x_drawn]), (mk, kM k 4 mf), (mk0, kO 2 [mk0_road, mk0_lines, mk0_sights, .int 0]), (mk1, kO 2 [mk1_road, mk1_lines, mk1_sights, .int 0]), (mk2, kO 2 [mk2_road, mk2_lines, mk2_sights, .int mk2_laid]), (mk3, kO 2 [mk3_road, mk3_lines, mk3_sights, .int mk3_laid]), (nw, kO 4 [.ref nw0, .ref nw1, .ref nw2, .ref nw3, .ref nw4, .ref nw5, .ref nw6, .int 0, .int 0, .int 0, .int 0, .int (-1), .int nw_stirred]), (nw0, kI k 6 g01), (nw1, kI k 6 g11), (nw2, kI k 6 g21), (nw3, kI k 6 g31), (nw4, kI k 6 g41), (nw5, kI k 6 g51), (nw6, kI k 6 g61), (td, kO 7 [td_names, td_kinds, td_yards, td_paces, td_skills, td_snow, td_law, .int 0, .int td_snows, .int td_bend, .int td_hour, .int td_bendTold, .int td_hourTold]), (li, kO 1 [li_deeds, li_guests, li_wholes, .int 0]), (sg, kO 5 [sg_minutes, sg_yards, sg_near, .int 0]), (pa, kO 3 [pa_kept, .int pa_first, .int 0])] := hD
  refine lv_iinc (v := 2) (lv' := [(1, .int 2), (0, .ref x)]) hx hb dX8_beginAnew_53 hl (k := 0) rfl (by decide) (by decide) rfl (fun ls hl => ?_)
  refine lv_goto (tgt := 34) hx hb dX8_beginAnew_56 (by decide) ?_
  refine lv_iload_n hx hb dX8_beginAnew_34 rfl (lv_at hl 0 rfl) ?_
  refine lv_aload_n hx hb dX8_beginAnew_35 rfl (lv_at hl 1 rfl) ?_
  refine va_get (D := D) (ci := 8) (v := .ref mk) (C := RX8) (T := TX8) (N := 11) hx hb hts hi8 hown hK hP 0 rfl rfl 9 (by decide) lf62 (fun _ h9 => h9) rfl dX8_beginAnew_36 ?_
  refine va_alen (v := 4) hx hb hK hP 1 4 rfl rfl rfl dX8_beginAnew_39 ?_
  refine lv_icmp_ge (tgt := 59) hx hb dX8_beginAnew_40 (by decide) (fun c_9 => absurd c_9 (by decide)) (fun c_9 => ?_)
  refine lv_aload_n hx hb dX8_beginAnew_43 rfl (lv_at hl 1 rfl) ?_
  refine va_get (D := D) (ci := 8) (v := .ref mk) (C := RX8) (T := TX8) (N := 11) hx hb hts hi8 hown hK hP 0 rfl rfl 9 (by decide) lf62 (fun _ h9 => h9) rfl dX8_beginAnew_44 ?_
  refine lv_iload_n hx hb dX8_beginAnew_47 rfl (lv_at hl 0 rfl) ?_
  refine va_aldq hx hb hK hP 1 4 rfl rfl (vp_in_iff.mpr (by decide)) dX8_beginAnew_48 ?_
  refine kz_top (w := .ref mk2) (by rw [show Int32.toNatClampNeg 2 = 2 from rfl, hm2]; rfl) ?_
  refine lv_iconst (v := 0) hx hb dX8_beginAnew_49 (by decide) ?_
  refine va_put (D := D) (ci := 2) (v := .int 0) (ty := .boolean) (C := RX2) (T := TX2) (N := 4) hx hb hts hi2 tyX2 tyX2_ok nmX2 hown hK hP hD hS 4 rfl rfl 3 (by decide) lf98 (fun _ h9 => h9) rfl (by decide +kernel) rfl rfl (Nat.le_of_ble_eq_true rfl) dX8_beginAnew_50 (fun H locs hP hD hS => ?_)
  have hP : va_P D vwCl [(x, kO 8 [x_tape, .ref td, x_draft, .ref li, x_draftLines, .ref nw, x_trial, .ref sg, .ref pa, .ref mk, .long x_drawn]), (mk, kM k 4 mf), (mk0, kO 2 [mk0_road, mk0_lines, mk0_sights, .int 0]), (mk1, kO 2 [mk1_road, mk1_lines, mk1_sights, .int 0]), (mk2, kO 2 [mk2_road, mk2_lines, mk2_sights, .int 0]), (mk3, kO 2 [mk3_road, mk3_lines, mk3_sights, .int mk3_laid]), (nw, kO 4 [.ref nw0, .ref nw1, .ref nw2, .ref nw3, .ref nw4, .ref nw5, .ref nw6, .int 0, .int 0, .int 0, .int 0, .int (-1), .int nw_stirred]), (nw0, kI k 6 g01), (nw1, kI k 6 g11), (nw2, kI k 6 g21), (nw3, kI k 6 g31), (nw4, kI k 6 g41), (nw5, kI k 6 g51), (nw6, kI k 6 g61), (td, kO 7 [td_names, td_kinds, td_yards, td_paces, td_skills, td_snow, td_law, .int 0, .int td_snows, .int td_bend, .int td_hour, .int td_bendTold, .int td_hourTold]), (li, kO 1 [li_deeds, li_guests, li_wholes, .int 0]), (sg, kO 5 [sg_minutes, sg_yards, sg_near, .int 0]), (pa, kO 3 [pa_kept, .int pa_first, .int 0])] H := hP
  have hD : va_D A [(x, kO 8 [x_tape, .ref td, x_draft, .ref li, x_draftLines, .ref nw, x_trial, .ref sg, .ref pa, .ref mk, .long x_drawn]), (mk, kM k 4 mf), (mk0, kO 2 [mk0_road, mk0_lines, mk0_sights, .int 0]), (mk1, kO 2 [mk1_road, mk1_lines, mk1_sights, .int 0]), (mk2, kO 2 [mk2_road, mk2_lines, mk2_sights, .int 0]), (mk3, kO 2 [mk3_road, mk3_lines, mk3_sights, .int mk3_laid]), (nw, kO 4 [.ref nw0, .ref nw1, .ref nw2, .ref nw3, .ref nw4, .ref nw5, .ref nw6, .int 0, .int 0, .int 0, .int 0, .int (-1), .int nw_stirred]), (nw0, kI k 6 g01), (nw1, kI k 6 g11), (nw2, kI k 6 g21), (nw3, kI k 6 g31), (nw4, kI k 6 g41), (nw5, kI k 6 g51), (nw6, kI k 6 g61), (td, kO 7 [td_names, td_kinds, td_yards, td_paces, td_skills, td_snow, td_law, .int 0, .int td_snows, .int td_bend, .int td_hour, .int td_bendTold, .int td_hourTold]), (li, kO 1 [li_deeds, li_guests, li_wholes, .int 0]), (sg, kO 5 [sg_minutes, sg_yards, sg_near, .int 0]), (pa, kO 3 [pa_kept, .int pa_first, .int 0])] := hD
  refine lv_iinc (v := 3) (lv' := [(1, .int 3), (0, .ref x)]) hx hb dX8_beginAnew_53 hl (k := 0) rfl (by decide) (by decide) rfl (fun ls hl => ?_)
  refine lv_goto (tgt := 34) hx hb dX8_beginAnew_56 (by decide) ?_
  refine lv_iload_n hx hb dX8_beginAnew_34 rfl (lv_at hl 0 rfl) ?_
  refine lv_aload_n hx hb dX8_beginAnew_35 rfl (lv_at hl 1 rfl) ?_
  refine va_get (D := D) (ci := 8) (v := .ref mk) (C := RX8) (T := TX8) (N := 11) hx hb hts hi8 hown hK hP 0 rfl rfl 9 (by decide) lf62 (fun _ h9 => h9) rfl dX8_beginAnew_36 ?_
  refine va_alen (v := 4) hx hb hK hP 1 4 rfl rfl rfl dX8_beginAnew_39 ?_
  refine lv_icmp_ge (tgt := 59) hx hb dX8_beginAnew_40 (by decide) (fun c_11 => absurd c_11 (by decide)) (fun c_11 => ?_)
  refine lv_aload_n hx hb dX8_beginAnew_43 rfl (lv_at hl 1 rfl) ?_
  refine va_get (D := D) (ci := 8) (v := .ref mk) (C := RX8) (T := TX8) (N := 11) hx hb hts hi8 hown hK hP 0 rfl rfl 9 (by decide) lf62 (fun _ h9 => h9) rfl dX8_beginAnew_44 ?_
  refine lv_iload_n hx hb dX8_beginAnew_47 rfl (lv_at hl 0 rfl) ?_
  refine va_aldq hx hb hK hP 1 4 rfl rfl (vp_in_iff.mpr (by decide)) dX8_beginAnew_48 ?_
  refine kz_top (w := .ref mk3) (by rw [show Int32.toNatClampNeg 3 = 3 from rfl, hm3]; rfl) ?_
  refine lv_iconst (v := 0) hx hb dX8_beginAnew_49 (by decide) ?_
  refine va_put (D := D) (ci := 2) (v := .int 0) (ty := .boolean) (C := RX2) (T := TX2) (N := 4) hx hb hts hi2 tyX2 tyX2_ok nmX2 hown hK hP hD hS 5 rfl rfl 3 (by decide) lf98 (fun _ h9 => h9) rfl (by decide +kernel) rfl rfl (Nat.le_of_ble_eq_true rfl) dX8_beginAnew_50 (fun H locs hP hD hS => ?_)
  have hP : va_P D vwCl [(x, kO 8 [x_tape, .ref td, x_draft, .ref li, x_draftLines, .ref nw, x_trial, .ref sg, .ref pa, .ref mk, .long x_drawn]), (mk, kM k 4 mf), (mk0, kO 2 [mk0_road, mk0_lines, mk0_sights, .int 0]), (mk1, kO 2 [mk1_road, mk1_lines, mk1_sights, .int 0]), (mk2, kO 2 [mk2_road, mk2_lines, mk2_sights, .int 0]), (mk3, kO 2 [mk3_road, mk3_lines, mk3_sights, .int 0]), (nw, kO 4 [.ref nw0, .ref nw1, .ref nw2, .ref nw3, .ref nw4, .ref nw5, .ref nw6, .int 0, .int 0, .int 0, .int 0, .int (-1), .int nw_stirred]), (nw0, kI k 6 g01), (nw1, kI k 6 g11), (nw2, kI k 6 g21), (nw3, kI k 6 g31), (nw4, kI k 6 g41), (nw5, kI k 6 g51), (nw6, kI k 6 g61), (td, kO 7 [td_names, td_kinds, td_yards, td_paces, td_skills, td_snow, td_law, .int 0, .int td_snows, .int td_bend, .int td_hour, .int td_bendTold, .int td_hourTold]), (li, kO 1 [li_deeds, li_guests, li_wholes, .int 0]), (sg, kO 5 [sg_minutes, sg_yards, sg_near, .int 0]), (pa, kO 3 [pa_kept, .int pa_first, .int 0])] H := hP
  have hD : va_D A [(x, kO 8 [x_tape, .ref td, x_draft, .ref li, x_draftLines, .ref nw, x_trial, .ref sg, .ref pa, .ref mk, .long x_drawn]), (mk, kM k 4 mf), (mk0, kO 2 [mk0_road, mk0_lines, mk0_sights, .int 0]), (mk1, kO 2 [mk1_road, mk1_lines, mk1_sights, .int 0]), (mk2, kO 2 [mk2_road, mk2_lines, mk2_sights, .int 0]), (mk3, kO 2 [mk3_road, mk3_lines, mk3_sights, .int 0]), (nw, kO 4 [.ref nw0, .ref nw1, .ref nw2, .ref nw3, .ref nw4, .ref nw5, .ref nw6, .int 0, .int 0, .int 0, .int 0, .int (-1), .int nw_stirred]), (nw0, kI k 6 g01), (nw1, kI k 6 g11), (nw2, kI k 6 g21), (nw3, kI k 6 g31), (nw4, kI k 6 g41), (nw5, kI k 6 g51), (nw6, kI k 6 g61), (td, kO 7 [td_names, td_kinds, td_yards, td_paces, td_skills, td_snow, td_law, .int 0, .int td_snows, .int td_bend, .int td_hour, .int td_bendTold, .int td_hourTold]), (li, kO 1 [li_deeds, li_guests, li_wholes, .int 0]), (sg, kO 5 [sg_minutes, sg_yards, sg_near, .int 0]), (pa, kO 3 [pa_kept, .int pa_first, .int 0])] := hD
  refine lv_iinc (v := 4) (lv' := [(1, .int 4), (0, .ref x)]) hx hb dX8_beginAnew_53 hl (k := 0) rfl (by decide) (by decide) rfl (fun ls hl => ?_)
  refine lv_goto (tgt := 34) hx hb dX8_beginAnew_56 (by decide) ?_
  refine lv_iload_n hx hb dX8_beginAnew_34 rfl (lv_at hl 0 rfl) ?_
  refine lv_aload_n hx hb dX8_beginAnew_35 rfl (lv_at hl 1 rfl) ?_
  refine va_get (D := D) (ci := 8) (v := .ref mk) (C := RX8) (T := TX8) (N := 11) hx hb hts hi8 hown hK hP 0 rfl rfl 9 (by decide) lf62 (fun _ h9 => h9) rfl dX8_beginAnew_36 ?_
  refine va_alen (v := 4) hx hb hK hP 1 4 rfl rfl rfl dX8_beginAnew_39 ?_
  refine lv_icmp_ge (tgt := 59) hx hb dX8_beginAnew_40 (by decide) (fun c_13 => ?_) (fun c_13 => absurd (by decide) c_13)
  rw [hQ]
  have hP9 := hP.sub (ws' := []) [] rfl
  have hD9 := hD.sub (ws' := []) [] (by decide) rfl
  exact W.vret hx hb hr (fun zt ht hW => ⟨⟨(), rfl, trivial, by rw [ht]; exact hP9, hD9⟩, hS.F ht⟩) hS.2.2 dX8_beginAnew_59
theorem dX8_supper_0 : decode cX8_supper 0 = .ok (.aload_n 0, 1) := by decide +kernel
theorem dX8_supper_1 : decode cX8_supper 1 = .ok (.getfield 10, 3) := by decide +kernel
theorem dX8_supper_4 : decode cX8_supper 4 = .ok (.invokevirtual 75, 3) := by decide +kernel
theorem dX8_supper_7 : decode cX8_supper 7 = .ok (.aload_n 0, 1) := by decide +kernel
theorem dX8_supper_8 : decode cX8_supper 8 = .ok (.getfield 23, 3) := by decide +kernel
theorem dX8_supper_11 : decode cX8_supper 11 = .ok (.aload_n 0, 1) := by decide +kernel
theorem dX8_supper_12 : decode cX8_supper 12 = .ok (.getfield 10, 3) := by decide +kernel
theorem dX8_supper_15 : decode cX8_supper 15 = .ok (.invokevirtual 78, 3) := by decide +kernel
theorem dX8_supper_18 : decode cX8_supper 18 = .ok (.istore_n 1, 1) := by decide +kernel
theorem dX8_supper_19 : decode cX8_supper 19 = .ok (.aload_n 0, 1) := by decide +kernel
theorem dX8_supper_20 : decode cX8_supper 20 = .ok (.getfield 10, 3) := by decide +kernel
theorem dX8_supper_23 : decode cX8_supper 23 = .ok (.invokevirtual 82, 3) := by decide +kernel
theorem dX8_supper_26 : decode cX8_supper 26 = .ok (.iload_n 1, 1) := by decide +kernel
theorem dX8_supper_27 : decode cX8_supper 27 = .ok (.ifCond .ne 11, 3) := by decide +kernel
theorem dX8_supper_38 : decode cX8_supper 38 = .ok (.aload_n 0, 1) := by decide +kernel
theorem dX8_supper_39 : decode cX8_supper 39 = .ok (.getfield 19, 3) := by decide +kernel
theorem dX8_supper_42 : decode cX8_supper 42 = .ok (.astore_n 2, 1) := by decide +kernel
theorem dX8_supper_43 : decode cX8_supper 43 = .ok (.aload_n 0, 1) := by decide +kernel
theorem dX8_supper_44 : decode cX8_supper 44 = .ok (.aload_n 0, 1) := by decide +kernel
theorem dX8_supper_45 : decode cX8_supper 45 = .ok (.getfield 23, 3) := by decide +kernel
theorem dX8_supper_48 : decode cX8_supper 48 = .ok (.putfield 19, 3) := by decide +kernel
theorem dX8_supper_51 : decode cX8_supper 51 = .ok (.aload_n 0, 1) := by decide +kernel
theorem dX8_supper_52 : decode cX8_supper 52 = .ok (.aload_n 2, 1) := by decide +kernel
theorem dX8_supper_53 : decode cX8_supper 53 = .ok (.putfield 23, 3) := by decide +kernel
theorem dX8_supper_56 : decode cX8_supper 56 = .ok (.aload_n 0, 1) := by decide +kernel
theorem dX8_supper_57 : decode cX8_supper 57 = .ok (.invokevirtual 88, 3) := by decide +kernel
theorem dX8_supper_60 : decode cX8_supper 60 = .ok (.iconst 0, 1) := by decide +kernel
theorem dX8_supper_61 : decode cX8_supper 61 = .ok (.ireturn, 1) := by decide +kernel
set_option maxRecDepth 20000 in
theorem ggX8_supper_X6_rewind : GoodIn wsX8_supper wsX6_rewind := goodIn_r _ [9, 10, 11, 12, 13, 14, 8, 15, 16, 17, 18, 19, 20, 21, 22, 23, 24, 25, 26, 27, 28, 29, 30, 31, 32, 33, 34, 35, 36, 37, 38, 39, 40, 41, 42, 43, 44, 45, 46, 47, 48, 49, 50, 51, 52, 53, 54, 55, 56, 57, 58, 59, 60, 61, 62, 63, 64, 65, 66, 67, 68, 69, 70, 71, 72, 73, 74, 75, 76, 77, 78, 79, 80, 81, 82, 83, 84, 85, 86, 87, 88, 89, 90, 91, 92, 93, 94, 95, 96, 97, 98, 99, 100, 101, 102, 103, 104, 105, 106, 107, 108, 109, 110, 111, 112, 113, 114, 115, 116, 117, 118, 119, 120, 121, 122, 123, 124, 125, 126, 127, 128, 129, 332, 333, 334, 335, 336, 337, 338, 339, 340] rfl (by decide +kernel)
set_option maxRecDepth 20000 in
theorem gX8_supper_X6_rewind : GoodIn wsX8_supper (wsV RX8 75 RX6 yX6_rewind wsX6_rewind) := goodIn_app (goodIn_of _ (by decide +kernel)) ggX8_supper_X6_rewind
set_option maxRecDepth 20000 in
theorem ggX8_supper_X7_read : GoodIn wsX8_supper wsX7_read := goodIn_r _ [134, 135, 136, 137, 138, 133, 139, 140, 141, 142, 143, 144, 145, 146, 147, 148, 149, 150, 151, 152, 153, 154, 8, 155, 20, 156, 157, 158, 159, 19, 160, 161, 162, 163, 164, 165, 166, 167, 168, 169, 170, 171, 172, 173, 18, 11, 174, 13, 14, 15, 10, 16, 17, 21, 22, 23, 24, 25, 26, 27, 28, 29, 30, 31, 32, 33, 34, 35, 36, 37, 38, 39, 40, 41, 42, 43, 44, 45, 46, 47, 48, 49, 50, 51, 52, 53, 54, 55, 56, 57, 58, 59, 60, 61, 62, 63, 64, 65, 66, 67, 68, 69, 70, 71, 72, 73, 74, 75, 76, 77, 78, 79, 80, 81, 82, 83, 84, 85, 86, 87, 88, 89, 90, 91, 92, 93, 94, 95, 96, 97, 98, 99, 100, 101, 102, 103, 104, 105, 106, 107, 108, 109, 110, 111, 112, 113, 114, 115, 116, 117, 118, 119, 120, 121, 122, 123, 124, 125, 126, 127, 128, 129, 175, 176, 177, 178, 179, 180, 181, 182, 183, 184, 185, 186, 187, 188, 189, 190, 191, 192, 193, 194, 12, 195, 196, 197, 198, 199, 200, 201, 202, 203, 204, 205, 206, 207, 208, 209, 210, 211, 212, 213, 214, 215, 216, 217, 218, 219, 220, 221, 222, 223, 224, 225, 226, 227, 228, 229, 230, 231, 232, 233, 234, 235, 236, 237, 238, 239, 240, 241, 242, 243, 244, 245, 246, 247, 248, 249, 250, 251, 252, 253, 254, 255, 256, 257, 258, 259, 260, 261, 262, 263, 264, 341, 342, 343, 344, 345, 346, 347, 348, 349, 350, 351, 352, 353, 354, 355, 356, 357, 358, 332, 333, 334, 335, 336, 337, 338, 339, 340] rfl (by decide +kernel)
set_option maxRecDepth 20000 in
theorem gX8_supper_X7_read : GoodIn wsX8_supper (wsV RX8 78 RX7 yX7_read wsX7_read) := goodIn_app (goodIn_of _ (by decide +kernel)) ggX8_supper_X7_read
set_option maxRecDepth 20000 in
theorem ggX8_supper_X6_clear : GoodIn wsX8_supper wsX6_clear := goodIn_r _ [268, 16, 332, 333, 334, 335, 336, 337, 338, 339, 340] rfl (by decide +kernel)
set_option maxRecDepth 20000 in
theorem gX8_supper_X6_clear : GoodIn wsX8_supper (wsV RX8 82 RX6 yX6_clear wsX6_clear) := goodIn_app (goodIn_of _ (by decide +kernel)) ggX8_supper_X6_clear
set_option maxRecDepth 20000 in
theorem ggX8_supper_X8_beginAnew : GoodIn wsX8_supper wsX8_beginAnew := goodIn_r _ [272, 273, 4, 274, 275, 276, 277, 278, 279, 280, 281, 282, 283, 284, 285, 286, 287, 288, 289, 290, 291, 292, 293, 294, 295, 296, 297, 298, 299, 300, 301, 302, 303, 304, 305, 306, 307, 308, 309, 310, 311, 312, 313, 314, 315, 316, 317, 318, 319, 320, 321, 322, 323, 324, 325, 326, 327, 328, 329, 330, 331, 359, 360, 361, 362, 363, 364, 365, 366, 367, 368, 369, 370, 371, 372, 373, 374, 375, 341, 342, 343, 344, 345, 346, 347, 348, 349, 350, 351, 352, 353, 376, 377, 378, 379, 380, 381, 382, 383, 384, 385, 386] rfl (by decide +kernel)
set_option maxRecDepth 20000 in
theorem gX8_supper_X8_beginAnew : GoodIn wsX8_supper (wsV RX8 88 RX8 yX8_beginAnew wsX8_beginAnew) := goodIn_app (goodIn_of _ (by decide +kernel)) ggX8_supper_X8_beginAnew
set_option maxHeartbeats 4000000 in
set_option maxRecDepth 100000 in
theorem mX8_supper (l : Launch) (D : va_G) (k : Nat → ClassId) (sz : Nat) (x : Nat) (tp : Nat) (td : Nat) (dr : Nat) (li : Nat) (x_draftLines : Value) (nw : Nat) (x_trial : Value) (sg : Nat) (pa : Nat) (mk : Nat) (x_drawn : Int64) (tp_signs : Value) (tp_words : Value) (tp_next : Int32) (tp_place : Int32) (tp_kind : Int32) (tp_value : Int32) (tp_letters : Int64) (tp_fault : Int32) (dr_names : Value) (dr_kinds : Value) (dr_yards : Value) (dr_paces : Value) (dr_skills : Value) (dr_snow : Value) (dw : Nat) (dr_guests : Int32) (dr_snows : Int32) (dr_bend : Int32) (dr_hour : Int32) (dr_bendTold : Int32) (dr_hourTold : Int32) (dw_code : Value) (dw_stack : Value) (dw_facts : Value) (dw_length : Int32) (dw_top : Int32) (nw0 : Nat) (nw1 : Nat) (nw2 : Nat) (nw3 : Nat) (nw4 : Nat) (nw5 : Nat) (nw6 : Nat) (nw_inside : Int32) (nw_night : Int32) (nw_minute : Int32) (nw_tasted : Int32) (nw_lastCook : Int32) (nw_stirred : Int32) (nwf0 : Nat → Int32) (nwf1 : Nat → Int32) (nwf2 : Nat → Int32) (nwf3 : Nat → Int32) (nwf4 : Nat → Int32) (nwf5 : Nat → Int32) (nwf6 : Nat → Int32) (li_deeds : Value) (li_guests : Value) (li_wholes : Value) (li_size : Int32) (sg_minutes : Value) (sg_yards : Value) (sg_near : Value) (sg_size : Int32) (pa_kept : Value) (pa_first : Int32) (pa_size : Int32) (mf : Nat → Option Nat) (mk0 : Nat) (mk0_road : Value) (mk0_lines : Value) (mk0_sights : Value) (mk0_laid : Int32) (mk1 : Nat) (mk1_road : Value) (mk1_lines : Value) (mk1_sights : Value) (mk1_laid : Int32) (mk2 : Nat) (mk2_road : Value) (mk2_lines : Value) (mk2_sights : Value) (mk2_laid : Int32) (mk3 : Nat) (mk3_road : Value) (mk3_lines : Value) (mk3_sights : Value) (mk3_laid : Int32) (hm0 : mf 0 = some mk0) (hm1 : mf 1 = some mk1) (hm2 : mf 2 = some mk2) (hm3 : mf 3 = some mk3) : Met l yX8_supper wsX8_supper ({ frames := 3, cells := 0, slots := 0, locals := 210 }) (va_Pc [.ref x] (kz_Pre D k [(x, kO 8 [.ref tp, .ref td, .ref dr, .ref li, x_draftLines, .ref nw, x_trial, .ref sg, .ref pa, .ref mk, .long x_drawn]), (tp, kO 6 [tp_signs, tp_words, .int 0, .int tp_next, .int tp_place, .int tp_kind, .int tp_value, .long tp_letters, .int tp_fault]), (dr, kO 7 [dr_names, dr_kinds, dr_yards, dr_paces, dr_skills, dr_snow, .ref dw, .int dr_guests, .int dr_snows, .int dr_bend, .int dr_hour, .int dr_bendTold, .int dr_hourTold]), (dw, kO 0 [dw_code, dw_stack, dw_facts, .int dw_length, .int dw_top]), (nw, kO 4 [.ref nw0, .ref nw1, .ref nw2, .ref nw3, .ref nw4, .ref nw5, .ref nw6, .int nw_inside, .int nw_night, .int nw_minute, .int nw_tasted, .int nw_lastCook, .int nw_stirred]), (nw0, kI k 6 nwf0), (nw1, kI k 6 nwf1), (nw2, kI k 6 nwf2), (nw3, kI k 6 nwf3), (nw4, kI k 6 nwf4), (nw5, kI k 6 nwf5), (nw6, kI k 6 nwf6), (li, kO 1 [li_deeds, li_guests, li_wholes, .int li_size]), (sg, kO 5 [sg_minutes, sg_yards, sg_near, .int sg_size]), (pa, kO 3 [pa_kept, .int pa_first, .int pa_size]), (mk, kM k 4 mf), (mk0, kO 2 [mk0_road, mk0_lines, mk0_sights, .int mk0_laid]), (mk1, kO 2 [mk1_road, mk1_lines, mk1_sights, .int mk1_laid]), (mk2, kO 2 [mk2_road, mk2_lines, mk2_sights, .int mk2_laid]), (mk3, kO 2 [mk3_road, mk3_lines, mk3_sights, .int mk3_laid])] sz)) (va_Qi (fun (rr : Int32) (uu : Unit) => rr = 0) (fun uu zt => kz_B D (va_A [(x, kO 8 [.ref tp, .ref td, .ref dr, .ref li, x_draftLines, .ref nw, x_trial, .ref sg, .ref pa, .ref mk, .long x_drawn]), (tp, kO 6 [tp_signs, tp_words, .int 0, .int tp_next, .int tp_place, .int tp_kind, .int tp_value, .long tp_letters, .int tp_fault]), (dr, kO 7 [dr_names, dr_kinds, dr_yards, dr_paces, dr_skills, dr_snow, .ref dw, .int dr_guests, .int dr_snows, .int dr_bend, .int dr_hour, .int dr_bendTold, .int dr_hourTold]), (dw, kO 0 [dw_code, dw_stack, dw_facts, .int dw_length, .int dw_top]), (nw, kO 4 [.ref nw0, .ref nw1, .ref nw2, .ref nw3, .ref nw4, .ref nw5, .ref nw6, .int nw_inside, .int nw_night, .int nw_minute, .int nw_tasted, .int nw_lastCook, .int nw_stirred]), (nw0, kI k 6 nwf0), (nw1, kI k 6 nwf1), (nw2, kI k 6 nwf2), (nw3, kI k 6 nwf3), (nw4, kI k 6 nwf4), (nw5, kI k 6 nwf5), (nw6, kI k 6 nwf6), (li, kO 1 [li_deeds, li_guests, li_wholes, .int li_size]), (sg, kO 5 [sg_minutes, sg_yards, sg_near, .int sg_size]), (pa, kO 3 [pa_kept, .int pa_first, .int pa_size]), (mk, kM k 4 mf), (mk0, kO 2 [mk0_road, mk0_lines, mk0_sights, .int mk0_laid]), (mk1, kO 2 [mk1_road, mk1_lines, mk1_sights, .int mk1_laid]), (mk2, kO 2 [mk2_road, mk2_lines, mk2_sights, .int mk2_laid]), (mk3, kO 2 [mk3_road, mk3_lines, mk3_sights, .int mk3_laid])] sz) [] zt) (va_A [(x, kO 8 [.ref tp, .ref td, .ref dr, .ref li, x_draftLines, .ref nw, x_trial, .ref sg, .ref pa, .ref mk, .long x_drawn]), (tp, kO 6 [tp_signs, tp_words, .int 0, .int tp_next, .int tp_place, .int tp_kind, .int tp_value, .long tp_letters, .int tp_fault]), (dr, kO 7 [dr_names, dr_kinds, dr_yards, dr_paces, dr_skills, dr_snow, .ref dw, .int dr_guests, .int dr_snows, .int dr_bend, .int dr_hour, .int dr_bendTold, .int dr_hourTold]), (dw, kO 0 [dw_code, dw_stack, dw_facts, .int dw_length, .int dw_top]), (nw, kO 4 [.ref nw0, .ref nw1, .ref nw2, .ref nw3, .ref nw4, .ref nw5, .ref nw6, .int nw_inside, .int nw_night, .int nw_minute, .int nw_tasted, .int nw_lastCook, .int nw_stirred]), (nw0, kI k 6 nwf0), (nw1, kI k 6 nwf1), (nw2, kI k 6 nwf2), (nw3, kI k 6 nwf3), (nw4, kI k 6 nwf4), (nw5, kI k 6 nwf5), (nw6, kI k 6 nwf6), (li, kO 1 [li_deeds, li_guests, li_wholes, .int li_size]), (sg, kO 5 [sg_minutes, sg_yards, sg_near, .int sg_size]), (pa, kO 3 [pa_kept, .int pa_first, .int pa_size]), (mk, kM k 4 mf), (mk0, kO 2 [mk0_road, mk0_lines, mk0_sights, .int mk0_laid]), (mk1, kO 2 [mk1_road, mk1_lines, mk1_sights, .int mk1_laid]), (mk2, kO 2 [mk2_road, mk2_lines, mk2_sights, .int mk2_laid]), (mk3, kO 2 [mk3_road, mk3_lines, mk3_sights, .int mk3_laid])] sz)) 0 0 (va_A [(x, kO 8 [.ref tp, .ref td, .ref dr, .ref li, x_draftLines, .ref nw, x_trial, .ref sg, .ref pa, .ref mk, .long x_drawn]), (tp, kO 6 [tp_signs, tp_words, .int 0, .int tp_next, .int tp_place, .int tp_kind, .int tp_value, .long tp_letters, .int tp_fault]), (dr, kO 7 [dr_names, dr_kinds, dr_yards, dr_paces, dr_skills, dr_snow, .ref dw, .int dr_guests, .int dr_snows, .int dr_bend, .int dr_hour, .int dr_bendTold, .int dr_hourTold]), (dw, kO 0 [dw_code, dw_stack, dw_facts, .int dw_length, .int dw_top]), (nw, kO 4 [.ref nw0, .ref nw1, .ref nw2, .ref nw3, .ref nw4, .ref nw5, .ref nw6, .int nw_inside, .int nw_night, .int nw_minute, .int nw_tasted, .int nw_lastCook, .int nw_stirred]), (nw0, kI k 6 nwf0), (nw1, kI k 6 nwf1), (nw2, kI k 6 nwf2), (nw3, kI k 6 nwf3), (nw4, kI k 6 nwf4), (nw5, kI k 6 nwf5), (nw6, kI k 6 nwf6), (li, kO 1 [li_deeds, li_guests, li_wholes, .int li_size]), (sg, kO 5 [sg_minutes, sg_yards, sg_near, .int sg_size]), (pa, kO 3 [pa_kept, .int pa_first, .int pa_size]), (mk, kM k 4 mf), (mk0, kO 2 [mk0_road, mk0_lines, mk0_sights, .int mk0_laid]), (mk1, kO 2 [mk1_road, mk1_lines, mk1_sights, .int mk1_laid]), (mk2, kO 2 [mk2_road, mk2_lines, mk2_sights, .int mk2_laid]), (mk3, kO 2 [mk3_road, mk3_lines, mk3_sights, .int mk3_laid])] sz) := by
  refine Met.ofW (cc := cX8_supper) (maxL := 3) (ret := (some .int)) (by decide) rfl ?_
  intro p e s m args below meth c s₁ B hml hv
  obtain ⟨hav, hsz, hP, hK, hD0, hE⟩ := hv
  have hx := B.exec
  have hb := B.bytes
  have hr := B.returns
  have hts := atoms_spec (ws := wsX8_supper) B.pre
  have hown : s.vm.findClass RX8 = some m.cls := findClass_of_methodNamed B.named
  have hlocks := B.notSynchronized
  have hi8 : ∀ w ∈ u_ws RX8 TX8 11, w ∈ wsX8_supper := by decide +kernel
  have lf10 := hts (.fieldLink RX8 10 "LastCook" "tape" "LLastCook$Tape;") (by decide +kernel)
  have lf23 := hts (.fieldLink RX8 23 "LastCook" "draft" "LLastCook$Told;") (by decide +kernel)
  have lf19 := hts (.fieldLink RX8 19 "LastCook" "told" "LLastCook$Told;") (by decide +kernel)
  subst hsz
  have hD := hD0.self (sz := s.heap.size)
  generalize hAe : va_A [(x, kO 8 [.ref tp, .ref td, .ref dr, .ref li, x_draftLines, .ref nw, x_trial, .ref sg, .ref pa, .ref mk, .long x_drawn]), (tp, kO 6 [tp_signs, tp_words, .int 0, .int tp_next, .int tp_place, .int tp_kind, .int tp_value, .long tp_letters, .int tp_fault]), (dr, kO 7 [dr_names, dr_kinds, dr_yards, dr_paces, dr_skills, dr_snow, .ref dw, .int dr_guests, .int dr_snows, .int dr_bend, .int dr_hour, .int dr_bendTold, .int dr_hourTold]), (dw, kO 0 [dw_code, dw_stack, dw_facts, .int dw_length, .int dw_top]), (nw, kO 4 [.ref nw0, .ref nw1, .ref nw2, .ref nw3, .ref nw4, .ref nw5, .ref nw6, .int nw_inside, .int nw_night, .int nw_minute, .int nw_tasted, .int nw_lastCook, .int nw_stirred]), (nw0, kI k 6 nwf0), (nw1, kI k 6 nwf1), (nw2, kI k 6 nwf2), (nw3, kI k 6 nwf3), (nw4, kI k 6 nwf4), (nw5, kI k 6 nwf5), (nw6, kI k 6 nwf6), (li, kO 1 [li_deeds, li_guests, li_wholes, .int li_size]), (sg, kO 5 [sg_minutes, sg_yards, sg_near, .int sg_size]), (pa, kO 3 [pa_kept, .int pa_first, .int pa_size]), (mk, kM k 4 mf), (mk0, kO 2 [mk0_road, mk0_lines, mk0_sights, .int mk0_laid]), (mk1, kO 2 [mk1_road, mk1_lines, mk1_sights, .int mk1_laid]), (mk2, kO 2 [mk2_road, mk2_lines, mk2_sights, .int mk2_laid]), (mk3, kO 2 [mk3_road, mk3_lines, mk3_sights, .int mk3_laid])] s.heap.size = A at hD ⊢
  have hA : ∀ q : Nat, s.heap.size ≤ q → A q := fun q h => by rw [← hAe]; exact Or.inr h
  have hS : va_S A s.heap s.heap [] := va_S.rf
  have hl := lv_entry ([.ref x]) (n := 3) (Nat.le_of_ble_eq_true rfl)
  rw [show entryFrame m args 3 = entryFrame m ([.ref x] : List Value).toArray 3 by rw [hav], lg_entry_eq]
  generalize (lg_sl ([.ref x]) ++ List.replicate (3 - (lg_sl ([.ref x])).length) Slot.unset).toArray = ls at hl ⊢
  have hl : lv_has ls 3 [(0, .ref x)] := hl
  obtain ⟨R, hR⟩ : ∃ R, R = (headSpec wsX8_supper ({ frames := 3, cells := 0, slots := 0, locals := 210 } : Room)).room := ⟨_, rfl⟩
  rw [← hR]
  generalize hQ : MQ below _ args s 0 0 A = Q
  replace hQ := hQ.symm
  obtain ⟨H, hH⟩ : ∃ H, H = s.heap := ⟨_, rfl⟩
  rw [← hH] at hP ⊢
  have hS : va_S A s.heap H [] := by rw [hH]; exact hS
  refine lv_aload_n hx hb dX8_supper_0 rfl (lv_at hl 0 rfl) ?_
  refine va_get (D := D) (ci := 8) (v := .ref tp) (C := RX8) (T := TX8) (N := 11) hx hb hts hi8 hown hK hP 0 rfl rfl 0 (by decide) lf10 (fun _ h9 => h9) rfl dX8_supper_1 ?_
  refine kz_Vv (As := []) (rest := []) (wc := [(tp, kO 6 [tp_signs, tp_words, .int 0, .int tp_next, .int tp_place, .int tp_kind, .int tp_value, .long tp_letters, .int tp_fault])]) (wr := [(x, kO 8 [.ref tp, .ref td, .ref dr, .ref li, x_draftLines, .ref nw, x_trial, .ref sg, .ref pa, .ref mk, .long x_drawn]), (dr, kO 7 [dr_names, dr_kinds, dr_yards, dr_paces, dr_skills, dr_snow, .ref dw, .int dr_guests, .int dr_snows, .int dr_bend, .int dr_hour, .int dr_bendTold, .int dr_hourTold]), (dw, kO 0 [dw_code, dw_stack, dw_facts, .int dw_length, .int dw_top]), (nw, kO 4 [.ref nw0, .ref nw1, .ref nw2, .ref nw3, .ref nw4, .ref nw5, .ref nw6, .int nw_inside, .int nw_night, .int nw_minute, .int nw_tasted, .int nw_lastCook, .int nw_stirred]), (nw0, kI k 6 nwf0), (nw1, kI k 6 nwf1), (nw2, kI k 6 nwf2), (nw3, kI k 6 nwf3), (nw4, kI k 6 nwf4), (nw5, kI k 6 nwf5), (nw6, kI k 6 nwf6), (li, kO 1 [li_deeds, li_guests, li_wholes, .int li_size]), (sg, kO 5 [sg_minutes, sg_yards, sg_near, .int sg_size]), (pa, kO 3 [pa_kept, .int pa_first, .int pa_size]), (mk, kM k 4 mf), (mk0, kO 2 [mk0_road, mk0_lines, mk0_sights, .int mk0_laid]), (mk1, kO 2 [mk1_road, mk1_lines, mk1_sights, .int mk1_laid]), (mk2, kO 2 [mk2_road, mk2_lines, mk2_sights, .int mk2_laid]), (mk3, kO 2 [mk3_road, mk3_lines, mk3_sights, .int mk3_laid])]) ⟨hx, hb, hml, hown, hts⟩ hK hE hP hD hS hA (mX6_rewind l D k H.size tp tp_signs tp_words tp_next tp_place tp_kind tp_value tp_letters tp_fault) (cwV 0 hts gX8_supper_X6_rewind rfl rfl rfl (by decide +kernel) (by rw [hR]; exact ⟨Nat.le_of_ble_eq_true rfl, Nat.le_of_ble_eq_true rfl⟩)) [1] [0, 2, 3, 4, 5, 6, 7, 8, 9, 10, 11, 12, 13, 14, 15, 16, 17, 18, 19] rfl rfl (by decide) (by decide) (by decide) 0 rfl rfl rfl hl.1 rfl (Nat.le_of_ble_eq_true rfl) dX8_supper_4 (by rw [hR]; exact ⟨Nat.le_of_ble_eq_true rfl, Nat.le_of_ble_eq_true rfl⟩) (fun u1 H locs hw1 hP hD hS => ?_)
  have hP : va_P D vwCl [(x, kO 8 [.ref tp, .ref td, .ref dr, .ref li, x_draftLines, .ref nw, x_trial, .ref sg, .ref pa, .ref mk, .long x_drawn]), (dr, kO 7 [dr_names, dr_kinds, dr_yards, dr_paces, dr_skills, dr_snow, .ref dw, .int dr_guests, .int dr_snows, .int dr_bend, .int dr_hour, .int dr_bendTold, .int dr_hourTold]), (dw, kO 0 [dw_code, dw_stack, dw_facts, .int dw_length, .int dw_top]), (nw, kO 4 [.ref nw0, .ref nw1, .ref nw2, .ref nw3, .ref nw4, .ref nw5, .ref nw6, .int nw_inside, .int nw_night, .int nw_minute, .int nw_tasted, .int nw_lastCook, .int nw_stirred]), (nw0, kI k 6 nwf0), (nw1, kI k 6 nwf1), (nw2, kI k 6 nwf2), (nw3, kI k 6 nwf3), (nw4, kI k 6 nwf4), (nw5, kI k 6 nwf5), (nw6, kI k 6 nwf6), (li, kO 1 [li_deeds, li_guests, li_wholes, .int li_size]), (sg, kO 5 [sg_minutes, sg_yards, sg_near, .int sg_size]), (pa, kO 3 [pa_kept, .int pa_first, .int pa_size]), (mk, kM k 4 mf), (mk0, kO 2 [mk0_road, mk0_lines, mk0_sights, .int mk0_laid]), (mk1, kO 2 [mk1_road, mk1_lines, mk1_sights, .int mk1_laid]), (mk2, kO 2 [mk2_road, mk2_lines, mk2_sights, .int mk2_laid]), (mk3, kO 2 [mk3_road, mk3_lines, mk3_sights, .int mk3_laid]), (tp, kO 6 [tp_signs, tp_words, .int 0, .int 0, .int 0, .int 0, .int (-1), .long tp_letters, .int 0])] H := hP
  have hD : va_D A [(x, kO 8 [.ref tp, .ref td, .ref dr, .ref li, x_draftLines, .ref nw, x_trial, .ref sg, .ref pa, .ref mk, .long x_drawn]), (dr, kO 7 [dr_names, dr_kinds, dr_yards, dr_paces, dr_skills, dr_snow, .ref dw, .int dr_guests, .int dr_snows, .int dr_bend, .int dr_hour, .int dr_bendTold, .int dr_hourTold]), (dw, kO 0 [dw_code, dw_stack, dw_facts, .int dw_length, .int dw_top]), (nw, kO 4 [.ref nw0, .ref nw1, .ref nw2, .ref nw3, .ref nw4, .ref nw5, .ref nw6, .int nw_inside, .int nw_night, .int nw_minute, .int nw_tasted, .int nw_lastCook, .int nw_stirred]), (nw0, kI k 6 nwf0), (nw1, kI k 6 nwf1), (nw2, kI k 6 nwf2), (nw3, kI k 6 nwf3), (nw4, kI k 6 nwf4), (nw5, kI k 6 nwf5), (nw6, kI k 6 nwf6), (li, kO 1 [li_deeds, li_guests, li_wholes, .int li_size]), (sg, kO 5 [sg_minutes, sg_yards, sg_near, .int sg_size]), (pa, kO 3 [pa_kept, .int pa_first, .int pa_size]), (mk, kM k 4 mf), (mk0, kO 2 [mk0_road, mk0_lines, mk0_sights, .int mk0_laid]), (mk1, kO 2 [mk1_road, mk1_lines, mk1_sights, .int mk1_laid]), (mk2, kO 2 [mk2_road, mk2_lines, mk2_sights, .int mk2_laid]), (mk3, kO 2 [mk3_road, mk3_lines, mk3_sights, .int mk3_laid]), (tp, kO 6 [tp_signs, tp_words, .int 0, .int 0, .int 0, .int 0, .int (-1), .long tp_letters, .int 0])] := hD
  refine lv_aload_n hx hb dX8_supper_7 rfl (lv_at hl 0 rfl) ?_
  refine va_get (D := D) (ci := 8) (v := .ref dr) (C := RX8) (T := TX8) (N := 11) hx hb hts hi8 hown hK hP 0 rfl rfl 2 (by decide) lf23 (fun _ h9 => h9) rfl dX8_supper_8 ?_
  refine lv_aload_n hx hb dX8_supper_11 rfl (lv_at hl 0 rfl) ?_
  refine va_get (D := D) (ci := 8) (v := .ref tp) (C := RX8) (T := TX8) (N := 11) hx hb hts hi8 hown hK hP 0 rfl rfl 0 (by decide) lf10 (fun _ h9 => h9) rfl dX8_supper_12 ?_
  refine kz_Vi (As := [.ref tp]) (rest := []) (wc := [(dr, kO 7 [dr_names, dr_kinds, dr_yards, dr_paces, dr_skills, dr_snow, .ref dw, .int dr_guests, .int dr_snows, .int dr_bend, .int dr_hour, .int dr_bendTold, .int dr_hourTold]), (dw, kO 0 [dw_code, dw_stack, dw_facts, .int dw_length, .int dw_top]), (tp, kO 6 [tp_signs, tp_words, .int 0, .int 0, .int 0, .int 0, .int (-1), .long tp_letters, .int 0])]) (wr := [(x, kO 8 [.ref tp, .ref td, .ref dr, .ref li, x_draftLines, .ref nw, x_trial, .ref sg, .ref pa, .ref mk, .long x_drawn]), (nw, kO 4 [.ref nw0, .ref nw1, .ref nw2, .ref nw3, .ref nw4, .ref nw5, .ref nw6, .int nw_inside, .int nw_night, .int nw_minute, .int nw_tasted, .int nw_lastCook, .int nw_stirred]), (nw0, kI k 6 nwf0), (nw1, kI k 6 nwf1), (nw2, kI k 6 nwf2), (nw3, kI k 6 nwf3), (nw4, kI k 6 nwf4), (nw5, kI k 6 nwf5), (nw6, kI k 6 nwf6), (li, kO 1 [li_deeds, li_guests, li_wholes, .int li_size]), (sg, kO 5 [sg_minutes, sg_yards, sg_near, .int sg_size]), (pa, kO 3 [pa_kept, .int pa_first, .int pa_size]), (mk, kM k 4 mf), (mk0, kO 2 [mk0_road, mk0_lines, mk0_sights, .int mk0_laid]), (mk1, kO 2 [mk1_road, mk1_lines, mk1_sights, .int mk1_laid]), (mk2, kO 2 [mk2_road, mk2_lines, mk2_sights, .int mk2_laid]), (mk3, kO 2 [mk3_road, mk3_lines, mk3_sights, .int mk3_laid])]) ⟨hx, hb, hml, hown, hts⟩ hK hE hP hD hS hA (mX7_read l D k H.size dr tp dr_names dr_kinds dr_yards dr_paces dr_skills dr_snow dw dr_guests dr_snows dr_bend dr_hour dr_bendTold dr_hourTold dw_code dw_stack dw_facts dw_length dw_top tp_signs tp_words 0 0 0 (-1) tp_letters 0) (cwV 1 hts gX8_supper_X7_read rfl rfl rfl (by decide +kernel) (by rw [hR]; exact ⟨Nat.le_of_ble_eq_true rfl, Nat.le_of_ble_eq_true rfl⟩)) [1, 2, 19] [0, 3, 4, 5, 6, 7, 8, 9, 10, 11, 12, 13, 14, 15, 16, 17, 18] rfl rfl (by decide) (by decide) (by decide) 0 rfl rfl rfl hl.1 rfl (Nat.le_of_ble_eq_true rfl) dX8_supper_15 (by rw [hR]; exact ⟨Nat.le_of_ble_eq_true rfl, Nat.le_of_ble_eq_true rfl⟩) (fun r2 u2 H locs hw2 hP hD hS => ?_)
  try dsimp only at hw2
  obtain rfl : r2 = 1 := hw2
  have hP : va_P D vwCl [(x, kO 8 [.ref tp, .ref td, .ref dr, .ref li, x_draftLines, .ref nw, x_trial, .ref sg, .ref pa, .ref mk, .long x_drawn]), (nw, kO 4 [.ref nw0, .ref nw1, .ref nw2, .ref nw3, .ref nw4, .ref nw5, .ref nw6, .int nw_inside, .int nw_night, .int nw_minute, .int nw_tasted, .int nw_lastCook, .int nw_stirred]), (nw0, kI k 6 nwf0), (nw1, kI k 6 nwf1), (nw2, kI k 6 nwf2), (nw3, kI k 6 nwf3), (nw4, kI k 6 nwf4), (nw5, kI k 6 nwf5), (nw6, kI k 6 nwf6), (li, kO 1 [li_deeds, li_guests, li_wholes, .int li_size]), (sg, kO 5 [sg_minutes, sg_yards, sg_near, .int sg_size]), (pa, kO 3 [pa_kept, .int pa_first, .int pa_size]), (mk, kM k 4 mf), (mk0, kO 2 [mk0_road, mk0_lines, mk0_sights, .int mk0_laid]), (mk1, kO 2 [mk1_road, mk1_lines, mk1_sights, .int mk1_laid]), (mk2, kO 2 [mk2_road, mk2_lines, mk2_sights, .int mk2_laid]), (mk3, kO 2 [mk3_road, mk3_lines, mk3_sights, .int mk3_laid]), (dr, kO 7 [dr_names, dr_kinds, dr_yards, dr_paces, dr_skills, dr_snow, .ref dw, .int 0, .int 0, .int 10, .int 30, .int 0, .int 0]), (dw, kO 0 [dw_code, dw_stack, dw_facts, .int 0, .int dw_top]), (tp, kO 6 [tp_signs, tp_words, .int 0, .int 0, .int 0, .int 0, .int (-1), .long tp_letters, .int 0])] H := hP
  have hD : va_D A [(x, kO 8 [.ref tp, .ref td, .ref dr, .ref li, x_draftLines, .ref nw, x_trial, .ref sg, .ref pa, .ref mk, .long x_drawn]), (nw, kO 4 [.ref nw0, .ref nw1, .ref nw2, .ref nw3, .ref nw4, .ref nw5, .ref nw6, .int nw_inside, .int nw_night, .int nw_minute, .int nw_tasted, .int nw_lastCook, .int nw_stirred]), (nw0, kI k 6 nwf0), (nw1, kI k 6 nwf1), (nw2, kI k 6 nwf2), (nw3, kI k 6 nwf3), (nw4, kI k 6 nwf4), (nw5, kI k 6 nwf5), (nw6, kI k 6 nwf6), (li, kO 1 [li_deeds, li_guests, li_wholes, .int li_size]), (sg, kO 5 [sg_minutes, sg_yards, sg_near, .int sg_size]), (pa, kO 3 [pa_kept, .int pa_first, .int pa_size]), (mk, kM k 4 mf), (mk0, kO 2 [mk0_road, mk0_lines, mk0_sights, .int mk0_laid]), (mk1, kO 2 [mk1_road, mk1_lines, mk1_sights, .int mk1_laid]), (mk2, kO 2 [mk2_road, mk2_lines, mk2_sights, .int mk2_laid]), (mk3, kO 2 [mk3_road, mk3_lines, mk3_sights, .int mk3_laid]), (dr, kO 7 [dr_names, dr_kinds, dr_yards, dr_paces, dr_skills, dr_snow, .ref dw, .int 0, .int 0, .int 10, .int 30, .int 0, .int 0]), (dw, kO 0 [dw_code, dw_stack, dw_facts, .int 0, .int dw_top]), (tp, kO 6 [tp_signs, tp_words, .int 0, .int 0, .int 0, .int 0, .int (-1), .long tp_letters, .int 0])] := hD
  refine lv_istore_n (lv' := [(1, .int 1), (0, .ref x)]) hx hb dX8_supper_18 rfl hl (by decide) rfl (fun ls hl => ?_)
  refine lv_aload_n hx hb dX8_supper_19 rfl (lv_at hl 1 rfl) ?_
  refine va_get (D := D) (ci := 8) (v := .ref tp) (C := RX8) (T := TX8) (N := 11) hx hb hts hi8 hown hK hP 0 rfl rfl 0 (by decide) lf10 (fun _ h9 => h9) rfl dX8_supper_20 ?_
  refine kz_Vv (As := []) (rest := []) (wc := [(tp, kO 6 [tp_signs, tp_words, .int 0, .int 0, .int 0, .int 0, .int (-1), .long tp_letters, .int 0])]) (wr := [(x, kO 8 [.ref tp, .ref td, .ref dr, .ref li, x_draftLines, .ref nw, x_trial, .ref sg, .ref pa, .ref mk, .long x_drawn]), (nw, kO 4 [.ref nw0, .ref nw1, .ref nw2, .ref nw3, .ref nw4, .ref nw5, .ref nw6, .int nw_inside, .int nw_night, .int nw_minute, .int nw_tasted, .int nw_lastCook, .int nw_stirred]), (nw0, kI k 6 nwf0), (nw1, kI k 6 nwf1), (nw2, kI k 6 nwf2), (nw3, kI k 6 nwf3), (nw4, kI k 6 nwf4), (nw5, kI k 6 nwf5), (nw6, kI k 6 nwf6), (li, kO 1 [li_deeds, li_guests, li_wholes, .int li_size]), (sg, kO 5 [sg_minutes, sg_yards, sg_near, .int sg_size]), (pa, kO 3 [pa_kept, .int pa_first, .int pa_size]), (mk, kM k 4 mf), (mk0, kO 2 [mk0_road, mk0_lines, mk0_sights, .int mk0_laid]), (mk1, kO 2 [mk1_road, mk1_lines, mk1_sights, .int mk1_laid]), (mk2, kO 2 [mk2_road, mk2_lines, mk2_sights, .int mk2_laid]), (mk3, kO 2 [mk3_road, mk3_lines, mk3_sights, .int mk3_laid]), (dr, kO 7 [dr_names, dr_kinds, dr_yards, dr_paces, dr_skills, dr_snow, .ref dw, .int 0, .int 0, .int 10, .int 30, .int 0, .int 0]), (dw, kO 0 [dw_code, dw_stack, dw_facts, .int 0, .int dw_top])]) ⟨hx, hb, hml, hown, hts⟩ hK hE hP hD hS hA (mX6_clear l D k H.size tp tp_signs tp_words 0 0 0 0 (-1) tp_letters 0) (cwV 0 hts gX8_supper_X6_clear rfl rfl rfl (by decide +kernel) (by rw [hR]; exact ⟨Nat.le_of_ble_eq_true rfl, Nat.le_of_ble_eq_true rfl⟩)) [19] [0, 1, 2, 3, 4, 5, 6, 7, 8, 9, 10, 11, 12, 13, 14, 15, 16, 17, 18] rfl rfl (by decide) (by decide) (by decide) 0 rfl rfl rfl hl.1 rfl (Nat.le_of_ble_eq_true rfl) dX8_supper_23 (by rw [hR]; exact ⟨Nat.le_of_ble_eq_true rfl, Nat.le_of_ble_eq_true rfl⟩) (fun u3 H locs hw3 hP hD hS => ?_)
  have hP : va_P D vwCl [(x, kO 8 [.ref tp, .ref td, .ref dr, .ref li, x_draftLines, .ref nw, x_trial, .ref sg, .ref pa, .ref mk, .long x_drawn]), (nw, kO 4 [.ref nw0, .ref nw1, .ref nw2, .ref nw3, .ref nw4, .ref nw5, .ref nw6, .int nw_inside, .int nw_night, .int nw_minute, .int nw_tasted, .int nw_lastCook, .int nw_stirred]), (nw0, kI k 6 nwf0), (nw1, kI k 6 nwf1), (nw2, kI k 6 nwf2), (nw3, kI k 6 nwf3), (nw4, kI k 6 nwf4), (nw5, kI k 6 nwf5), (nw6, kI k 6 nwf6), (li, kO 1 [li_deeds, li_guests, li_wholes, .int li_size]), (sg, kO 5 [sg_minutes, sg_yards, sg_near, .int sg_size]), (pa, kO 3 [pa_kept, .int pa_first, .int pa_size]), (mk, kM k 4 mf), (mk0, kO 2 [mk0_road, mk0_lines, mk0_sights, .int mk0_laid]), (mk1, kO 2 [mk1_road, mk1_lines, mk1_sights, .int mk1_laid]), (mk2, kO 2 [mk2_road, mk2_lines, mk2_sights, .int mk2_laid]), (mk3, kO 2 [mk3_road, mk3_lines, mk3_sights, .int mk3_laid]), (dr, kO 7 [dr_names, dr_kinds, dr_yards, dr_paces, dr_skills, dr_snow, .ref dw, .int 0, .int 0, .int 10, .int 30, .int 0, .int 0]), (dw, kO 0 [dw_code, dw_stack, dw_facts, .int 0, .int dw_top]), (tp, kO 6 [tp_signs, tp_words, .int 0, .int 0, .int 0, .int 0, .int (-1), .long tp_letters, .int 0])] H := hP
  have hD : va_D A [(x, kO 8 [.ref tp, .ref td, .ref dr, .ref li, x_draftLines, .ref nw, x_trial, .ref sg, .ref pa, .ref mk, .long x_drawn]), (nw, kO 4 [.ref nw0, .ref nw1, .ref nw2, .ref nw3, .ref nw4, .ref nw5, .ref nw6, .int nw_inside, .int nw_night, .int nw_minute, .int nw_tasted, .int nw_lastCook, .int nw_stirred]), (nw0, kI k 6 nwf0), (nw1, kI k 6 nwf1), (nw2, kI k 6 nwf2), (nw3, kI k 6 nwf3), (nw4, kI k 6 nwf4), (nw5, kI k 6 nwf5), (nw6, kI k 6 nwf6), (li, kO 1 [li_deeds, li_guests, li_wholes, .int li_size]), (sg, kO 5 [sg_minutes, sg_yards, sg_near, .int sg_size]), (pa, kO 3 [pa_kept, .int pa_first, .int pa_size]), (mk, kM k 4 mf), (mk0, kO 2 [mk0_road, mk0_lines, mk0_sights, .int mk0_laid]), (mk1, kO 2 [mk1_road, mk1_lines, mk1_sights, .int mk1_laid]), (mk2, kO 2 [mk2_road, mk2_lines, mk2_sights, .int mk2_laid]), (mk3, kO 2 [mk3_road, mk3_lines, mk3_sights, .int mk3_laid]), (dr, kO 7 [dr_names, dr_kinds, dr_yards, dr_paces, dr_skills, dr_snow, .ref dw, .int 0, .int 0, .int 10, .int 30, .int 0, .int 0]), (dw, kO 0 [dw_code, dw_stack, dw_facts, .int 0, .int dw_top]), (tp, kO 6 [tp_signs, tp_words, .int 0, .int 0, .int 0, .int 0, .int (-1), .long tp_letters, .int 0])] := hD
  refine lv_iload_n hx hb dX8_supper_26 rfl (lv_at hl 0 rfl) ?_
  refine lv_if_ne (tgt := 38) hx hb dX8_supper_27 (by decide) (fun c_4 => ?_) (fun c_4 => absurd c_4 (by decide))
  refine lv_aload_n hx hb dX8_supper_38 rfl (lv_at hl 1 rfl) ?_
  refine va_get (D := D) (ci := 8) (v := .ref td) (C := RX8) (T := TX8) (N := 11) hx hb hts hi8 hown hK hP 0 rfl rfl 1 (by decide) lf19 (fun _ h9 => h9) rfl dX8_supper_39 ?_
  refine lv_astore_n (lv' := [(2, .ref td), (1, .int 1), (0, .ref x)]) hx hb dX8_supper_42 rfl hl (by decide) rfl (fun ls hl => ?_)
  refine lv_aload_n hx hb dX8_supper_43 rfl (lv_at hl 2 rfl) ?_
  refine lv_aload_n hx hb dX8_supper_44 rfl (lv_at hl 2 rfl) ?_
  refine va_get (D := D) (ci := 8) (v := .ref dr) (C := RX8) (T := TX8) (N := 11) hx hb hts hi8 hown hK hP 0 rfl rfl 2 (by decide) lf23 (fun _ h9 => h9) rfl dX8_supper_45 ?_
  refine va_put (D := D) (ci := 8) (v := .ref dr) (ty := (.object "LastCook$Told")) (C := RX8) (T := TX8) (N := 11) hx hb hts hi8 tyX8 tyX8_ok nmX8 hown hK hP hD hS 0 rfl rfl 1 (by decide) lf19 (fun _ h9 => h9) rfl (by decide +kernel) rfl rfl (Nat.le_of_ble_eq_true rfl) dX8_supper_48 (fun H locs hP hD hS => ?_)
  have hP : va_P D vwCl [(x, kO 8 [.ref tp, .ref dr, .ref dr, .ref li, x_draftLines, .ref nw, x_trial, .ref sg, .ref pa, .ref mk, .long x_drawn]), (nw, kO 4 [.ref nw0, .ref nw1, .ref nw2, .ref nw3, .ref nw4, .ref nw5, .ref nw6, .int nw_inside, .int nw_night, .int nw_minute, .int nw_tasted, .int nw_lastCook, .int nw_stirred]), (nw0, kI k 6 nwf0), (nw1, kI k 6 nwf1), (nw2, kI k 6 nwf2), (nw3, kI k 6 nwf3), (nw4, kI k 6 nwf4), (nw5, kI k 6 nwf5), (nw6, kI k 6 nwf6), (li, kO 1 [li_deeds, li_guests, li_wholes, .int li_size]), (sg, kO 5 [sg_minutes, sg_yards, sg_near, .int sg_size]), (pa, kO 3 [pa_kept, .int pa_first, .int pa_size]), (mk, kM k 4 mf), (mk0, kO 2 [mk0_road, mk0_lines, mk0_sights, .int mk0_laid]), (mk1, kO 2 [mk1_road, mk1_lines, mk1_sights, .int mk1_laid]), (mk2, kO 2 [mk2_road, mk2_lines, mk2_sights, .int mk2_laid]), (mk3, kO 2 [mk3_road, mk3_lines, mk3_sights, .int mk3_laid]), (dr, kO 7 [dr_names, dr_kinds, dr_yards, dr_paces, dr_skills, dr_snow, .ref dw, .int 0, .int 0, .int 10, .int 30, .int 0, .int 0]), (dw, kO 0 [dw_code, dw_stack, dw_facts, .int 0, .int dw_top]), (tp, kO 6 [tp_signs, tp_words, .int 0, .int 0, .int 0, .int 0, .int (-1), .long tp_letters, .int 0])] H := hP
  have hD : va_D A [(x, kO 8 [.ref tp, .ref dr, .ref dr, .ref li, x_draftLines, .ref nw, x_trial, .ref sg, .ref pa, .ref mk, .long x_drawn]), (nw, kO 4 [.ref nw0, .ref nw1, .ref nw2, .ref nw3, .ref nw4, .ref nw5, .ref nw6, .int nw_inside, .int nw_night, .int nw_minute, .int nw_tasted, .int nw_lastCook, .int nw_stirred]), (nw0, kI k 6 nwf0), (nw1, kI k 6 nwf1), (nw2, kI k 6 nwf2), (nw3, kI k 6 nwf3), (nw4, kI k 6 nwf4), (nw5, kI k 6 nwf5), (nw6, kI k 6 nwf6), (li, kO 1 [li_deeds, li_guests, li_wholes, .int li_size]), (sg, kO 5 [sg_minutes, sg_yards, sg_near, .int sg_size]), (pa, kO 3 [pa_kept, .int pa_first, .int pa_size]), (mk, kM k 4 mf), (mk0, kO 2 [mk0_road, mk0_lines, mk0_sights, .int mk0_laid]), (mk1, kO 2 [mk1_road, mk1_lines, mk1_sights, .int mk1_laid]), (mk2, kO 2 [mk2_road, mk2_lines, mk2_sights, .int mk2_laid]), (mk3, kO 2 [mk3_road, mk3_lines, mk3_sights, .int mk3_laid]), (dr, kO 7 [dr_names, dr_kinds, dr_yards, dr_paces, dr_skills, dr_snow, .ref dw, .int 0, .int 0, .int 10, .int 30, .int 0, .int 0]), (dw, kO 0 [dw_code, dw_stack, dw_facts, .int 0, .int dw_top]), (tp, kO 6 [tp_signs, tp_words, .int 0, .int 0, .int 0, .int 0, .int (-1), .long tp_letters, .int 0])] := hD
  refine lv_aload_n hx hb dX8_supper_51 rfl (lv_at hl 2 rfl) ?_
  refine lv_aload_n hx hb dX8_supper_52 rfl (lv_at hl 0 rfl) ?_
  refine va_put (D := D) (ci := 8) (v := .ref td) (ty := (.object "LastCook$Told")) (C := RX8) (T := TX8) (N := 11) hx hb hts hi8 tyX8 tyX8_ok nmX8 hown hK hP hD hS 0 rfl rfl 2 (by decide) lf23 (fun _ h9 => h9) rfl (by decide +kernel) rfl rfl (Nat.le_of_ble_eq_true rfl) dX8_supper_53 (fun H locs hP hD hS => ?_)
  have hP : va_P D vwCl [(x, kO 8 [.ref tp, .ref dr, .ref td, .ref li, x_draftLines, .ref nw, x_trial, .ref sg, .ref pa, .ref mk, .long x_drawn]), (nw, kO 4 [.ref nw0, .ref nw1, .ref nw2, .ref nw3, .ref nw4, .ref nw5, .ref nw6, .int nw_inside, .int nw_night, .int nw_minute, .int nw_tasted, .int nw_lastCook, .int nw_stirred]), (nw0, kI k 6 nwf0), (nw1, kI k 6 nwf1), (nw2, kI k 6 nwf2), (nw3, kI k 6 nwf3), (nw4, kI k 6 nwf4), (nw5, kI k 6 nwf5), (nw6, kI k 6 nwf6), (li, kO 1 [li_deeds, li_guests, li_wholes, .int li_size]), (sg, kO 5 [sg_minutes, sg_yards, sg_near, .int sg_size]), (pa, kO 3 [pa_kept, .int pa_first, .int pa_size]), (mk, kM k 4 mf), (mk0, kO 2 [mk0_road, mk0_lines, mk0_sights, .int mk0_laid]), (mk1, kO 2 [mk1_road, mk1_lines, mk1_sights, .int mk1_laid]), (mk2, kO 2 [mk2_road, mk2_lines, mk2_sights, .int mk2_laid]), (mk3, kO 2 [mk3_road, mk3_lines, mk3_sights, .int mk3_laid]), (dr, kO 7 [dr_names, dr_kinds, dr_yards, dr_paces, dr_skills, dr_snow, .ref dw, .int 0, .int 0, .int 10, .int 30, .int 0, .int 0]), (dw, kO 0 [dw_code, dw_stack, dw_facts, .int 0, .int dw_top]), (tp, kO 6 [tp_signs, tp_words, .int 0, .int 0, .int 0, .int 0, .int (-1), .long tp_letters, .int 0])] H := hP
  have hD : va_D A [(x, kO 8 [.ref tp, .ref dr, .ref td, .ref li, x_draftLines, .ref nw, x_trial, .ref sg, .ref pa, .ref mk, .long x_drawn]), (nw, kO 4 [.ref nw0, .ref nw1, .ref nw2, .ref nw3, .ref nw4, .ref nw5, .ref nw6, .int nw_inside, .int nw_night, .int nw_minute, .int nw_tasted, .int nw_lastCook, .int nw_stirred]), (nw0, kI k 6 nwf0), (nw1, kI k 6 nwf1), (nw2, kI k 6 nwf2), (nw3, kI k 6 nwf3), (nw4, kI k 6 nwf4), (nw5, kI k 6 nwf5), (nw6, kI k 6 nwf6), (li, kO 1 [li_deeds, li_guests, li_wholes, .int li_size]), (sg, kO 5 [sg_minutes, sg_yards, sg_near, .int sg_size]), (pa, kO 3 [pa_kept, .int pa_first, .int pa_size]), (mk, kM k 4 mf), (mk0, kO 2 [mk0_road, mk0_lines, mk0_sights, .int mk0_laid]), (mk1, kO 2 [mk1_road, mk1_lines, mk1_sights, .int mk1_laid]), (mk2, kO 2 [mk2_road, mk2_lines, mk2_sights, .int mk2_laid]), (mk3, kO 2 [mk3_road, mk3_lines, mk3_sights, .int mk3_laid]), (dr, kO 7 [dr_names, dr_kinds, dr_yards, dr_paces, dr_skills, dr_snow, .ref dw, .int 0, .int 0, .int 10, .int 30, .int 0, .int 0]), (dw, kO 0 [dw_code, dw_stack, dw_facts, .int 0, .int dw_top]), (tp, kO 6 [tp_signs, tp_words, .int 0, .int 0, .int 0, .int 0, .int (-1), .long tp_letters, .int 0])] := hD
  refine lv_aload_n hx hb dX8_supper_56 rfl (lv_at hl 2 rfl) ?_
  refine kz_Vv (As := []) (rest := []) (wc := [(x, kO 8 [.ref tp, .ref dr, .ref td, .ref li, x_draftLines, .ref nw, x_trial, .ref sg, .ref pa, .ref mk, .long x_drawn]), (dr, kO 7 [dr_names, dr_kinds, dr_yards, dr_paces, dr_skills, dr_snow, .ref dw, .int 0, .int 0, .int 10, .int 30, .int 0, .int 0]), (nw, kO 4 [.ref nw0, .ref nw1, .ref nw2, .ref nw3, .ref nw4, .ref nw5, .ref nw6, .int nw_inside, .int nw_night, .int nw_minute, .int nw_tasted, .int nw_lastCook, .int nw_stirred]), (nw0, kI k 6 nwf0), (nw1, kI k 6 nwf1), (nw2, kI k 6 nwf2), (nw3, kI k 6 nwf3), (nw4, kI k 6 nwf4), (nw5, kI k 6 nwf5), (nw6, kI k 6 nwf6), (li, kO 1 [li_deeds, li_guests, li_wholes, .int li_size]), (sg, kO 5 [sg_minutes, sg_yards, sg_near, .int sg_size]), (pa, kO 3 [pa_kept, .int pa_first, .int pa_size]), (mk, kM k 4 mf), (mk0, kO 2 [mk0_road, mk0_lines, mk0_sights, .int mk0_laid]), (mk1, kO 2 [mk1_road, mk1_lines, mk1_sights, .int mk1_laid]), (mk2, kO 2 [mk2_road, mk2_lines, mk2_sights, .int mk2_laid]), (mk3, kO 2 [mk3_road, mk3_lines, mk3_sights, .int mk3_laid])]) (wr := [(dw, kO 0 [dw_code, dw_stack, dw_facts, .int 0, .int dw_top]), (tp, kO 6 [tp_signs, tp_words, .int 0, .int 0, .int 0, .int 0, .int (-1), .long tp_letters, .int 0])]) ⟨hx, hb, hml, hown, hts⟩ hK hE hP hD hS hA (mX8_beginAnew l D k H.size x (.ref tp) dr (.ref td) li x_draftLines nw x_trial sg pa mk x_drawn dr_names dr_kinds dr_yards dr_paces dr_skills dr_snow (.ref dw) 0 10 30 0 0 nw0 nw1 nw2 nw3 nw4 nw5 nw6 nw_inside nw_night nw_minute nw_tasted nw_lastCook nw_stirred nwf0 nwf1 nwf2 nwf3 nwf4 nwf5 nwf6 li_deeds li_guests li_wholes li_size sg_minutes sg_yards sg_near sg_size pa_kept pa_first pa_size mf mk0 mk0_road mk0_lines mk0_sights mk0_laid mk1 mk1_road mk1_lines mk1_sights mk1_laid mk2 mk2_road mk2_lines mk2_sights mk2_laid mk3 mk3_road mk3_lines mk3_sights mk3_laid hm0 hm1 hm2 hm3) (cwV 0 hts gX8_supper_X8_beginAnew rfl rfl rfl (by decide +kernel) (by rw [hR]; exact ⟨Nat.le_of_ble_eq_true rfl, Nat.le_of_ble_eq_true rfl⟩)) [0, 17, 1, 2, 3, 4, 5, 6, 7, 8, 9, 10, 11, 12, 13, 14, 15, 16] [18, 19] rfl rfl (by decide) (by decide) (by decide) 0 rfl rfl rfl hl.1 rfl (Nat.le_of_ble_eq_true rfl) dX8_supper_57 (by rw [hR]; exact ⟨Nat.le_of_ble_eq_true rfl, Nat.le_of_ble_eq_true rfl⟩) (fun u5 H locs hw5 hP hD hS => ?_)
  have hP : va_P D vwCl [(dw, kO 0 [dw_code, dw_stack, dw_facts, .int 0, .int dw_top]), (tp, kO 6 [tp_signs, tp_words, .int 0, .int 0, .int 0, .int 0, .int (-1), .long tp_letters, .int 0])] H := hP
  have hD : va_D A [(dw, kO 0 [dw_code, dw_stack, dw_facts, .int 0, .int dw_top]), (tp, kO 6 [tp_signs, tp_words, .int 0, .int 0, .int 0, .int 0, .int (-1), .long tp_letters, .int 0])] := hD
  refine lv_iconst (v := 0) hx hb dX8_supper_60 (by decide) ?_
  rw [hQ]
  have hP9 := hP.sub (ws' := []) [] rfl
  have hD9 := hD.sub (ws' := []) [] (by decide) rfl
  exact W.iret (v := 0) hx hb hr (fun zt ht hW => ⟨⟨0, (), rfl, rfl, by rw [ht]; exact hP9, hD9⟩, hS.F ht⟩) hS.2.2 dX8_supper_61
theorem dX6_put_0 : decode cX6_put 0 = .ok (.bipush 56, 2) := by decide +kernel
theorem dX6_put_2 : decode cX6_put 2 = .ok (.istore_n 3, 1) := by decide +kernel
theorem dX6_put_3 : decode cX6_put 3 = .ok (.iload_n 3, 1) := by decide +kernel
theorem dX6_put_4 : decode cX6_put 4 = .ok (.ifCond .lt 86, 3) := by decide +kernel
theorem dX6_put_7 : decode cX6_put 7 = .ok (.lload_n 1, 1) := by decide +kernel
theorem dX6_put_8 : decode cX6_put 8 = .ok (.iload_n 3, 1) := by decide +kernel
theorem dX6_put_9 : decode cX6_put 9 = .ok (.lushr, 1) := by decide +kernel
theorem dX6_put_10 : decode cX6_put 10 = .ok (.ldc2_w 39, 3) := by decide +kernel
theorem dX6_put_13 : decode cX6_put 13 = .ok (.land, 1) := by decide +kernel
theorem dX6_put_14 : decode cX6_put 14 = .ok (.l2i, 1) := by decide +kernel
theorem dX6_put_15 : decode cX6_put 15 = .ok (.istore 4, 2) := by decide +kernel
theorem dX6_put_17 : decode cX6_put 17 = .ok (.iload 4, 2) := by decide +kernel
theorem dX6_put_19 : decode cX6_put 19 = .ok (.bipush 10, 2) := by decide +kernel
theorem dX6_put_21 : decode cX6_put 21 = .ok (.if_icmp .eq 17, 3) := by decide +kernel
theorem dX6_put_24 : decode cX6_put 24 = .ok (.iload 4, 2) := by decide +kernel
theorem dX6_put_26 : decode cX6_put 26 = .ok (.bipush 32, 2) := by decide +kernel
theorem dX6_put_28 : decode cX6_put 28 = .ok (.if_icmp .lt 14, 3) := by decide +kernel
theorem dX6_put_31 : decode cX6_put 31 = .ok (.iload 4, 2) := by decide +kernel
theorem dX6_put_33 : decode cX6_put 33 = .ok (.bipush 126, 2) := by decide +kernel
theorem dX6_put_35 : decode cX6_put 35 = .ok (.if_icmp .gt 7, 3) := by decide +kernel
theorem dX6_put_38 : decode cX6_put 38 = .ok (.iconst 1, 1) := by decide +kernel
theorem dX6_put_39 : decode cX6_put 39 = .ok (.goto 4, 3) := by decide +kernel
theorem dX6_put_42 : decode cX6_put 42 = .ok (.iconst 0, 1) := by decide +kernel
theorem dX6_put_43 : decode cX6_put 43 = .ok (.istore 5, 2) := by decide +kernel
theorem dX6_put_45 : decode cX6_put 45 = .ok (.iload 5, 2) := by decide +kernel
theorem dX6_put_47 : decode cX6_put 47 = .ok (.ifCond .eq 37, 3) := by decide +kernel
theorem dX6_put_50 : decode cX6_put 50 = .ok (.aload_n 0, 1) := by decide +kernel
theorem dX6_put_51 : decode cX6_put 51 = .ok (.getfield 41, 3) := by decide +kernel
theorem dX6_put_54 : decode cX6_put 54 = .ok (.aload_n 0, 1) := by decide +kernel
theorem dX6_put_55 : decode cX6_put 55 = .ok (.getfield 11, 3) := by decide +kernel
theorem dX6_put_58 : decode cX6_put 58 = .ok (.arraylength, 1) := by decide +kernel
theorem dX6_put_59 : decode cX6_put 59 = .ok (.if_icmp .ge 25, 3) := by decide +kernel
theorem dX6_put_62 : decode cX6_put 62 = .ok (.aload_n 0, 1) := by decide +kernel
theorem dX6_put_63 : decode cX6_put 63 = .ok (.getfield 11, 3) := by decide +kernel
theorem dX6_put_66 : decode cX6_put 66 = .ok (.aload_n 0, 1) := by decide +kernel
theorem dX6_put_67 : decode cX6_put 67 = .ok (.getfield 41, 3) := by decide +kernel
theorem dX6_put_70 : decode cX6_put 70 = .ok (.iload 4, 2) := by decide +kernel
theorem dX6_put_72 : decode cX6_put 72 = .ok (.i2b, 1) := by decide +kernel
theorem dX6_put_73 : decode cX6_put 73 = .ok (.bastore, 1) := by decide +kernel
theorem dX6_put_74 : decode cX6_put 74 = .ok (.aload_n 0, 1) := by decide +kernel
theorem dX6_put_75 : decode cX6_put 75 = .ok (.dup, 1) := by decide +kernel
theorem dX6_put_76 : decode cX6_put 76 = .ok (.getfield 41, 3) := by decide +kernel
theorem dX6_put_79 : decode cX6_put 79 = .ok (.iconst 1, 1) := by decide +kernel
theorem dX6_put_80 : decode cX6_put 80 = .ok (.iadd, 1) := by decide +kernel
theorem dX6_put_81 : decode cX6_put 81 = .ok (.putfield 41, 3) := by decide +kernel
theorem dX6_put_84 : decode cX6_put 84 = .ok (.iinc 3 (-8), 3) := by decide +kernel
theorem dX6_put_87 : decode cX6_put 87 = .ok (.goto (-84), 3) := by decide +kernel
theorem dX6_put_90 : decode cX6_put 90 = .ok (.return_, 1) := by decide +kernel
set_option maxHeartbeats 4000000 in
set_option maxRecDepth 100000 in
theorem mX6_put (l : Launch) (D : va_G) (k : Nat → ClassId) (sz : Nat) (tp : Nat) (b0 : Int64) (tp0 : Nat) (tp_words : Value) (n0 : Nat) (tp_next : Int32) (tp_place : Int32) (tp_kind : Int32) (tp_value : Int32) (tp_letters : Int64) (tp_fault : Int32) (f : Nat → Int32) (hn : n0 ≤ 992) : Met l yX6_put wsX6_put ({ frames := 0, cells := 0, slots := 0, locals := 0 }) (va_Pc [.ref tp, .long b0] (kz_Pre D k [(tp, kO 6 [.ref tp0, tp_words, .int (nI n0), .int tp_next, .int tp_place, .int tp_kind, .int tp_value, .long tp_letters, .int tp_fault]), (tp0, kB k 1000 f)] sz)) (va_Qv (fun (uu : (Nat → Int32)) => True) (fun uu zt => kz_B D (va_A [(tp, kO 6 [.ref tp0, tp_words, .int (nI n0), .int tp_next, .int tp_place, .int tp_kind, .int tp_value, .long tp_letters, .int tp_fault]), (tp0, kB k 1000 f)] sz) [(tp, kO 6 [.ref tp0, tp_words, .int (nI (n0 + kn (byt b0) 8)), .int tp_next, .int tp_place, .int tp_kind, .int tp_value, .long tp_letters, .int tp_fault]), (tp0, kB k 1000 uu)] zt) (va_A [(tp, kO 6 [.ref tp0, tp_words, .int (nI n0), .int tp_next, .int tp_place, .int tp_kind, .int tp_value, .long tp_letters, .int tp_fault]), (tp0, kB k 1000 f)] sz)) 0 0 (va_A [(tp, kO 6 [.ref tp0, tp_words, .int (nI n0), .int tp_next, .int tp_place, .int tp_kind, .int tp_value, .long tp_letters, .int tp_fault]), (tp0, kB k 1000 f)] sz) := by
  refine Met.ofW (cc := cX6_put) (maxL := 6) (ret := none) (by decide) rfl ?_
  intro p e s m args below meth c s₁ B hml hv
  obtain ⟨hav, hsz, hP, hK, hD0, hE⟩ := hv
  have hx := B.exec
  have hb := B.bytes
  have hr := B.returns
  have hts := atoms_spec (ws := wsX6_put) B.pre
  have hown : s.vm.findClass RX6 = some m.cls := findClass_of_methodNamed B.named
  have hlocks := B.notSynchronized
  have hi6 : ∀ w ∈ u_ws RX6 TX6 9, w ∈ wsX6_put := by decide +kernel
  have lc39 := hts (.constantLong RX6 39 (255)) (by decide +kernel)
  have lf41 := hts (.fieldLink RX6 41 "LastCook$Tape" "length" "I") (by decide +kernel)
  have lf11 := hts (.fieldLink RX6 11 "LastCook$Tape" "signs" "[B") (by decide +kernel)
  subst hsz
  have hD := hD0.self (sz := s.heap.size)
  generalize hAe : va_A [(tp, kO 6 [.ref tp0, tp_words, .int (nI n0), .int tp_next, .int tp_place, .int tp_kind, .int tp_value, .long tp_letters, .int tp_fault]), (tp0, kB k 1000 f)] s.heap.size = A at hD ⊢
  have hA : ∀ q : Nat, s.heap.size ≤ q → A q := fun q h => by rw [← hAe]; exact Or.inr h
  have hS : va_S A s.heap s.heap [] := va_S.rf
  have hl := lv_entry ([.ref tp, .long b0]) (n := 6) (Nat.le_of_ble_eq_true rfl)
  rw [show entryFrame m args 6 = entryFrame m ([.ref tp, .long b0] : List Value).toArray 6 by rw [hav], lg_entry_eq]
  generalize (lg_sl ([.ref tp, .long b0]) ++ List.replicate (6 - (lg_sl ([.ref tp, .long b0])).length) Slot.unset).toArray = ls at hl ⊢
  have hl : lv_has ls 6 [(0, .ref tp), (1, .long b0)] := hl
  obtain ⟨R, hR⟩ : ∃ R, R = (headSpec wsX6_put ({ frames := 0, cells := 0, slots := 0, locals := 0 } : Room)).room := ⟨_, rfl⟩
  rw [← hR]
  generalize hQ : MQ below _ args s 0 0 A = Q
  replace hQ := hQ.symm
  obtain ⟨H, hH⟩ : ∃ H, H = s.heap := ⟨_, rfl⟩
  rw [← hH] at hP ⊢
  have hS : va_S A s.heap H [] := by rw [hH]; exact hS
  refine lv_bipush (v := 56) hx hb dX6_put_0 (by decide) ?_
  refine lv_istore_n (lv' := [(3, .int 56), (0, .ref tp), (1, .long b0)]) hx hb dX6_put_2 rfl hl (by decide) rfl (fun ls hl => ?_)
  have hloop3 : ∀ (n : Nat) (j : Nat) (n9 : Nat) (f9 : Nat → Int32), 9 - j < n → (j ≤ 8) → (n9 = n0 + kn (byt b0) j) → (n9 ≤ n0 + j) → ∀ (H : Heap) (locs : List Loc) (ls : Array Slot), va_P D vwCl [(tp, kO 6 [.ref tp0, tp_words, .int (nI n9), .int tp_next, .int tp_place, .int tp_kind, .int tp_value, .long tp_letters, .int tp_fault]), (tp0, kB k 1000 f9)] H → va_D A [(tp, kO 6 [.ref tp0, tp_words, .int (nI n9), .int tp_next, .int tp_place, .int tp_kind, .int tp_value, .long tp_letters, .int tp_fault]), (tp0, kB k 1000 f9)] → va_S A s.heap H locs → lv_has ls 6 [(3, .int (shv j)), (0, .ref tp), (1, .long b0)] → W p l e R s m args below meth c H locs 0 0 Q (F0 m 3 ls []) := by
    intro n3
    induction n3 with
    | zero => intro j n9 f9 hm; exact absurd hm (Nat.not_lt_zero _)
    | succ n3 ih3 =>
      intro j n9 f9 hm3 hj hn9 hb9 H locs ls hP hD hS hl
      refine lv_iload_n hx hb dX6_put_3 rfl (lv_at hl 0 rfl) ?_
      refine lv_if_lt (tgt := 90) hx hb dX6_put_4 (by decide) (fun c_1 => ?_) (fun c_1 => ?_)
      · skip
        have hj8 := shv_neg j (by omega) c_1
        subst hj8
        subst hn9
        rw [hQ]
        have hP9 := hP.sub (ws' := [(tp, kO 6 [.ref tp0, tp_words, .int (nI (n0 + kn (byt b0) 8)), .int tp_next, .int tp_place, .int tp_kind, .int tp_value, .long tp_letters, .int tp_fault]), (tp0, kB k 1000 f9)]) [0, 1] rfl
        have hD9 := hD.sub (ws' := [(tp, kO 6 [.ref tp0, tp_words, .int (nI (n0 + kn (byt b0) 8)), .int tp_next, .int tp_place, .int tp_kind, .int tp_value, .long tp_letters, .int tp_fault]), (tp0, kB k 1000 f9)]) [0, 1] (by decide) rfl
        exact W.vret hx hb hr (fun zt ht hW => ⟨⟨f9, rfl, trivial, by rw [ht]; exact hP9, hD9⟩, hS.F ht⟩) hS.2.2 dX6_put_90
      · skip
        have hj8 := shv_pos j (by omega) c_1
        refine lv_lload_n hx hb dX6_put_7 rfl (lv_at hl 2 rfl) ?_
        refine lv_iload_n hx hb dX6_put_8 rfl (lv_at hl 0 rfl) ?_
        refine lv_lushr hx hb dX6_put_9 rfl ?_
        refine lv_ldc2 hx hb hown lc39 dX6_put_10 ?_
        refine lv_land hx hb dX6_put_13 ?_
        refine lv_l2i hx hb dX6_put_14 rfl ?_
        refine lv_istore (lv' := [(4, .int ((((b0.toUInt64 >>> ((shv j).toInt64.toUInt64 &&& Int64.toUInt64 63)).toInt64) &&& 255).toInt32)), (3, .int (shv j)), (0, .ref tp), (1, .long b0)]) hx hb dX6_put_15 hl (by decide) rfl (fun ls hl => ?_)
        refine lv_iload hx hb dX6_put_17 (lv_at hl 0 rfl) ?_
        refine lv_bipush (v := 10) hx hb dX6_put_19 (by decide) ?_
        refine lv_icmp_eq (tgt := 38) hx hb dX6_put_21 (by decide) (fun c_2 => ?_) (fun c_2 => ?_)
        · skip
          refine lv_iconst (v := 1) hx hb dX6_put_38 (by decide) ?_
          refine lv_goto (tgt := 43) hx hb dX6_put_39 (by decide) ?_
          refine lv_istore (lv' := [(5, .int 1), (4, .int ((((b0.toUInt64 >>> ((shv j).toInt64.toUInt64 &&& Int64.toUInt64 63)).toInt64) &&& 255).toInt32)), (3, .int (shv j)), (0, .ref tp), (1, .long b0)]) hx hb dX6_put_43 hl (by decide) rfl (fun ls hl => ?_)
          refine lv_iload hx hb dX6_put_45 (lv_at hl 0 rfl) ?_
          refine lv_if_eq (tgt := 84) hx hb dX6_put_47 (by decide) (fun c_3 => absurd c_3 (by decide)) (fun c_3 => ?_)
          refine lv_aload_n hx hb dX6_put_50 rfl (lv_at hl 3 rfl) ?_
          refine va_get (D := D) (ci := 6) (v := .int (nI n9)) (C := RX6) (T := TX6) (N := 9) hx hb hts hi6 hown hK hP 0 rfl rfl 2 (by decide) lf41 (fun _ h9 => h9) rfl dX6_put_51 ?_
          refine lv_aload_n hx hb dX6_put_54 rfl (lv_at hl 3 rfl) ?_
          refine va_get (D := D) (ci := 6) (v := .ref tp0) (C := RX6) (T := TX6) (N := 9) hx hb hts hi6 hown hK hP 0 rfl rfl 0 (by decide) lf11 (fun _ h9 => h9) rfl dX6_put_55 ?_
          refine va_alen (v := 1000) hx hb hK hP 1 2 rfl rfl rfl dX6_put_58 ?_
          refine lv_icmp_ge (tgt := 84) hx hb dX6_put_59 (by decide) (fun c_4 => absurd c_4 (fun h => absurd ((nI_leI (a := 1000) (b := n9) (by decide) (by omega)).mp h) (by omega))) (fun c_4 => ?_)
          refine lv_aload_n hx hb dX6_put_62 rfl (lv_at hl 3 rfl) ?_
          refine va_get (D := D) (ci := 6) (v := .ref tp0) (C := RX6) (T := TX6) (N := 9) hx hb hts hi6 hown hK hP 0 rfl rfl 0 (by decide) lf11 (fun _ h9 => h9) rfl dX6_put_63 ?_
          refine lv_aload_n hx hb dX6_put_66 rfl (lv_at hl 3 rfl) ?_
          refine va_get (D := D) (ci := 6) (v := .int (nI n9)) (C := RX6) (T := TX6) (N := 9) hx hb hts hi6 hown hK hP 0 rfl rfl 2 (by decide) lf41 (fun _ h9 => h9) rfl dX6_put_67 ?_
          refine lv_iload hx hb dX6_put_70 (lv_at hl 1 rfl) ?_
          refine lv_i2b hx hb dX6_put_72 rfl ?_
          refine va_bast hx hb hK hP hD hS 1 2 rfl rfl (vp_in_nI (n := n9) (by omega) (by omega)) dX6_put_73 (fun H locs hP hD hS => ?_)
          have hP : va_P D vwCl [(tp, kO 6 [.ref tp0, tp_words, .int (nI n9), .int tp_next, .int tp_place, .int tp_kind, .int tp_value, .long tp_letters, .int tp_fault]), (tp0, kB k 1000 (upd f9 (Int32.toNatClampNeg (nI n9)) (vp_nar .byte (((((b0.toUInt64 >>> ((shv j).toInt64.toUInt64 &&& Int64.toUInt64 63)).toInt64) &&& 255).toInt32).toInt8.toInt32))))] H := hP
          have hD : va_D A [(tp, kO 6 [.ref tp0, tp_words, .int (nI n9), .int tp_next, .int tp_place, .int tp_kind, .int tp_value, .long tp_letters, .int tp_fault]), (tp0, kB k 1000 (upd f9 (Int32.toNatClampNeg (nI n9)) (vp_nar .byte (((((b0.toUInt64 >>> ((shv j).toInt64.toUInt64 &&& Int64.toUInt64 63)).toInt64) &&& 255).toInt32).toInt8.toInt32))))] := hD
          refine lv_aload_n hx hb dX6_put_74 rfl (lv_at hl 3 rfl) ?_
          refine lv_dup hx hb dX6_put_75 rfl ?_
          refine va_get (D := D) (ci := 6) (v := .int (nI n9)) (C := RX6) (T := TX6) (N := 9) hx hb hts hi6 hown hK hP 0 rfl rfl 2 (by decide) lf41 (fun _ h9 => h9) rfl dX6_put_76 ?_
          refine lv_iconst (v := 1) hx hb dX6_put_79 (by decide) ?_
          refine lv_iadd hx hb dX6_put_80 ?_
          refine lv_topi (fun x5 ex5 => ?_)
          obtain rfl : x5 = (nI (n9 + 1)) := ex5.trans (nI_add n9 1)
          refine va_put (D := D) (ci := 6) (v := .int (nI (n9 + 1))) (ty := .int) (C := RX6) (T := TX6) (N := 9) hx hb hts hi6 tyX6 tyX6_ok nmX6 hown hK hP hD hS 0 rfl rfl 2 (by decide) lf41 (fun _ h9 => h9) rfl (by decide +kernel) rfl rfl (Nat.le_of_ble_eq_true rfl) dX6_put_81 (fun H locs hP hD hS => ?_)
          have hP : va_P D vwCl [(tp, kO 6 [.ref tp0, tp_words, .int (nI (n9 + 1)), .int tp_next, .int tp_place, .int tp_kind, .int tp_value, .long tp_letters, .int tp_fault]), (tp0, kB k 1000 (upd f9 (Int32.toNatClampNeg (nI n9)) (vp_nar .byte (((((b0.toUInt64 >>> ((shv j).toInt64.toUInt64 &&& Int64.toUInt64 63)).toInt64) &&& 255).toInt32).toInt8.toInt32))))] H := hP
          have hD : va_D A [(tp, kO 6 [.ref tp0, tp_words, .int (nI (n9 + 1)), .int tp_next, .int tp_place, .int tp_kind, .int tp_value, .long tp_letters, .int tp_fault]), (tp0, kB k 1000 (upd f9 (Int32.toNatClampNeg (nI n9)) (vp_nar .byte (((((b0.toUInt64 >>> ((shv j).toInt64.toUInt64 &&& Int64.toUInt64 63)).toInt64) &&& 255).toInt32).toInt8.toInt32))))] := hD
          refine lv_iinc (v := (shv (j + 1))) (lv' := [(3, .int (shv (j + 1))), (5, .int 1), (4, .int ((((b0.toUInt64 >>> ((shv j).toInt64.toUInt64 &&& Int64.toUInt64 63)).toInt64) &&& 255).toInt32)), (0, .ref tp), (1, .long b0)]) hx hb dX6_put_84 hl (k := 2) rfl (shv_s j (by omega)) (by decide) rfl (fun ls hl => ?_)
          refine lv_goto (tgt := 3) hx hb dX6_put_87 (by decide) ?_
          exact ih3 (j + 1) (n9 + 1) (upd f9 (Int32.toNatClampNeg (nI n9)) (vp_nar .byte (((((b0.toUInt64 >>> ((shv j).toInt64.toUInt64 &&& Int64.toUInt64 63)).toInt64) &&& 255).toInt32).toInt8.toInt32))) (by omega) (by omega) (by show _ = n0 + (kn (byt b0) j + kb (byt b0 j)); rw [kb_1 (x := byt b0 j) (Or.inl c_2)]; omega) (by omega) _ _ _ (hP.sub [0, 1] rfl) (hD.sub [0, 1] (by decide) rfl) hS (lv_sub hl [0, 3, 4] rfl)
        · skip
          refine lv_iload hx hb dX6_put_24 (lv_at hl 0 rfl) ?_
          refine lv_bipush (v := 32) hx hb dX6_put_26 (by decide) ?_
          refine lv_icmp_lt (tgt := 42) hx hb dX6_put_28 (by decide) (fun c_6 => ?_) (fun c_6 => ?_)
          · skip
            refine lv_iconst (v := 0) hx hb dX6_put_42 (by decide) ?_
            refine lv_istore (lv' := [(5, .int 0), (4, .int ((((b0.toUInt64 >>> ((shv j).toInt64.toUInt64 &&& Int64.toUInt64 63)).toInt64) &&& 255).toInt32)), (3, .int (shv j)), (0, .ref tp), (1, .long b0)]) hx hb dX6_put_43 hl (by decide) rfl (fun ls hl => ?_)
            refine lv_iload hx hb dX6_put_45 (lv_at hl 0 rfl) ?_
            refine lv_if_eq (tgt := 84) hx hb dX6_put_47 (by decide) (fun c_7 => ?_) (fun c_7 => absurd (by decide) c_7)
            refine lv_iinc (v := (shv (j + 1))) (lv' := [(3, .int (shv (j + 1))), (5, .int 0), (4, .int ((((b0.toUInt64 >>> ((shv j).toInt64.toUInt64 &&& Int64.toUInt64 63)).toInt64) &&& 255).toInt32)), (0, .ref tp), (1, .long b0)]) hx hb dX6_put_84 hl (k := 2) rfl (shv_s j (by omega)) (by decide) rfl (fun ls hl => ?_)
            refine lv_goto (tgt := 3) hx hb dX6_put_87 (by decide) ?_
            exact ih3 (j + 1) n9 f9 (by omega) (by omega) (by show _ = n0 + (kn (byt b0) j + kb (byt b0 j)); rw [kb_0 (x := byt b0 j) (fun h => h.elim (fun h => c_2 h) (fun h => absurd h.1 (Int32.not_le.mpr c_6)))]; omega) (by omega) _ _ _ (hP.sub [0, 1] rfl) (hD.sub [0, 1] (by decide) rfl) hS (lv_sub hl [0, 3, 4] rfl)
          · skip
            refine lv_iload hx hb dX6_put_31 (lv_at hl 0 rfl) ?_
            refine lv_bipush (v := 126) hx hb dX6_put_33 (by decide) ?_
            refine lv_icmp_gt (tgt := 42) hx hb dX6_put_35 (by decide) (fun c_8 => ?_) (fun c_8 => ?_)
            · skip
              refine lv_iconst (v := 0) hx hb dX6_put_42 (by decide) ?_
              refine lv_istore (lv' := [(5, .int 0), (4, .int ((((b0.toUInt64 >>> ((shv j).toInt64.toUInt64 &&& Int64.toUInt64 63)).toInt64) &&& 255).toInt32)), (3, .int (shv j)), (0, .ref tp), (1, .long b0)]) hx hb dX6_put_43 hl (by decide) rfl (fun ls hl => ?_)
              refine lv_iload hx hb dX6_put_45 (lv_at hl 0 rfl) ?_
              refine lv_if_eq (tgt := 84) hx hb dX6_put_47 (by decide) (fun c_9 => ?_) (fun c_9 => absurd (by decide) c_9)
              refine lv_iinc (v := (shv (j + 1))) (lv' := [(3, .int (shv (j + 1))), (5, .int 0), (4, .int ((((b0.toUInt64 >>> ((shv j).toInt64.toUInt64 &&& Int64.toUInt64 63)).toInt64) &&& 255).toInt32)), (0, .ref tp), (1, .long b0)]) hx hb dX6_put_84 hl (k := 2) rfl (shv_s j (by omega)) (by decide) rfl (fun ls hl => ?_)
              refine lv_goto (tgt := 3) hx hb dX6_put_87 (by decide) ?_
              exact ih3 (j + 1) n9 f9 (by omega) (by omega) (by show _ = n0 + (kn (byt b0) j + kb (byt b0 j)); rw [kb_0 (x := byt b0 j) (fun h => h.elim (fun h => c_2 h) (fun h => absurd h.2 (Int32.not_le.mpr c_8)))]; omega) (by omega) _ _ _ (hP.sub [0, 1] rfl) (hD.sub [0, 1] (by decide) rfl) hS (lv_sub hl [0, 3, 4] rfl)
            · skip
              refine lv_iconst (v := 1) hx hb dX6_put_38 (by decide) ?_
              refine lv_goto (tgt := 43) hx hb dX6_put_39 (by decide) ?_
              refine lv_istore (lv' := [(5, .int 1), (4, .int ((((b0.toUInt64 >>> ((shv j).toInt64.toUInt64 &&& Int64.toUInt64 63)).toInt64) &&& 255).toInt32)), (3, .int (shv j)), (0, .ref tp), (1, .long b0)]) hx hb dX6_put_43 hl (by decide) rfl (fun ls hl => ?_)
              refine lv_iload hx hb dX6_put_45 (lv_at hl 0 rfl) ?_
              refine lv_if_eq (tgt := 84) hx hb dX6_put_47 (by decide) (fun c_10 => absurd c_10 (by decide)) (fun c_10 => ?_)
              refine lv_aload_n hx hb dX6_put_50 rfl (lv_at hl 3 rfl) ?_
              refine va_get (D := D) (ci := 6) (v := .int (nI n9)) (C := RX6) (T := TX6) (N := 9) hx hb hts hi6 hown hK hP 0 rfl rfl 2 (by decide) lf41 (fun _ h9 => h9) rfl dX6_put_51 ?_
              refine lv_aload_n hx hb dX6_put_54 rfl (lv_at hl 3 rfl) ?_
              refine va_get (D := D) (ci := 6) (v := .ref tp0) (C := RX6) (T := TX6) (N := 9) hx hb hts hi6 hown hK hP 0 rfl rfl 0 (by decide) lf11 (fun _ h9 => h9) rfl dX6_put_55 ?_
              refine va_alen (v := 1000) hx hb hK hP 1 2 rfl rfl rfl dX6_put_58 ?_
              refine lv_icmp_ge (tgt := 84) hx hb dX6_put_59 (by decide) (fun c_11 => absurd c_11 (fun h => absurd ((nI_leI (a := 1000) (b := n9) (by decide) (by omega)).mp h) (by omega))) (fun c_11 => ?_)
              refine lv_aload_n hx hb dX6_put_62 rfl (lv_at hl 3 rfl) ?_
              refine va_get (D := D) (ci := 6) (v := .ref tp0) (C := RX6) (T := TX6) (N := 9) hx hb hts hi6 hown hK hP 0 rfl rfl 0 (by decide) lf11 (fun _ h9 => h9) rfl dX6_put_63 ?_
              refine lv_aload_n hx hb dX6_put_66 rfl (lv_at hl 3 rfl) ?_
              refine va_get (D := D) (ci := 6) (v := .int (nI n9)) (C := RX6) (T := TX6) (N := 9) hx hb hts hi6 hown hK hP 0 rfl rfl 2 (by decide) lf41 (fun _ h9 => h9) rfl dX6_put_67 ?_
              refine lv_iload hx hb dX6_put_70 (lv_at hl 1 rfl) ?_
              refine lv_i2b hx hb dX6_put_72 rfl ?_
              refine va_bast hx hb hK hP hD hS 1 2 rfl rfl (vp_in_nI (n := n9) (by omega) (by omega)) dX6_put_73 (fun H locs hP hD hS => ?_)
              have hP : va_P D vwCl [(tp, kO 6 [.ref tp0, tp_words, .int (nI n9), .int tp_next, .int tp_place, .int tp_kind, .int tp_value, .long tp_letters, .int tp_fault]), (tp0, kB k 1000 (upd f9 (Int32.toNatClampNeg (nI n9)) (vp_nar .byte (((((b0.toUInt64 >>> ((shv j).toInt64.toUInt64 &&& Int64.toUInt64 63)).toInt64) &&& 255).toInt32).toInt8.toInt32))))] H := hP
              have hD : va_D A [(tp, kO 6 [.ref tp0, tp_words, .int (nI n9), .int tp_next, .int tp_place, .int tp_kind, .int tp_value, .long tp_letters, .int tp_fault]), (tp0, kB k 1000 (upd f9 (Int32.toNatClampNeg (nI n9)) (vp_nar .byte (((((b0.toUInt64 >>> ((shv j).toInt64.toUInt64 &&& Int64.toUInt64 63)).toInt64) &&& 255).toInt32).toInt8.toInt32))))] := hD
              refine lv_aload_n hx hb dX6_put_74 rfl (lv_at hl 3 rfl) ?_
              refine lv_dup hx hb dX6_put_75 rfl ?_
              refine va_get (D := D) (ci := 6) (v := .int (nI n9)) (C := RX6) (T := TX6) (N := 9) hx hb hts hi6 hown hK hP 0 rfl rfl 2 (by decide) lf41 (fun _ h9 => h9) rfl dX6_put_76 ?_
              refine lv_iconst (v := 1) hx hb dX6_put_79 (by decide) ?_
              refine lv_iadd hx hb dX6_put_80 ?_
              refine lv_topi (fun x12 ex12 => ?_)
              obtain rfl : x12 = (nI (n9 + 1)) := ex12.trans (nI_add n9 1)
              refine va_put (D := D) (ci := 6) (v := .int (nI (n9 + 1))) (ty := .int) (C := RX6) (T := TX6) (N := 9) hx hb hts hi6 tyX6 tyX6_ok nmX6 hown hK hP hD hS 0 rfl rfl 2 (by decide) lf41 (fun _ h9 => h9) rfl (by decide +kernel) rfl rfl (Nat.le_of_ble_eq_true rfl) dX6_put_81 (fun H locs hP hD hS => ?_)
              have hP : va_P D vwCl [(tp, kO 6 [.ref tp0, tp_words, .int (nI (n9 + 1)), .int tp_next, .int tp_place, .int tp_kind, .int tp_value, .long tp_letters, .int tp_fault]), (tp0, kB k 1000 (upd f9 (Int32.toNatClampNeg (nI n9)) (vp_nar .byte (((((b0.toUInt64 >>> ((shv j).toInt64.toUInt64 &&& Int64.toUInt64 63)).toInt64) &&& 255).toInt32).toInt8.toInt32))))] H := hP
              have hD : va_D A [(tp, kO 6 [.ref tp0, tp_words, .int (nI (n9 + 1)), .int tp_next, .int tp_place, .int tp_kind, .int tp_value, .long tp_letters, .int tp_fault]), (tp0, kB k 1000 (upd f9 (Int32.toNatClampNeg (nI n9)) (vp_nar .byte (((((b0.toUInt64 >>> ((shv j).toInt64.toUInt64 &&& Int64.toUInt64 63)).toInt64) &&& 255).toInt32).toInt8.toInt32))))] := hD
              refine lv_iinc (v := (shv (j + 1))) (lv' := [(3, .int (shv (j + 1))), (5, .int 1), (4, .int ((((b0.toUInt64 >>> ((shv j).toInt64.toUInt64 &&& Int64.toUInt64 63)).toInt64) &&& 255).toInt32)), (0, .ref tp), (1, .long b0)]) hx hb dX6_put_84 hl (k := 2) rfl (shv_s j (by omega)) (by decide) rfl (fun ls hl => ?_)
              refine lv_goto (tgt := 3) hx hb dX6_put_87 (by decide) ?_
              exact ih3 (j + 1) (n9 + 1) (upd f9 (Int32.toNatClampNeg (nI n9)) (vp_nar .byte (((((b0.toUInt64 >>> ((shv j).toInt64.toUInt64 &&& Int64.toUInt64 63)).toInt64) &&& 255).toInt32).toInt8.toInt32))) (by omega) (by omega) (by show _ = n0 + (kn (byt b0) j + kb (byt b0 j)); rw [kb_1 (x := byt b0 j) (Or.inr ⟨Int32.not_lt.mp c_6, Int32.not_lt.mp c_8⟩)]; omega) (by omega) _ _ _ (hP.sub [0, 1] rfl) (hD.sub [0, 1] (by decide) rfl) hS (lv_sub hl [0, 3, 4] rfl)
  exact hloop3 ((9 - 0) + 1) 0 n0 f (Nat.lt_succ_self _) (by omega) (rfl) (by omega) _ _ _ (hP.sub [0, 1] rfl) (hD.sub [0, 1] (by decide) rfl) hS (lv_sub hl [0, 1, 2] rfl)
