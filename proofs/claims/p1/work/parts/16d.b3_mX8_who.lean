theorem dX8_who_0 : decode cX8_who 0 = .ok (.aload_n 0, 1) := by decide +kernel
theorem dX8_who_1 : decode cX8_who 1 = .ok (.invokevirtual 244, 3) := by decide +kernel
theorem dX8_who_4 : decode cX8_who 4 = .ok (.ireturn, 1) := by decide +kernel
set_option maxRecDepth 20000 in
theorem ggX8_who_X8_suspects : GoodIn wsX8_who wsX8_suspects := goodIn_r _ [5, 6, 7, 8, 9, 10, 11, 12, 13, 14, 15, 16, 17, 18, 19, 20, 21, 22, 23, 24, 25, 26, 27, 28, 29, 30, 31, 32, 33, 34, 35, 36, 37, 38, 39, 40, 41, 42, 43, 44, 45, 46, 47, 48, 49, 50, 51, 52, 53, 54, 55, 56, 57, 58, 59, 60, 61, 62, 63, 64, 65, 66, 67, 68, 69, 70, 71, 72, 73, 74, 75, 76, 77, 78, 79, 80, 81, 82, 83, 84, 85, 86, 87, 88, 89, 90, 91, 92, 93, 94, 95, 96, 97, 98, 99, 100, 101, 102, 103, 104, 105, 106, 107, 108, 109, 110, 111, 112, 113, 114, 115, 116, 117, 118, 119, 120, 121, 122, 123, 124, 125, 126, 127, 128, 129, 130, 131, 132, 133, 134, 135, 136, 137, 138, 139, 140, 141, 142, 143, 144, 145, 146, 147, 148, 149, 150, 151, 152, 153, 154, 155, 156, 157, 158, 159, 160, 161, 162, 163, 164, 165, 166, 167, 168, 169, 170, 171, 172, 173, 174, 175, 176, 177, 178, 179, 180, 181, 182] rfl (by decide +kernel)
set_option maxRecDepth 20000 in
theorem gX8_who_X8_suspects : GoodIn wsX8_who (wsV RX8 244 RX8 yX8_suspects wsX8_suspects) := goodIn_app (goodIn_of _ (by decide +kernel)) ggX8_who_X8_suspects
set_option maxHeartbeats 4000000 in
set_option maxRecDepth 100000 in
theorem mX8_who (l : Launch) (D : va_G) (k : Nat → ClassId) (sz : Nat) (x : Nat) (x_tape : Value) (td : Nat) (x_draft : Value) (x_lines : Value) (x_draftLines : Value) (nw : Nat) (tr : Nat) (sg : Nat) (x_past : Value) (x_marks : Value) (x_drawn : Int64) (td_names : Value) (td_kinds : Value) (td_yards : Value) (td_paces : Value) (td_skills : Value) (td_snow : Value) (td_law : Value) (td_bend : Int32) (td_hour : Int32) (td_bendTold : Int32) (td_hourTold : Int32) (sg_minutes : Value) (sg_yards : Value) (sg_near : Value) (tr0 : Nat) (tr1 : Nat) (tr2 : Nat) (tr3 : Nat) (tr4 : Nat) (tr5 : Nat) (tr6 : Nat) (tr_inside : Int32) (tr_night : Int32) (tr_minute : Int32) (tr_tasted : Int32) (tr_lastCook : Int32) (tr_stirred : Int32) (trf0 : Nat → Int32) (trf1 : Nat → Int32) (trf2 : Nat → Int32) (trf3 : Nat → Int32) (trf4 : Nat → Int32) (trf5 : Nat → Int32) (trf6 : Nat → Int32) (nw0 : Nat) (nw1 : Nat) (nw2 : Nat) (nw3 : Nat) (nw4 : Nat) (nw5 : Nat) (nw6 : Nat) (nw_inside : Int32) (nw_night : Int32) (nw_minute : Int32) (nw_tasted : Int32) (nw_lastCook : Int32) (nw_stirred : Int32) (nwf0 : Nat → Int32) (nwf1 : Nat → Int32) (nwf2 : Nat → Int32) (nwf3 : Nat → Int32) (nwf4 : Nat → Int32) (nwf5 : Nat → Int32) (nwf6 : Nat → Int32) : Met l yX8_who wsX8_who ({ frames := 3, cells := 0, slots := 0, locals := 210 }) (va_Pc [.ref x] (kz_Pre D k [(x, kO 8 [x_tape, .ref td, x_draft, x_lines, x_draftLines, .ref nw, .ref tr, .ref sg, x_past, x_marks, .long x_drawn]), (td, kO 7 [td_names, td_kinds, td_yards, td_paces, td_skills, td_snow, td_law, .int 0, .int 0, .int td_bend, .int td_hour, .int td_bendTold, .int td_hourTold]), (sg, kO 5 [sg_minutes, sg_yards, sg_near, .int 0]), (tr, kO 4 [.ref tr0, .ref tr1, .ref tr2, .ref tr3, .ref tr4, .ref tr5, .ref tr6, .int tr_inside, .int tr_night, .int tr_minute, .int tr_tasted, .int tr_lastCook, .int tr_stirred]), (tr0, kI k 6 trf0), (tr1, kI k 6 trf1), (tr2, kI k 6 trf2), (tr3, kI k 6 trf3), (tr4, kI k 6 trf4), (tr5, kI k 6 trf5), (tr6, kI k 6 trf6), (nw, kO 4 [.ref nw0, .ref nw1, .ref nw2, .ref nw3, .ref nw4, .ref nw5, .ref nw6, .int nw_inside, .int nw_night, .int nw_minute, .int nw_tasted, .int nw_lastCook, .int nw_stirred]), (nw0, kI k 6 nwf0), (nw1, kI k 6 nwf1), (nw2, kI k 6 nwf2), (nw3, kI k 6 nwf3), (nw4, kI k 6 nwf4), (nw5, kI k 6 nwf5), (nw6, kI k 6 nwf6)] sz)) (va_Qi (fun (rr : Int32) (uu : Unit) => rr = 0) (fun uu zt => kz_B D (va_A [(x, kO 8 [x_tape, .ref td, x_draft, x_lines, x_draftLines, .ref nw, .ref tr, .ref sg, x_past, x_marks, .long x_drawn]), (td, kO 7 [td_names, td_kinds, td_yards, td_paces, td_skills, td_snow, td_law, .int 0, .int 0, .int td_bend, .int td_hour, .int td_bendTold, .int td_hourTold]), (sg, kO 5 [sg_minutes, sg_yards, sg_near, .int 0]), (tr, kO 4 [.ref tr0, .ref tr1, .ref tr2, .ref tr3, .ref tr4, .ref tr5, .ref tr6, .int tr_inside, .int tr_night, .int tr_minute, .int tr_tasted, .int tr_lastCook, .int tr_stirred]), (tr0, kI k 6 trf0), (tr1, kI k 6 trf1), (tr2, kI k 6 trf2), (tr3, kI k 6 trf3), (tr4, kI k 6 trf4), (tr5, kI k 6 trf5), (tr6, kI k 6 trf6), (nw, kO 4 [.ref nw0, .ref nw1, .ref nw2, .ref nw3, .ref nw4, .ref nw5, .ref nw6, .int nw_inside, .int nw_night, .int nw_minute, .int nw_tasted, .int nw_lastCook, .int nw_stirred]), (nw0, kI k 6 nwf0), (nw1, kI k 6 nwf1), (nw2, kI k 6 nwf2), (nw3, kI k 6 nwf3), (nw4, kI k 6 nwf4), (nw5, kI k 6 nwf5), (nw6, kI k 6 nwf6)] sz) [] zt) (va_A [(x, kO 8 [x_tape, .ref td, x_draft, x_lines, x_draftLines, .ref nw, .ref tr, .ref sg, x_past, x_marks, .long x_drawn]), (td, kO 7 [td_names, td_kinds, td_yards, td_paces, td_skills, td_snow, td_law, .int 0, .int 0, .int td_bend, .int td_hour, .int td_bendTold, .int td_hourTold]), (sg, kO 5 [sg_minutes, sg_yards, sg_near, .int 0]), (tr, kO 4 [.ref tr0, .ref tr1, .ref tr2, .ref tr3, .ref tr4, .ref tr5, .ref tr6, .int tr_inside, .int tr_night, .int tr_minute, .int tr_tasted, .int tr_lastCook, .int tr_stirred]), (tr0, kI k 6 trf0), (tr1, kI k 6 trf1), (tr2, kI k 6 trf2), (tr3, kI k 6 trf3), (tr4, kI k 6 trf4), (tr5, kI k 6 trf5), (tr6, kI k 6 trf6), (nw, kO 4 [.ref nw0, .ref nw1, .ref nw2, .ref nw3, .ref nw4, .ref nw5, .ref nw6, .int nw_inside, .int nw_night, .int nw_minute, .int nw_tasted, .int nw_lastCook, .int nw_stirred]), (nw0, kI k 6 nwf0), (nw1, kI k 6 nwf1), (nw2, kI k 6 nwf2), (nw3, kI k 6 nwf3), (nw4, kI k 6 nwf4), (nw5, kI k 6 nwf5), (nw6, kI k 6 nwf6)] sz)) 0 0 (va_A [(x, kO 8 [x_tape, .ref td, x_draft, x_lines, x_draftLines, .ref nw, .ref tr, .ref sg, x_past, x_marks, .long x_drawn]), (td, kO 7 [td_names, td_kinds, td_yards, td_paces, td_skills, td_snow, td_law, .int 0, .int 0, .int td_bend, .int td_hour, .int td_bendTold, .int td_hourTold]), (sg, kO 5 [sg_minutes, sg_yards, sg_near, .int 0]), (tr, kO 4 [.ref tr0, .ref tr1, .ref tr2, .ref tr3, .ref tr4, .ref tr5, .ref tr6, .int tr_inside, .int tr_night, .int tr_minute, .int tr_tasted, .int tr_lastCook, .int tr_stirred]), (tr0, kI k 6 trf0), (tr1, kI k 6 trf1), (tr2, kI k 6 trf2), (tr3, kI k 6 trf3), (tr4, kI k 6 trf4), (tr5, kI k 6 trf5), (tr6, kI k 6 trf6), (nw, kO 4 [.ref nw0, .ref nw1, .ref nw2, .ref nw3, .ref nw4, .ref nw5, .ref nw6, .int nw_inside, .int nw_night, .int nw_minute, .int nw_tasted, .int nw_lastCook, .int nw_stirred]), (nw0, kI k 6 nwf0), (nw1, kI k 6 nwf1), (nw2, kI k 6 nwf2), (nw3, kI k 6 nwf3), (nw4, kI k 6 nwf4), (nw5, kI k 6 nwf5), (nw6, kI k 6 nwf6)] sz) := by
  refine Met.ofW (cc := cX8_who) (maxL := 1) (ret := (some .int)) (by decide) rfl ?_
  intro p e s m args below meth c s₁ B hml hv
  obtain ⟨hav, hsz, hP, hK, hD0, hE⟩ := hv
  have hx := B.exec
  have hb := B.bytes
  have hr := B.returns
  have hts := atoms_spec (ws := wsX8_who) B.pre
  have hown : s.vm.findClass RX8 = some m.cls := findClass_of_methodNamed B.named
  have hlocks := B.notSynchronized
  subst hsz
  have hD := hD0.self (sz := s.heap.size)
  generalize hAe : va_A [(x, kO 8 [x_tape, .ref td, x_draft, x_lines, x_draftLines, .ref nw, .ref tr, .ref sg, x_past, x_marks, .long x_drawn]), (td, kO 7 [td_names, td_kinds, td_yards, td_paces, td_skills, td_snow, td_law, .int 0, .int 0, .int td_bend, .int td_hour, .int td_bendTold, .int td_hourTold]), (sg, kO 5 [sg_minutes, sg_yards, sg_near, .int 0]), (tr, kO 4 [.ref tr0, .ref tr1, .ref tr2, .ref tr3, .ref tr4, .ref tr5, .ref tr6, .int tr_inside, .int tr_night, .int tr_minute, .int tr_tasted, .int tr_lastCook, .int tr_stirred]), (tr0, kI k 6 trf0), (tr1, kI k 6 trf1), (tr2, kI k 6 trf2), (tr3, kI k 6 trf3), (tr4, kI k 6 trf4), (tr5, kI k 6 trf5), (tr6, kI k 6 trf6), (nw, kO 4 [.ref nw0, .ref nw1, .ref nw2, .ref nw3, .ref nw4, .ref nw5, .ref nw6, .int nw_inside, .int nw_night, .int nw_minute, .int nw_tasted, .int nw_lastCook, .int nw_stirred]), (nw0, kI k 6 nwf0), (nw1, kI k 6 nwf1), (nw2, kI k 6 nwf2), (nw3, kI k 6 nwf3), (nw4, kI k 6 nwf4), (nw5, kI k 6 nwf5), (nw6, kI k 6 nwf6)] s.heap.size = A at hD ⊢
  have hA : ∀ q : Nat, s.heap.size ≤ q → A q := fun q h => by rw [← hAe]; exact Or.inr h
  have hS : va_S A s.heap s.heap [] := va_S.rf
  have hl := lv_entry ([.ref x]) (n := 1) (Nat.le_of_ble_eq_true rfl)
  rw [show entryFrame m args 1 = entryFrame m ([.ref x] : List Value).toArray 1 by rw [hav], lg_entry_eq]
  generalize (lg_sl ([.ref x]) ++ List.replicate (1 - (lg_sl ([.ref x])).length) Slot.unset).toArray = ls at hl ⊢
  have hl : lv_has ls 1 [(0, .ref x)] := hl
  obtain ⟨R, hR⟩ : ∃ R, R = (headSpec wsX8_who ({ frames := 3, cells := 0, slots := 0, locals := 210 } : Room)).room := ⟨_, rfl⟩
  rw [← hR]
  generalize hQ : MQ below _ args s 0 0 A = Q
  replace hQ := hQ.symm
  obtain ⟨H, hH⟩ : ∃ H, H = s.heap := ⟨_, rfl⟩
  rw [← hH] at hP ⊢
  have hS : va_S A s.heap H [] := by rw [hH]; exact hS
  refine lv_aload_n hx hb dX8_who_0 rfl (lv_at hl 0 rfl) ?_
  refine kz_Vi (As := []) (rest := []) (wc := [(x, kO 8 [x_tape, .ref td, x_draft, x_lines, x_draftLines, .ref nw, .ref tr, .ref sg, x_past, x_marks, .long x_drawn]), (td, kO 7 [td_names, td_kinds, td_yards, td_paces, td_skills, td_snow, td_law, .int 0, .int 0, .int td_bend, .int td_hour, .int td_bendTold, .int td_hourTold]), (sg, kO 5 [sg_minutes, sg_yards, sg_near, .int 0]), (tr, kO 4 [.ref tr0, .ref tr1, .ref tr2, .ref tr3, .ref tr4, .ref tr5, .ref tr6, .int tr_inside, .int tr_night, .int tr_minute, .int tr_tasted, .int tr_lastCook, .int tr_stirred]), (tr0, kI k 6 trf0), (tr1, kI k 6 trf1), (tr2, kI k 6 trf2), (tr3, kI k 6 trf3), (tr4, kI k 6 trf4), (tr5, kI k 6 trf5), (tr6, kI k 6 trf6), (nw, kO 4 [.ref nw0, .ref nw1, .ref nw2, .ref nw3, .ref nw4, .ref nw5, .ref nw6, .int nw_inside, .int nw_night, .int nw_minute, .int nw_tasted, .int nw_lastCook, .int nw_stirred]), (nw0, kI k 6 nwf0), (nw1, kI k 6 nwf1), (nw2, kI k 6 nwf2), (nw3, kI k 6 nwf3), (nw4, kI k 6 nwf4), (nw5, kI k 6 nwf5), (nw6, kI k 6 nwf6)]) (wr := []) ⟨hx, hb, hml, hown, hts⟩ hK hE hP hD hS hA (mX8_suspects l D k H.size x x_tape td x_draft x_lines x_draftLines nw tr sg x_past x_marks x_drawn td_names td_kinds td_yards td_paces td_skills td_snow td_law td_bend td_hour td_bendTold td_hourTold sg_minutes sg_yards sg_near tr0 tr1 tr2 tr3 tr4 tr5 tr6 tr_inside tr_night tr_minute tr_tasted tr_lastCook tr_stirred trf0 trf1 trf2 trf3 trf4 trf5 trf6 nw0 nw1 nw2 nw3 nw4 nw5 nw6 nw_inside nw_night nw_minute nw_tasted nw_lastCook nw_stirred nwf0 nwf1 nwf2 nwf3 nwf4 nwf5 nwf6) (cwV 0 hts gX8_who_X8_suspects rfl rfl rfl (by decide +kernel) (by rw [hR]; exact ⟨Nat.le_of_ble_eq_true rfl, Nat.le_of_ble_eq_true rfl⟩)) [0, 1, 2, 3, 4, 5, 6, 7, 8, 9, 10, 11, 12, 13, 14, 15, 16, 17, 18] [] rfl rfl (by decide) (by decide) (by decide) 0 rfl rfl rfl hl.1 rfl (Nat.le_of_ble_eq_true rfl) dX8_who_1 (by rw [hR]; exact ⟨Nat.le_of_ble_eq_true rfl, Nat.le_of_ble_eq_true rfl⟩) (fun r1 u1 H locs hw1 hP hD hS => ?_)
  try dsimp only at hw1
  obtain rfl : r1 = 0 := hw1
  have hP : va_P D vwCl [(x, kO 8 [x_tape, .ref td, x_draft, x_lines, x_draftLines, .ref nw, .ref tr, .ref sg, x_past, x_marks, .long x_drawn]), (td, kO 7 [td_names, td_kinds, td_yards, td_paces, td_skills, td_snow, td_law, .int 0, .int 0, .int td_bend, .int td_hour, .int td_bendTold, .int td_hourTold]), (sg, kO 5 [sg_minutes, sg_yards, sg_near, .int 0]), (tr, kO 4 [.ref tr0, .ref tr1, .ref tr2, .ref tr3, .ref tr4, .ref tr5, .ref tr6, .int nw_inside, .int nw_night, .int nw_minute, .int nw_tasted, .int nw_lastCook, .int tr_stirred]), (tr0, kI k 6 (va_cpy nwf0 trf0 0 0 6)), (tr1, kI k 6 (va_cpy nwf1 trf1 0 0 6)), (tr2, kI k 6 (va_cpy nwf2 trf2 0 0 6)), (tr3, kI k 6 (va_cpy nwf3 trf3 0 0 6)), (tr4, kI k 6 (va_cpy nwf4 trf4 0 0 6)), (tr5, kI k 6 (va_cpy nwf5 trf5 0 0 6)), (tr6, kI k 6 (va_cpy nwf6 trf6 0 0 6)), (nw, kO 4 [.ref nw0, .ref nw1, .ref nw2, .ref nw3, .ref nw4, .ref nw5, .ref nw6, .int nw_inside, .int nw_night, .int nw_minute, .int nw_tasted, .int nw_lastCook, .int nw_stirred]), (nw0, kI k 6 nwf0), (nw1, kI k 6 nwf1), (nw2, kI k 6 nwf2), (nw3, kI k 6 nwf3), (nw4, kI k 6 nwf4), (nw5, kI k 6 nwf5), (nw6, kI k 6 nwf6)] H := hP
  have hD : va_D A [(x, kO 8 [x_tape, .ref td, x_draft, x_lines, x_draftLines, .ref nw, .ref tr, .ref sg, x_past, x_marks, .long x_drawn]), (td, kO 7 [td_names, td_kinds, td_yards, td_paces, td_skills, td_snow, td_law, .int 0, .int 0, .int td_bend, .int td_hour, .int td_bendTold, .int td_hourTold]), (sg, kO 5 [sg_minutes, sg_yards, sg_near, .int 0]), (tr, kO 4 [.ref tr0, .ref tr1, .ref tr2, .ref tr3, .ref tr4, .ref tr5, .ref tr6, .int nw_inside, .int nw_night, .int nw_minute, .int nw_tasted, .int nw_lastCook, .int tr_stirred]), (tr0, kI k 6 (va_cpy nwf0 trf0 0 0 6)), (tr1, kI k 6 (va_cpy nwf1 trf1 0 0 6)), (tr2, kI k 6 (va_cpy nwf2 trf2 0 0 6)), (tr3, kI k 6 (va_cpy nwf3 trf3 0 0 6)), (tr4, kI k 6 (va_cpy nwf4 trf4 0 0 6)), (tr5, kI k 6 (va_cpy nwf5 trf5 0 0 6)), (tr6, kI k 6 (va_cpy nwf6 trf6 0 0 6)), (nw, kO 4 [.ref nw0, .ref nw1, .ref nw2, .ref nw3, .ref nw4, .ref nw5, .ref nw6, .int nw_inside, .int nw_night, .int nw_minute, .int nw_tasted, .int nw_lastCook, .int nw_stirred]), (nw0, kI k 6 nwf0), (nw1, kI k 6 nwf1), (nw2, kI k 6 nwf2), (nw3, kI k 6 nwf3), (nw4, kI k 6 nwf4), (nw5, kI k 6 nwf5), (nw6, kI k 6 nwf6)] := hD
  rw [hQ]
  have hP9 := hP.sub (ws' := []) [] rfl
  have hD9 := hD.sub (ws' := []) [] (by decide) rfl
  exact W.iret (v := 0) hx hb hr (fun zt ht hW => ⟨⟨0, (), rfl, rfl, by rw [ht]; exact hP9, hD9⟩, hS.F ht⟩) hS.2.2 dX8_who_4
theorem dJ6_bitCount_0f7a4_0 : decode cJ6_bitCount_0f7a4 0 = .ok (.iload_n 0, 1) := by decide +kernel
theorem dJ6_bitCount_0f7a4_1 : decode cJ6_bitCount_0f7a4 1 = .ok (.iload_n 0, 1) := by decide +kernel
theorem dJ6_bitCount_0f7a4_2 : decode cJ6_bitCount_0f7a4 2 = .ok (.iconst 1, 1) := by decide +kernel
theorem dJ6_bitCount_0f7a4_3 : decode cJ6_bitCount_0f7a4 3 = .ok (.iushr, 1) := by decide +kernel
theorem dJ6_bitCount_0f7a4_4 : decode cJ6_bitCount_0f7a4 4 = .ok (.ldc_w 265, 3) := by decide +kernel
theorem dJ6_bitCount_0f7a4_7 : decode cJ6_bitCount_0f7a4 7 = .ok (.iand, 1) := by decide +kernel
theorem dJ6_bitCount_0f7a4_8 : decode cJ6_bitCount_0f7a4 8 = .ok (.isub, 1) := by decide +kernel
theorem dJ6_bitCount_0f7a4_9 : decode cJ6_bitCount_0f7a4 9 = .ok (.istore_n 0, 1) := by decide +kernel
theorem dJ6_bitCount_0f7a4_10 : decode cJ6_bitCount_0f7a4 10 = .ok (.iload_n 0, 1) := by decide +kernel
theorem dJ6_bitCount_0f7a4_11 : decode cJ6_bitCount_0f7a4 11 = .ok (.ldc_w 266, 3) := by decide +kernel
theorem dJ6_bitCount_0f7a4_14 : decode cJ6_bitCount_0f7a4 14 = .ok (.iand, 1) := by decide +kernel
theorem dJ6_bitCount_0f7a4_15 : decode cJ6_bitCount_0f7a4 15 = .ok (.iload_n 0, 1) := by decide +kernel
theorem dJ6_bitCount_0f7a4_16 : decode cJ6_bitCount_0f7a4 16 = .ok (.iconst 2, 1) := by decide +kernel
theorem dJ6_bitCount_0f7a4_17 : decode cJ6_bitCount_0f7a4 17 = .ok (.iushr, 1) := by decide +kernel
theorem dJ6_bitCount_0f7a4_18 : decode cJ6_bitCount_0f7a4 18 = .ok (.ldc_w 266, 3) := by decide +kernel
theorem dJ6_bitCount_0f7a4_21 : decode cJ6_bitCount_0f7a4 21 = .ok (.iand, 1) := by decide +kernel
theorem dJ6_bitCount_0f7a4_22 : decode cJ6_bitCount_0f7a4 22 = .ok (.iadd, 1) := by decide +kernel
theorem dJ6_bitCount_0f7a4_23 : decode cJ6_bitCount_0f7a4 23 = .ok (.istore_n 0, 1) := by decide +kernel
theorem dJ6_bitCount_0f7a4_24 : decode cJ6_bitCount_0f7a4 24 = .ok (.iload_n 0, 1) := by decide +kernel
theorem dJ6_bitCount_0f7a4_25 : decode cJ6_bitCount_0f7a4 25 = .ok (.iload_n 0, 1) := by decide +kernel
theorem dJ6_bitCount_0f7a4_26 : decode cJ6_bitCount_0f7a4 26 = .ok (.iconst 4, 1) := by decide +kernel
theorem dJ6_bitCount_0f7a4_27 : decode cJ6_bitCount_0f7a4 27 = .ok (.iushr, 1) := by decide +kernel
theorem dJ6_bitCount_0f7a4_28 : decode cJ6_bitCount_0f7a4 28 = .ok (.iadd, 1) := by decide +kernel
theorem dJ6_bitCount_0f7a4_29 : decode cJ6_bitCount_0f7a4 29 = .ok (.ldc_w 267, 3) := by decide +kernel
theorem dJ6_bitCount_0f7a4_32 : decode cJ6_bitCount_0f7a4 32 = .ok (.iand, 1) := by decide +kernel
theorem dJ6_bitCount_0f7a4_33 : decode cJ6_bitCount_0f7a4 33 = .ok (.istore_n 0, 1) := by decide +kernel
theorem dJ6_bitCount_0f7a4_34 : decode cJ6_bitCount_0f7a4 34 = .ok (.iload_n 0, 1) := by decide +kernel
theorem dJ6_bitCount_0f7a4_35 : decode cJ6_bitCount_0f7a4 35 = .ok (.iload_n 0, 1) := by decide +kernel
theorem dJ6_bitCount_0f7a4_36 : decode cJ6_bitCount_0f7a4 36 = .ok (.bipush 8, 2) := by decide +kernel
theorem dJ6_bitCount_0f7a4_38 : decode cJ6_bitCount_0f7a4 38 = .ok (.iushr, 1) := by decide +kernel
theorem dJ6_bitCount_0f7a4_39 : decode cJ6_bitCount_0f7a4 39 = .ok (.iadd, 1) := by decide +kernel
theorem dJ6_bitCount_0f7a4_40 : decode cJ6_bitCount_0f7a4 40 = .ok (.istore_n 0, 1) := by decide +kernel
theorem dJ6_bitCount_0f7a4_41 : decode cJ6_bitCount_0f7a4 41 = .ok (.iload_n 0, 1) := by decide +kernel
theorem dJ6_bitCount_0f7a4_42 : decode cJ6_bitCount_0f7a4 42 = .ok (.iload_n 0, 1) := by decide +kernel
theorem dJ6_bitCount_0f7a4_43 : decode cJ6_bitCount_0f7a4 43 = .ok (.bipush 16, 2) := by decide +kernel
theorem dJ6_bitCount_0f7a4_45 : decode cJ6_bitCount_0f7a4 45 = .ok (.iushr, 1) := by decide +kernel
theorem dJ6_bitCount_0f7a4_46 : decode cJ6_bitCount_0f7a4 46 = .ok (.iadd, 1) := by decide +kernel
theorem dJ6_bitCount_0f7a4_47 : decode cJ6_bitCount_0f7a4 47 = .ok (.istore_n 0, 1) := by decide +kernel
theorem dJ6_bitCount_0f7a4_48 : decode cJ6_bitCount_0f7a4 48 = .ok (.iload_n 0, 1) := by decide +kernel
theorem dJ6_bitCount_0f7a4_49 : decode cJ6_bitCount_0f7a4 49 = .ok (.bipush 63, 2) := by decide +kernel
theorem dJ6_bitCount_0f7a4_51 : decode cJ6_bitCount_0f7a4 51 = .ok (.iand, 1) := by decide +kernel
theorem dJ6_bitCount_0f7a4_52 : decode cJ6_bitCount_0f7a4 52 = .ok (.ireturn, 1) := by decide +kernel
set_option maxHeartbeats 4000000 in
set_option maxRecDepth 100000 in
theorem mJ6_bitCount_0f7a4 (l : Launch) (D : va_G) (k : Nat → ClassId) (sz : Nat) : Met l yJ6_bitCount_0f7a4 wsJ6_bitCount_0f7a4 ({ frames := 0, cells := 0, slots := 0, locals := 0 }) (va_Pc [.int 0] (kz_Pre D k [] sz)) (va_Qi (fun (rr : Int32) (uu : Unit) => rr = 0) (fun uu zt => kz_B D (va_A [] sz) [] zt) (va_A [] sz)) 0 0 (va_A [] sz) := by
  refine Met.ofW (cc := cJ6_bitCount_0f7a4) (maxL := 1) (ret := (some .int)) (by decide) rfl ?_
  intro p e s m args below meth c s₁ B hml hv
  obtain ⟨hav, hsz, hP, hK, hD0, hE⟩ := hv
  have hx := B.exec
  have hb := B.bytes
  have hr := B.returns
  have hts := atoms_spec (ws := wsJ6_bitCount_0f7a4) B.pre
  have hown : s.vm.findClass RJ6 = some m.cls := findClass_of_methodNamed B.named
  have hlocks := B.notSynchronized
  have lc265 := hts (.constant RJ6 265 (1431655765)) (by decide +kernel)
  have lc266 := hts (.constant RJ6 266 (858993459)) (by decide +kernel)
  have lc267 := hts (.constant RJ6 267 (252645135)) (by decide +kernel)
  subst hsz
  have hD := hD0.self (sz := s.heap.size)
  generalize hAe : va_A [] s.heap.size = A at hD ⊢
  have hA : ∀ q : Nat, s.heap.size ≤ q → A q := fun q h => by rw [← hAe]; exact Or.inr h
  have hS : va_S A s.heap s.heap [] := va_S.rf
  have hl := lv_entry ([.int 0]) (n := 1) (Nat.le_of_ble_eq_true rfl)
  rw [show entryFrame m args 1 = entryFrame m ([.int 0] : List Value).toArray 1 by rw [hav], lg_entry_eq]
  generalize (lg_sl ([.int 0]) ++ List.replicate (1 - (lg_sl ([.int 0])).length) Slot.unset).toArray = ls at hl ⊢
  have hl : lv_has ls 1 [(0, .int 0)] := hl
  obtain ⟨R, hR⟩ : ∃ R, R = (headSpec wsJ6_bitCount_0f7a4 ({ frames := 0, cells := 0, slots := 0, locals := 0 } : Room)).room := ⟨_, rfl⟩
  rw [← hR]
  generalize hQ : MQ below _ args s 0 0 A = Q
  replace hQ := hQ.symm
  obtain ⟨H, hH⟩ : ∃ H, H = s.heap := ⟨_, rfl⟩
  rw [← hH] at hP ⊢
  have hS : va_S A s.heap H [] := by rw [hH]; exact hS
  refine lv_iload_n hx hb dJ6_bitCount_0f7a4_0 rfl (lv_at hl 0 rfl) ?_
  refine lv_iload_n hx hb dJ6_bitCount_0f7a4_1 rfl (lv_at hl 0 rfl) ?_
  refine lv_iconst (v := 1) hx hb dJ6_bitCount_0f7a4_2 (by decide) ?_
  refine lv_iushr hx hb dJ6_bitCount_0f7a4_3 rfl ?_
  refine lv_topi (fun x1 ex1 => ?_)
  obtain rfl : x1 = 0 := ex1.trans (by decide)
  refine lv_ldcw hx hb hown lc265 dJ6_bitCount_0f7a4_4 ?_
  refine lv_iand hx hb dJ6_bitCount_0f7a4_7 ?_
  refine lv_topi (fun x2 ex2 => ?_)
  obtain rfl : x2 = 0 := ex2.trans (by decide)
  refine lv_isub hx hb dJ6_bitCount_0f7a4_8 ?_
  refine lv_topi (fun x3 ex3 => ?_)
  obtain rfl : x3 = 0 := ex3.trans (by decide)
  refine lv_istore_n (lv' := [(0, .int 0)]) hx hb dJ6_bitCount_0f7a4_9 rfl hl (by decide) rfl (fun ls hl => ?_)
  refine lv_iload_n hx hb dJ6_bitCount_0f7a4_10 rfl (lv_at hl 0 rfl) ?_
  refine lv_ldcw hx hb hown lc266 dJ6_bitCount_0f7a4_11 ?_
  refine lv_iand hx hb dJ6_bitCount_0f7a4_14 ?_
  refine lv_topi (fun x4 ex4 => ?_)
  obtain rfl : x4 = 0 := ex4.trans (by decide)
  refine lv_iload_n hx hb dJ6_bitCount_0f7a4_15 rfl (lv_at hl 0 rfl) ?_
  refine lv_iconst (v := 2) hx hb dJ6_bitCount_0f7a4_16 (by decide) ?_
  refine lv_iushr hx hb dJ6_bitCount_0f7a4_17 rfl ?_
  refine lv_topi (fun x5 ex5 => ?_)
  obtain rfl : x5 = 0 := ex5.trans (by decide)
  refine lv_ldcw hx hb hown lc266 dJ6_bitCount_0f7a4_18 ?_
  refine lv_iand hx hb dJ6_bitCount_0f7a4_21 ?_
  refine lv_topi (fun x6 ex6 => ?_)
  obtain rfl : x6 = 0 := ex6.trans (by decide)
  refine lv_iadd hx hb dJ6_bitCount_0f7a4_22 ?_
  refine lv_topi (fun x7 ex7 => ?_)
  obtain rfl : x7 = 0 := ex7.trans (by decide)
  refine lv_istore_n (lv' := [(0, .int 0)]) hx hb dJ6_bitCount_0f7a4_23 rfl hl (by decide) rfl (fun ls hl => ?_)
  refine lv_iload_n hx hb dJ6_bitCount_0f7a4_24 rfl (lv_at hl 0 rfl) ?_
  refine lv_iload_n hx hb dJ6_bitCount_0f7a4_25 rfl (lv_at hl 0 rfl) ?_
  refine lv_iconst (v := 4) hx hb dJ6_bitCount_0f7a4_26 (by decide) ?_
  refine lv_iushr hx hb dJ6_bitCount_0f7a4_27 rfl ?_
  refine lv_topi (fun x8 ex8 => ?_)
  obtain rfl : x8 = 0 := ex8.trans (by decide)
  refine lv_iadd hx hb dJ6_bitCount_0f7a4_28 ?_
  refine lv_topi (fun x9 ex9 => ?_)
  obtain rfl : x9 = 0 := ex9.trans (by decide)
  refine lv_ldcw hx hb hown lc267 dJ6_bitCount_0f7a4_29 ?_
  refine lv_iand hx hb dJ6_bitCount_0f7a4_32 ?_
  refine lv_topi (fun x10 ex10 => ?_)
  obtain rfl : x10 = 0 := ex10.trans (by decide)
  refine lv_istore_n (lv' := [(0, .int 0)]) hx hb dJ6_bitCount_0f7a4_33 rfl hl (by decide) rfl (fun ls hl => ?_)
  refine lv_iload_n hx hb dJ6_bitCount_0f7a4_34 rfl (lv_at hl 0 rfl) ?_
  refine lv_iload_n hx hb dJ6_bitCount_0f7a4_35 rfl (lv_at hl 0 rfl) ?_
  refine lv_bipush (v := 8) hx hb dJ6_bitCount_0f7a4_36 (by decide) ?_
  refine lv_iushr hx hb dJ6_bitCount_0f7a4_38 rfl ?_
  refine lv_topi (fun x11 ex11 => ?_)
  obtain rfl : x11 = 0 := ex11.trans (by decide)
  refine lv_iadd hx hb dJ6_bitCount_0f7a4_39 ?_
  refine lv_topi (fun x12 ex12 => ?_)
  obtain rfl : x12 = 0 := ex12.trans (by decide)
  refine lv_istore_n (lv' := [(0, .int 0)]) hx hb dJ6_bitCount_0f7a4_40 rfl hl (by decide) rfl (fun ls hl => ?_)
  refine lv_iload_n hx hb dJ6_bitCount_0f7a4_41 rfl (lv_at hl 0 rfl) ?_
  refine lv_iload_n hx hb dJ6_bitCount_0f7a4_42 rfl (lv_at hl 0 rfl) ?_
  refine lv_bipush (v := 16) hx hb dJ6_bitCount_0f7a4_43 (by decide) ?_
  refine lv_iushr hx hb dJ6_bitCount_0f7a4_45 rfl ?_
  refine lv_topi (fun x13 ex13 => ?_)
  obtain rfl : x13 = 0 := ex13.trans (by decide)
  refine lv_iadd hx hb dJ6_bitCount_0f7a4_46 ?_
  refine lv_topi (fun x14 ex14 => ?_)
  obtain rfl : x14 = 0 := ex14.trans (by decide)
  refine lv_istore_n (lv' := [(0, .int 0)]) hx hb dJ6_bitCount_0f7a4_47 rfl hl (by decide) rfl (fun ls hl => ?_)
  refine lv_iload_n hx hb dJ6_bitCount_0f7a4_48 rfl (lv_at hl 0 rfl) ?_
  refine lv_bipush (v := 63) hx hb dJ6_bitCount_0f7a4_49 (by decide) ?_
  refine lv_iand hx hb dJ6_bitCount_0f7a4_51 ?_
  refine lv_topi (fun x15 ex15 => ?_)
  obtain rfl : x15 = 0 := ex15.trans (by decide)
  rw [hQ]
  have hP9 := hP.sub (ws' := []) [] rfl
  have hD9 := hD.sub (ws' := []) [] (by decide) rfl
  exact W.iret (v := 0) hx hb hr (fun zt ht hW => ⟨⟨0, (), rfl, rfl, by rw [ht]; exact hP9, hD9⟩, hS.F ht⟩) hS.2.2 dJ6_bitCount_0f7a4_52
theorem dX8_ask_0 : decode cX8_ask 0 = .ok (.aload_n 0, 1) := by decide +kernel
theorem dX8_ask_1 : decode cX8_ask 1 = .ok (.invokevirtual 244, 3) := by decide +kernel
theorem dX8_ask_4 : decode cX8_ask 4 = .ok (.istore_n 1, 1) := by decide +kernel
theorem dX8_ask_5 : decode cX8_ask 5 = .ok (.iload_n 1, 1) := by decide +kernel
theorem dX8_ask_6 : decode cX8_ask 6 = .ok (.invokestatic 247, 3) := by decide +kernel
theorem dX8_ask_9 : decode cX8_ask 9 = .ok (.istore_n 2, 1) := by decide +kernel
theorem dX8_ask_10 : decode cX8_ask 10 = .ok (.iload_n 2, 1) := by decide +kernel
theorem dX8_ask_11 : decode cX8_ask 11 = .ok (.istore_n 3, 1) := by decide +kernel
theorem dX8_ask_12 : decode cX8_ask 12 = .ok (.iconst (-1), 1) := by decide +kernel
theorem dX8_ask_13 : decode cX8_ask 13 = .ok (.istore 4, 2) := by decide +kernel
theorem dX8_ask_15 : decode cX8_ask 15 = .ok (.aload_n 0, 1) := by decide +kernel
theorem dX8_ask_16 : decode cX8_ask 16 = .ok (.getfield 43, 3) := by decide +kernel
theorem dX8_ask_19 : decode cX8_ask 19 = .ok (.aload_n 0, 1) := by decide +kernel
theorem dX8_ask_20 : decode cX8_ask 20 = .ok (.getfield 39, 3) := by decide +kernel
theorem dX8_ask_23 : decode cX8_ask 23 = .ok (.invokevirtual 179, 3) := by decide +kernel
theorem dX8_ask_26 : decode cX8_ask 26 = .ok (.iconst 0, 1) := by decide +kernel
theorem dX8_ask_27 : decode cX8_ask 27 = .ok (.istore 5, 2) := by decide +kernel
theorem dX8_ask_29 : decode cX8_ask 29 = .ok (.iload 5, 2) := by decide +kernel
theorem dX8_ask_31 : decode cX8_ask 31 = .ok (.bipush 60, 2) := by decide +kernel
theorem dX8_ask_33 : decode cX8_ask 33 = .ok (.if_icmp .gt 130, 3) := by decide +kernel
theorem dX8_ask_36 : decode cX8_ask 36 = .ok (.iconst 0, 1) := by decide +kernel
theorem dX8_ask_37 : decode cX8_ask 37 = .ok (.istore 6, 2) := by decide +kernel
theorem dX8_ask_39 : decode cX8_ask 39 = .ok (.iload 6, 2) := by decide +kernel
theorem dX8_ask_41 : decode cX8_ask 41 = .ok (.aload_n 0, 1) := by decide +kernel
theorem dX8_ask_42 : decode cX8_ask 42 = .ok (.getfield 19, 3) := by decide +kernel
theorem dX8_ask_45 : decode cX8_ask 45 = .ok (.getfield 210, 3) := by decide +kernel
theorem dX8_ask_48 : decode cX8_ask 48 = .ok (.if_icmp .ge 97, 3) := by decide +kernel
theorem dX8_ask_145 : decode cX8_ask 145 = .ok (.aload_n 0, 1) := by decide +kernel
theorem dX8_ask_146 : decode cX8_ask 146 = .ok (.getfield 43, 3) := by decide +kernel
theorem dX8_ask_149 : decode cX8_ask 149 = .ok (.aload_n 0, 1) := by decide +kernel
theorem dX8_ask_150 : decode cX8_ask 150 = .ok (.getfield 19, 3) := by decide +kernel
theorem dX8_ask_153 : decode cX8_ask 153 = .ok (.invokevirtual 158, 3) := by decide +kernel
theorem dX8_ask_156 : decode cX8_ask 156 = .ok (.pop, 1) := by decide +kernel
theorem dX8_ask_157 : decode cX8_ask 157 = .ok (.iinc 5 1, 3) := by decide +kernel
theorem dX8_ask_160 : decode cX8_ask 160 = .ok (.goto (-131), 3) := by decide +kernel
theorem dX8_ask_163 : decode cX8_ask 163 = .ok (.iload 4, 2) := by decide +kernel
theorem dX8_ask_165 : decode cX8_ask 165 = .ok (.ireturn, 1) := by decide +kernel
set_option maxRecDepth 20000 in
theorem ggX8_ask_X8_suspects : GoodIn wsX8_ask wsX8_suspects := goodIn_r _ [14, 2, 3, 4, 15, 1, 16, 17, 18, 19, 20, 21, 22, 23, 24, 25, 26, 27, 28, 29, 30, 31, 32, 33, 7, 8, 9, 34, 35, 36, 37, 38, 39, 40, 41, 42, 43, 44, 45, 46, 47, 48, 49, 50, 51, 52, 53, 54, 55, 56, 57, 58, 59, 60, 61, 62, 63, 64, 65, 66, 67, 68, 69, 70, 71, 72, 73, 74, 75, 76, 77, 78, 79, 80, 81, 82, 83, 84, 85, 86, 87, 88, 89, 90, 91, 92, 93, 94, 95, 96, 97, 98, 99, 100, 101, 102, 103, 104, 105, 106, 107, 108, 109, 110, 111, 112, 113, 114, 115, 116, 117, 118, 119, 120, 121, 122, 123, 124, 125, 126, 127, 128, 129, 130, 131, 132, 133, 134, 135, 136, 137, 138, 150, 151, 152, 153, 154, 155, 156, 157, 158, 159, 160, 161, 162, 163, 164, 165, 166, 167, 168, 169, 170, 171, 172, 173, 174, 175, 176, 177, 178, 179, 180, 181, 182, 183, 184, 185, 186, 187, 188, 189, 190, 191, 192, 193, 194, 195] rfl (by decide +kernel)
set_option maxRecDepth 20000 in
theorem gX8_ask_X8_suspects : GoodIn wsX8_ask (wsV RX8 244 RX8 yX8_suspects wsX8_suspects) := goodIn_app (goodIn_of _ (by decide +kernel)) ggX8_ask_X8_suspects
set_option maxRecDepth 20000 in
theorem ggX8_ask_J6_bitCount_0f7a4 : GoodIn wsX8_ask wsJ6_bitCount_0f7a4 := goodIn_r _ [142, 143, 144, 145] rfl (by decide +kernel)
set_option maxRecDepth 20000 in
theorem gX8_ask_J6_bitCount_0f7a4 : GoodIn wsX8_ask (va_wsS RX8 247 yJ6_bitCount_0f7a4 wsJ6_bitCount_0f7a4) := goodIn_app (goodIn_of _ (by decide +kernel)) ggX8_ask_J6_bitCount_0f7a4
set_option maxRecDepth 20000 in
theorem ggX8_ask_X4_copyFrom : GoodIn wsX8_ask wsX4_copyFrom := goodIn_r _ [37, 21, 38, 39, 40, 41, 42, 43, 44, 45, 46, 47, 48, 49, 50, 51, 52, 174, 175, 176, 177, 178, 179, 180, 181, 182, 183, 184, 185, 186] rfl (by decide +kernel)
set_option maxRecDepth 20000 in
theorem gX8_ask_X4_copyFrom : GoodIn wsX8_ask (wsV RX8 179 RX4 yX4_copyFrom wsX4_copyFrom) := goodIn_app (goodIn_of _ (by decide +kernel)) ggX8_ask_X4_copyFrom
set_option maxRecDepth 20000 in
theorem ggX8_ask_X4_pass : GoodIn wsX8_ask wsX4_pass := goodIn_r _ [63, 50, 64, 65, 66, 67, 68, 69, 70, 71, 72, 73, 19, 74, 75, 48, 76, 77, 78, 79, 80, 43, 21, 81, 82, 83, 8, 84, 42, 85, 7, 9, 45, 46, 86, 87, 88, 89, 44, 90, 91, 92, 93, 94, 22, 23, 24, 25, 95, 96, 97, 98, 99, 100, 101, 102, 103, 104, 105, 106, 107, 51, 108, 109, 49, 47, 52, 110, 111, 112, 113, 114, 115, 116, 117, 118, 119, 120, 121, 122, 123, 124, 125, 126, 127, 128, 129, 130, 131, 132, 133, 134, 135, 136, 137, 138, 174, 175, 176, 177, 178, 179, 180, 181, 182, 183, 184, 185, 186, 161, 162, 163, 164, 165, 166, 167, 168, 169, 170, 171, 172, 173, 191, 192, 193, 194, 195] rfl (by decide +kernel)
set_option maxRecDepth 20000 in
theorem gX8_ask_X4_pass : GoodIn wsX8_ask (wsV RX8 158 RX4 yX4_pass wsX4_pass) := goodIn_app (goodIn_of _ (by decide +kernel)) ggX8_ask_X4_pass
set_option maxHeartbeats 4000000 in
set_option maxRecDepth 100000 in
theorem mX8_ask (l : Launch) (D : va_G) (k : Nat → ClassId) (sz : Nat) (x : Nat) (x_tape : Value) (td : Nat) (x_draft : Value) (x_lines : Value) (x_draftLines : Value) (nw : Nat) (tr : Nat) (sg : Nat) (x_past : Value) (x_marks : Value) (x_drawn : Int64) (td_names : Value) (td_kinds : Value) (td_yards : Value) (td_paces : Value) (td_skills : Value) (td_snow : Value) (td_law : Value) (td_bend : Int32) (td_hour : Int32) (td_bendTold : Int32) (td_hourTold : Int32) (sg_minutes : Value) (sg_yards : Value) (sg_near : Value) (tr0 : Nat) (tr1 : Nat) (tr2 : Nat) (tr3 : Nat) (tr4 : Nat) (tr5 : Nat) (tr6 : Nat) (tr_inside : Int32) (tr_night : Int32) (tr_minute : Int32) (tr_tasted : Int32) (tr_lastCook : Int32) (tr_stirred : Int32) (trf0 : Nat → Int32) (trf1 : Nat → Int32) (trf2 : Nat → Int32) (trf3 : Nat → Int32) (trf4 : Nat → Int32) (trf5 : Nat → Int32) (trf6 : Nat → Int32) (nw0 : Nat) (nw1 : Nat) (nw2 : Nat) (nw3 : Nat) (nw4 : Nat) (nw5 : Nat) (nw6 : Nat) (nw_inside : Int32) (nw_night : Int32) (nw_minute : Int32) (nw_tasted : Int32) (nw_lastCook : Int32) (nw_stirred : Int32) (nwf0 : Nat → Int32) (nwf1 : Nat → Int32) (nwf2 : Nat → Int32) (nwf3 : Nat → Int32) (nwf4 : Nat → Int32) (nwf5 : Nat → Int32) (nwf6 : Nat → Int32) : Met l yX8_ask wsX8_ask ({ frames := 5, cells := 0, slots := 0, locals := 350 }) (va_Pc [.ref x] (kz_Pre D k [(x, kO 8 [x_tape, .ref td, x_draft, x_lines, x_draftLines, .ref nw, .ref tr, .ref sg, x_past, x_marks, .long x_drawn]), (td, kO 7 [td_names, td_kinds, td_yards, td_paces, td_skills, td_snow, td_law, .int 0, .int 0, .int td_bend, .int td_hour, .int td_bendTold, .int td_hourTold]), (sg, kO 5 [sg_minutes, sg_yards, sg_near, .int 0]), (tr, kO 4 [.ref tr0, .ref tr1, .ref tr2, .ref tr3, .ref tr4, .ref tr5, .ref tr6, .int tr_inside, .int tr_night, .int tr_minute, .int tr_tasted, .int tr_lastCook, .int tr_stirred]), (tr0, kI k 6 trf0), (tr1, kI k 6 trf1), (tr2, kI k 6 trf2), (tr3, kI k 6 trf3), (tr4, kI k 6 trf4), (tr5, kI k 6 trf5), (tr6, kI k 6 trf6), (nw, kO 4 [.ref nw0, .ref nw1, .ref nw2, .ref nw3, .ref nw4, .ref nw5, .ref nw6, .int nw_inside, .int nw_night, .int nw_minute, .int nw_tasted, .int nw_lastCook, .int nw_stirred]), (nw0, kI k 6 nwf0), (nw1, kI k 6 nwf1), (nw2, kI k 6 nwf2), (nw3, kI k 6 nwf3), (nw4, kI k 6 nwf4), (nw5, kI k 6 nwf5), (nw6, kI k 6 nwf6)] sz)) (va_Qi (fun (rr : Int32) (uu : Unit) => rr = (-1)) (fun uu zt => kz_B D (va_A [(x, kO 8 [x_tape, .ref td, x_draft, x_lines, x_draftLines, .ref nw, .ref tr, .ref sg, x_past, x_marks, .long x_drawn]), (td, kO 7 [td_names, td_kinds, td_yards, td_paces, td_skills, td_snow, td_law, .int 0, .int 0, .int td_bend, .int td_hour, .int td_bendTold, .int td_hourTold]), (sg, kO 5 [sg_minutes, sg_yards, sg_near, .int 0]), (tr, kO 4 [.ref tr0, .ref tr1, .ref tr2, .ref tr3, .ref tr4, .ref tr5, .ref tr6, .int tr_inside, .int tr_night, .int tr_minute, .int tr_tasted, .int tr_lastCook, .int tr_stirred]), (tr0, kI k 6 trf0), (tr1, kI k 6 trf1), (tr2, kI k 6 trf2), (tr3, kI k 6 trf3), (tr4, kI k 6 trf4), (tr5, kI k 6 trf5), (tr6, kI k 6 trf6), (nw, kO 4 [.ref nw0, .ref nw1, .ref nw2, .ref nw3, .ref nw4, .ref nw5, .ref nw6, .int nw_inside, .int nw_night, .int nw_minute, .int nw_tasted, .int nw_lastCook, .int nw_stirred]), (nw0, kI k 6 nwf0), (nw1, kI k 6 nwf1), (nw2, kI k 6 nwf2), (nw3, kI k 6 nwf3), (nw4, kI k 6 nwf4), (nw5, kI k 6 nwf5), (nw6, kI k 6 nwf6)] sz) [] zt) (va_A [(x, kO 8 [x_tape, .ref td, x_draft, x_lines, x_draftLines, .ref nw, .ref tr, .ref sg, x_past, x_marks, .long x_drawn]), (td, kO 7 [td_names, td_kinds, td_yards, td_paces, td_skills, td_snow, td_law, .int 0, .int 0, .int td_bend, .int td_hour, .int td_bendTold, .int td_hourTold]), (sg, kO 5 [sg_minutes, sg_yards, sg_near, .int 0]), (tr, kO 4 [.ref tr0, .ref tr1, .ref tr2, .ref tr3, .ref tr4, .ref tr5, .ref tr6, .int tr_inside, .int tr_night, .int tr_minute, .int tr_tasted, .int tr_lastCook, .int tr_stirred]), (tr0, kI k 6 trf0), (tr1, kI k 6 trf1), (tr2, kI k 6 trf2), (tr3, kI k 6 trf3), (tr4, kI k 6 trf4), (tr5, kI k 6 trf5), (tr6, kI k 6 trf6), (nw, kO 4 [.ref nw0, .ref nw1, .ref nw2, .ref nw3, .ref nw4, .ref nw5, .ref nw6, .int nw_inside, .int nw_night, .int nw_minute, .int nw_tasted, .int nw_lastCook, .int nw_stirred]), (nw0, kI k 6 nwf0), (nw1, kI k 6 nwf1), (nw2, kI k 6 nwf2), (nw3, kI k 6 nwf3), (nw4, kI k 6 nwf4), (nw5, kI k 6 nwf5), (nw6, kI k 6 nwf6)] sz)) 0 0 (va_A [(x, kO 8 [x_tape, .ref td, x_draft, x_lines, x_draftLines, .ref nw, .ref tr, .ref sg, x_past, x_marks, .long x_drawn]), (td, kO 7 [td_names, td_kinds, td_yards, td_paces, td_skills, td_snow, td_law, .int 0, .int 0, .int td_bend, .int td_hour, .int td_bendTold, .int td_hourTold]), (sg, kO 5 [sg_minutes, sg_yards, sg_near, .int 0]), (tr, kO 4 [.ref tr0, .ref tr1, .ref tr2, .ref tr3, .ref tr4, .ref tr5, .ref tr6, .int tr_inside, .int tr_night, .int tr_minute, .int tr_tasted, .int tr_lastCook, .int tr_stirred]), (tr0, kI k 6 trf0), (tr1, kI k 6 trf1), (tr2, kI k 6 trf2), (tr3, kI k 6 trf3), (tr4, kI k 6 trf4), (tr5, kI k 6 trf5), (tr6, kI k 6 trf6), (nw, kO 4 [.ref nw0, .ref nw1, .ref nw2, .ref nw3, .ref nw4, .ref nw5, .ref nw6, .int nw_inside, .int nw_night, .int nw_minute, .int nw_tasted, .int nw_lastCook, .int nw_stirred]), (nw0, kI k 6 nwf0), (nw1, kI k 6 nwf1), (nw2, kI k 6 nwf2), (nw3, kI k 6 nwf3), (nw4, kI k 6 nwf4), (nw5, kI k 6 nwf5), (nw6, kI k 6 nwf6)] sz) := by
  refine Met.ofW (cc := cX8_ask) (maxL := 10) (ret := (some .int)) (by decide) rfl ?_
  intro p e s m args below meth c s₁ B hml hv
  obtain ⟨hav, hsz, hP, hK, hD0, hE⟩ := hv
  have hx := B.exec
  have hb := B.bytes
  have hr := B.returns
  have hts := atoms_spec (ws := wsX8_ask) B.pre
  have hown : s.vm.findClass RX8 = some m.cls := findClass_of_methodNamed B.named
  have hlocks := B.notSynchronized
  have hi7 : ∀ w ∈ u_ws RX7 TX7 13, w ∈ wsX8_ask := by decide +kernel
  have hi8 : ∀ w ∈ u_ws RX8 TX8 11, w ∈ wsX8_ask := by decide +kernel
  have lf43 := hts (.fieldLink RX8 43 "LastCook" "trial" "LLastCook$Road;") (by decide +kernel)
  have lf39 := hts (.fieldLink RX8 39 "LastCook" "now" "LLastCook$Road;") (by decide +kernel)
  have lf19 := hts (.fieldLink RX8 19 "LastCook" "told" "LLastCook$Told;") (by decide +kernel)
  have lf210 := hts (.fieldLink RX8 210 "LastCook$Told" "guests" "I") (by decide +kernel)
  subst hsz
  have hD := hD0.self (sz := s.heap.size)
  generalize hAe : va_A [(x, kO 8 [x_tape, .ref td, x_draft, x_lines, x_draftLines, .ref nw, .ref tr, .ref sg, x_past, x_marks, .long x_drawn]), (td, kO 7 [td_names, td_kinds, td_yards, td_paces, td_skills, td_snow, td_law, .int 0, .int 0, .int td_bend, .int td_hour, .int td_bendTold, .int td_hourTold]), (sg, kO 5 [sg_minutes, sg_yards, sg_near, .int 0]), (tr, kO 4 [.ref tr0, .ref tr1, .ref tr2, .ref tr3, .ref tr4, .ref tr5, .ref tr6, .int tr_inside, .int tr_night, .int tr_minute, .int tr_tasted, .int tr_lastCook, .int tr_stirred]), (tr0, kI k 6 trf0), (tr1, kI k 6 trf1), (tr2, kI k 6 trf2), (tr3, kI k 6 trf3), (tr4, kI k 6 trf4), (tr5, kI k 6 trf5), (tr6, kI k 6 trf6), (nw, kO 4 [.ref nw0, .ref nw1, .ref nw2, .ref nw3, .ref nw4, .ref nw5, .ref nw6, .int nw_inside, .int nw_night, .int nw_minute, .int nw_tasted, .int nw_lastCook, .int nw_stirred]), (nw0, kI k 6 nwf0), (nw1, kI k 6 nwf1), (nw2, kI k 6 nwf2), (nw3, kI k 6 nwf3), (nw4, kI k 6 nwf4), (nw5, kI k 6 nwf5), (nw6, kI k 6 nwf6)] s.heap.size = A at hD ⊢
  have hA : ∀ q : Nat, s.heap.size ≤ q → A q := fun q h => by rw [← hAe]; exact Or.inr h
  have hS : va_S A s.heap s.heap [] := va_S.rf
  have hl := lv_entry ([.ref x]) (n := 10) (Nat.le_of_ble_eq_true rfl)
  rw [show entryFrame m args 10 = entryFrame m ([.ref x] : List Value).toArray 10 by rw [hav], lg_entry_eq]
  generalize (lg_sl ([.ref x]) ++ List.replicate (10 - (lg_sl ([.ref x])).length) Slot.unset).toArray = ls at hl ⊢
  have hl : lv_has ls 10 [(0, .ref x)] := hl
  obtain ⟨R, hR⟩ : ∃ R, R = (headSpec wsX8_ask ({ frames := 5, cells := 0, slots := 0, locals := 350 } : Room)).room := ⟨_, rfl⟩
  rw [← hR]
  generalize hQ : MQ below _ args s 0 0 A = Q
  replace hQ := hQ.symm
  obtain ⟨H, hH⟩ : ∃ H, H = s.heap := ⟨_, rfl⟩
  rw [← hH] at hP ⊢
  have hS : va_S A s.heap H [] := by rw [hH]; exact hS
  refine lv_aload_n hx hb dX8_ask_0 rfl (lv_at hl 0 rfl) ?_
  refine kz_Vi (As := []) (rest := []) (wc := [(x, kO 8 [x_tape, .ref td, x_draft, x_lines, x_draftLines, .ref nw, .ref tr, .ref sg, x_past, x_marks, .long x_drawn]), (td, kO 7 [td_names, td_kinds, td_yards, td_paces, td_skills, td_snow, td_law, .int 0, .int 0, .int td_bend, .int td_hour, .int td_bendTold, .int td_hourTold]), (sg, kO 5 [sg_minutes, sg_yards, sg_near, .int 0]), (tr, kO 4 [.ref tr0, .ref tr1, .ref tr2, .ref tr3, .ref tr4, .ref tr5, .ref tr6, .int tr_inside, .int tr_night, .int tr_minute, .int tr_tasted, .int tr_lastCook, .int tr_stirred]), (tr0, kI k 6 trf0), (tr1, kI k 6 trf1), (tr2, kI k 6 trf2), (tr3, kI k 6 trf3), (tr4, kI k 6 trf4), (tr5, kI k 6 trf5), (tr6, kI k 6 trf6), (nw, kO 4 [.ref nw0, .ref nw1, .ref nw2, .ref nw3, .ref nw4, .ref nw5, .ref nw6, .int nw_inside, .int nw_night, .int nw_minute, .int nw_tasted, .int nw_lastCook, .int nw_stirred]), (nw0, kI k 6 nwf0), (nw1, kI k 6 nwf1), (nw2, kI k 6 nwf2), (nw3, kI k 6 nwf3), (nw4, kI k 6 nwf4), (nw5, kI k 6 nwf5), (nw6, kI k 6 nwf6)]) (wr := []) ⟨hx, hb, hml, hown, hts⟩ hK hE hP hD hS hA (mX8_suspects l D k H.size x x_tape td x_draft x_lines x_draftLines nw tr sg x_past x_marks x_drawn td_names td_kinds td_yards td_paces td_skills td_snow td_law td_bend td_hour td_bendTold td_hourTold sg_minutes sg_yards sg_near tr0 tr1 tr2 tr3 tr4 tr5 tr6 tr_inside tr_night tr_minute tr_tasted tr_lastCook tr_stirred trf0 trf1 trf2 trf3 trf4 trf5 trf6 nw0 nw1 nw2 nw3 nw4 nw5 nw6 nw_inside nw_night nw_minute nw_tasted nw_lastCook nw_stirred nwf0 nwf1 nwf2 nwf3 nwf4 nwf5 nwf6) (cwV 0 hts gX8_ask_X8_suspects rfl rfl rfl (by decide +kernel) (by rw [hR]; exact ⟨Nat.le_of_ble_eq_true rfl, Nat.le_of_ble_eq_true rfl⟩)) [0, 1, 2, 3, 4, 5, 6, 7, 8, 9, 10, 11, 12, 13, 14, 15, 16, 17, 18] [] rfl rfl (by decide) (by decide) (by decide) 0 rfl rfl rfl hl.1 rfl (Nat.le_of_ble_eq_true rfl) dX8_ask_1 (by rw [hR]; exact ⟨Nat.le_of_ble_eq_true rfl, Nat.le_of_ble_eq_true rfl⟩) (fun r1 u1 H locs hw1 hP hD hS => ?_)
  try dsimp only at hw1
  obtain rfl : r1 = 0 := hw1
  have hP : va_P D vwCl [(x, kO 8 [x_tape, .ref td, x_draft, x_lines, x_draftLines, .ref nw, .ref tr, .ref sg, x_past, x_marks, .long x_drawn]), (td, kO 7 [td_names, td_kinds, td_yards, td_paces, td_skills, td_snow, td_law, .int 0, .int 0, .int td_bend, .int td_hour, .int td_bendTold, .int td_hourTold]), (sg, kO 5 [sg_minutes, sg_yards, sg_near, .int 0]), (tr, kO 4 [.ref tr0, .ref tr1, .ref tr2, .ref tr3, .ref tr4, .ref tr5, .ref tr6, .int nw_inside, .int nw_night, .int nw_minute, .int nw_tasted, .int nw_lastCook, .int tr_stirred]), (tr0, kI k 6 (va_cpy nwf0 trf0 0 0 6)), (tr1, kI k 6 (va_cpy nwf1 trf1 0 0 6)), (tr2, kI k 6 (va_cpy nwf2 trf2 0 0 6)), (tr3, kI k 6 (va_cpy nwf3 trf3 0 0 6)), (tr4, kI k 6 (va_cpy nwf4 trf4 0 0 6)), (tr5, kI k 6 (va_cpy nwf5 trf5 0 0 6)), (tr6, kI k 6 (va_cpy nwf6 trf6 0 0 6)), (nw, kO 4 [.ref nw0, .ref nw1, .ref nw2, .ref nw3, .ref nw4, .ref nw5, .ref nw6, .int nw_inside, .int nw_night, .int nw_minute, .int nw_tasted, .int nw_lastCook, .int nw_stirred]), (nw0, kI k 6 nwf0), (nw1, kI k 6 nwf1), (nw2, kI k 6 nwf2), (nw3, kI k 6 nwf3), (nw4, kI k 6 nwf4), (nw5, kI k 6 nwf5), (nw6, kI k 6 nwf6)] H := hP
  have hD : va_D A [(x, kO 8 [x_tape, .ref td, x_draft, x_lines, x_draftLines, .ref nw, .ref tr, .ref sg, x_past, x_marks, .long x_drawn]), (td, kO 7 [td_names, td_kinds, td_yards, td_paces, td_skills, td_snow, td_law, .int 0, .int 0, .int td_bend, .int td_hour, .int td_bendTold, .int td_hourTold]), (sg, kO 5 [sg_minutes, sg_yards, sg_near, .int 0]), (tr, kO 4 [.ref tr0, .ref tr1, .ref tr2, .ref tr3, .ref tr4, .ref tr5, .ref tr6, .int nw_inside, .int nw_night, .int nw_minute, .int nw_tasted, .int nw_lastCook, .int tr_stirred]), (tr0, kI k 6 (va_cpy nwf0 trf0 0 0 6)), (tr1, kI k 6 (va_cpy nwf1 trf1 0 0 6)), (tr2, kI k 6 (va_cpy nwf2 trf2 0 0 6)), (tr3, kI k 6 (va_cpy nwf3 trf3 0 0 6)), (tr4, kI k 6 (va_cpy nwf4 trf4 0 0 6)), (tr5, kI k 6 (va_cpy nwf5 trf5 0 0 6)), (tr6, kI k 6 (va_cpy nwf6 trf6 0 0 6)), (nw, kO 4 [.ref nw0, .ref nw1, .ref nw2, .ref nw3, .ref nw4, .ref nw5, .ref nw6, .int nw_inside, .int nw_night, .int nw_minute, .int nw_tasted, .int nw_lastCook, .int nw_stirred]), (nw0, kI k 6 nwf0), (nw1, kI k 6 nwf1), (nw2, kI k 6 nwf2), (nw3, kI k 6 nwf3), (nw4, kI k 6 nwf4), (nw5, kI k 6 nwf5), (nw6, kI k 6 nwf6)] := hD
  refine lv_istore_n (lv' := [(1, .int 0), (0, .ref x)]) hx hb dX8_ask_4 rfl hl (by decide) rfl (fun ls hl => ?_)
  refine lv_iload_n hx hb dX8_ask_5 rfl (lv_at hl 0 rfl) ?_
  refine kz_Si (As := [.int 0]) (rest := []) (wc := []) (wr := [(x, kO 8 [x_tape, .ref td, x_draft, x_lines, x_draftLines, .ref nw, .ref tr, .ref sg, x_past, x_marks, .long x_drawn]), (td, kO 7 [td_names, td_kinds, td_yards, td_paces, td_skills, td_snow, td_law, .int 0, .int 0, .int td_bend, .int td_hour, .int td_bendTold, .int td_hourTold]), (sg, kO 5 [sg_minutes, sg_yards, sg_near, .int 0]), (tr, kO 4 [.ref tr0, .ref tr1, .ref tr2, .ref tr3, .ref tr4, .ref tr5, .ref tr6, .int nw_inside, .int nw_night, .int nw_minute, .int nw_tasted, .int nw_lastCook, .int tr_stirred]), (tr0, kI k 6 (va_cpy nwf0 trf0 0 0 6)), (tr1, kI k 6 (va_cpy nwf1 trf1 0 0 6)), (tr2, kI k 6 (va_cpy nwf2 trf2 0 0 6)), (tr3, kI k 6 (va_cpy nwf3 trf3 0 0 6)), (tr4, kI k 6 (va_cpy nwf4 trf4 0 0 6)), (tr5, kI k 6 (va_cpy nwf5 trf5 0 0 6)), (tr6, kI k 6 (va_cpy nwf6 trf6 0 0 6)), (nw, kO 4 [.ref nw0, .ref nw1, .ref nw2, .ref nw3, .ref nw4, .ref nw5, .ref nw6, .int nw_inside, .int nw_night, .int nw_minute, .int nw_tasted, .int nw_lastCook, .int nw_stirred]), (nw0, kI k 6 nwf0), (nw1, kI k 6 nwf1), (nw2, kI k 6 nwf2), (nw3, kI k 6 nwf3), (nw4, kI k 6 nwf4), (nw5, kI k 6 nwf5), (nw6, kI k 6 nwf6)]) ⟨hx, hb, hml, hown, hts⟩ hK hE hP hD hS hA (mJ6_bitCount_0f7a4 l D k H.size) (va_cwS 1 hts gX8_ask_J6_bitCount_0f7a4 rfl rfl rfl (by decide +kernel) (by rw [hR]; exact ⟨Nat.le_of_ble_eq_true rfl, Nat.le_of_ble_eq_true rfl⟩)) [] [0, 1, 2, 3, 4, 5, 6, 7, 8, 9, 10, 11, 12, 13, 14, 15, 16, 17, 18] rfl rfl (by decide) (by decide) (by decide) rfl hl.1 rfl (Nat.le_of_ble_eq_true rfl) dX8_ask_6 (by rw [hR]; exact ⟨Nat.le_of_ble_eq_true rfl, Nat.le_of_ble_eq_true rfl⟩) (fun r2 u2 H locs hw2 hP hD hS => ?_)
  try dsimp only at hw2
  obtain rfl : r2 = 0 := hw2
  have hP : va_P D vwCl [(x, kO 8 [x_tape, .ref td, x_draft, x_lines, x_draftLines, .ref nw, .ref tr, .ref sg, x_past, x_marks, .long x_drawn]), (td, kO 7 [td_names, td_kinds, td_yards, td_paces, td_skills, td_snow, td_law, .int 0, .int 0, .int td_bend, .int td_hour, .int td_bendTold, .int td_hourTold]), (sg, kO 5 [sg_minutes, sg_yards, sg_near, .int 0]), (tr, kO 4 [.ref tr0, .ref tr1, .ref tr2, .ref tr3, .ref tr4, .ref tr5, .ref tr6, .int nw_inside, .int nw_night, .int nw_minute, .int nw_tasted, .int nw_lastCook, .int tr_stirred]), (tr0, kI k 6 (va_cpy nwf0 trf0 0 0 6)), (tr1, kI k 6 (va_cpy nwf1 trf1 0 0 6)), (tr2, kI k 6 (va_cpy nwf2 trf2 0 0 6)), (tr3, kI k 6 (va_cpy nwf3 trf3 0 0 6)), (tr4, kI k 6 (va_cpy nwf4 trf4 0 0 6)), (tr5, kI k 6 (va_cpy nwf5 trf5 0 0 6)), (tr6, kI k 6 (va_cpy nwf6 trf6 0 0 6)), (nw, kO 4 [.ref nw0, .ref nw1, .ref nw2, .ref nw3, .ref nw4, .ref nw5, .ref nw6, .int nw_inside, .int nw_night, .int nw_minute, .int nw_tasted, .int nw_lastCook, .int nw_stirred]), (nw0, kI k 6 nwf0), (nw1, kI k 6 nwf1), (nw2, kI k 6 nwf2), (nw3, kI k 6 nwf3), (nw4, kI k 6 nwf4), (nw5, kI k 6 nwf5), (nw6, kI k 6 nwf6)] H := hP
  have hD : va_D A [(x, kO 8 [x_tape, .ref td, x_draft, x_lines, x_draftLines, .ref nw, .ref tr, .ref sg, x_past, x_marks, .long x_drawn]), (td, kO 7 [td_names, td_kinds, td_yards, td_paces, td_skills, td_snow, td_law, .int 0, .int 0, .int td_bend, .int td_hour, .int td_bendTold, .int td_hourTold]), (sg, kO 5 [sg_minutes, sg_yards, sg_near, .int 0]), (tr, kO 4 [.ref tr0, .ref tr1, .ref tr2, .ref tr3, .ref tr4, .ref tr5, .ref tr6, .int nw_inside, .int nw_night, .int nw_minute, .int nw_tasted, .int nw_lastCook, .int tr_stirred]), (tr0, kI k 6 (va_cpy nwf0 trf0 0 0 6)), (tr1, kI k 6 (va_cpy nwf1 trf1 0 0 6)), (tr2, kI k 6 (va_cpy nwf2 trf2 0 0 6)), (tr3, kI k 6 (va_cpy nwf3 trf3 0 0 6)), (tr4, kI k 6 (va_cpy nwf4 trf4 0 0 6)), (tr5, kI k 6 (va_cpy nwf5 trf5 0 0 6)), (tr6, kI k 6 (va_cpy nwf6 trf6 0 0 6)), (nw, kO 4 [.ref nw0, .ref nw1, .ref nw2, .ref nw3, .ref nw4, .ref nw5, .ref nw6, .int nw_inside, .int nw_night, .int nw_minute, .int nw_tasted, .int nw_lastCook, .int nw_stirred]), (nw0, kI k 6 nwf0), (nw1, kI k 6 nwf1), (nw2, kI k 6 nwf2), (nw3, kI k 6 nwf3), (nw4, kI k 6 nwf4), (nw5, kI k 6 nwf5), (nw6, kI k 6 nwf6)] := hD
  refine lv_istore_n (lv' := [(2, .int 0), (1, .int 0), (0, .ref x)]) hx hb dX8_ask_9 rfl hl (by decide) rfl (fun ls hl => ?_)
  refine lv_iload_n hx hb dX8_ask_10 rfl (lv_at hl 0 rfl) ?_
  refine lv_istore_n (lv' := [(3, .int 0), (2, .int 0), (1, .int 0), (0, .ref x)]) hx hb dX8_ask_11 rfl hl (by decide) rfl (fun ls hl => ?_)
  refine lv_iconst (v := (-1)) hx hb dX8_ask_12 (by decide) ?_
  refine lv_istore (lv' := [(4, .int (-1)), (3, .int 0), (2, .int 0), (1, .int 0), (0, .ref x)]) hx hb dX8_ask_13 hl (by decide) rfl (fun ls hl => ?_)
  refine lv_aload_n hx hb dX8_ask_15 rfl (lv_at hl 4 rfl) ?_
  refine va_get (D := D) (ci := 8) (v := .ref tr) (C := RX8) (T := TX8) (N := 11) hx hb hts hi8 hown hK hP 0 rfl rfl 6 (by decide) lf43 (fun _ h9 => h9) rfl dX8_ask_16 ?_
  refine lv_aload_n hx hb dX8_ask_19 rfl (lv_at hl 4 rfl) ?_
  refine va_get (D := D) (ci := 8) (v := .ref nw) (C := RX8) (T := TX8) (N := 11) hx hb hts hi8 hown hK hP 0 rfl rfl 5 (by decide) lf39 (fun _ h9 => h9) rfl dX8_ask_20 ?_
  refine kz_Vv (As := [.ref nw]) (rest := []) (wc := [(tr, kO 4 [.ref tr0, .ref tr1, .ref tr2, .ref tr3, .ref tr4, .ref tr5, .ref tr6, .int nw_inside, .int nw_night, .int nw_minute, .int nw_tasted, .int nw_lastCook, .int tr_stirred]), (tr0, kI k 6 (va_cpy nwf0 trf0 0 0 6)), (tr1, kI k 6 (va_cpy nwf1 trf1 0 0 6)), (tr2, kI k 6 (va_cpy nwf2 trf2 0 0 6)), (tr3, kI k 6 (va_cpy nwf3 trf3 0 0 6)), (tr4, kI k 6 (va_cpy nwf4 trf4 0 0 6)), (tr5, kI k 6 (va_cpy nwf5 trf5 0 0 6)), (tr6, kI k 6 (va_cpy nwf6 trf6 0 0 6)), (nw, kO 4 [.ref nw0, .ref nw1, .ref nw2, .ref nw3, .ref nw4, .ref nw5, .ref nw6, .int nw_inside, .int nw_night, .int nw_minute, .int nw_tasted, .int nw_lastCook, .int nw_stirred]), (nw0, kI k 6 nwf0), (nw1, kI k 6 nwf1), (nw2, kI k 6 nwf2), (nw3, kI k 6 nwf3), (nw4, kI k 6 nwf4), (nw5, kI k 6 nwf5), (nw6, kI k 6 nwf6)]) (wr := [(x, kO 8 [x_tape, .ref td, x_draft, x_lines, x_draftLines, .ref nw, .ref tr, .ref sg, x_past, x_marks, .long x_drawn]), (td, kO 7 [td_names, td_kinds, td_yards, td_paces, td_skills, td_snow, td_law, .int 0, .int 0, .int td_bend, .int td_hour, .int td_bendTold, .int td_hourTold]), (sg, kO 5 [sg_minutes, sg_yards, sg_near, .int 0])]) ⟨hx, hb, hml, hown, hts⟩ hK hE hP hD hS hA (mX4_copyFrom l D k H.size tr nw tr0 tr1 tr2 tr3 tr4 tr5 tr6 nw_inside nw_night nw_minute nw_tasted nw_lastCook tr_stirred (va_cpy nwf0 trf0 0 0 6) (va_cpy nwf1 trf1 0 0 6) (va_cpy nwf2 trf2 0 0 6) (va_cpy nwf3 trf3 0 0 6) (va_cpy nwf4 trf4 0 0 6) (va_cpy nwf5 trf5 0 0 6) (va_cpy nwf6 trf6 0 0 6) nw0 nw1 nw2 nw3 nw4 nw5 nw6 nw_inside nw_night nw_minute nw_tasted nw_lastCook nw_stirred nwf0 nwf1 nwf2 nwf3 nwf4 nwf5 nwf6) (cwV 1 hts gX8_ask_X4_copyFrom rfl rfl rfl (by decide +kernel) (by rw [hR]; exact ⟨Nat.le_of_ble_eq_true rfl, Nat.le_of_ble_eq_true rfl⟩)) [3, 4, 5, 6, 7, 8, 9, 10, 11, 12, 13, 14, 15, 16, 17, 18] [0, 1, 2] rfl rfl (by decide) (by decide) (by decide) 0 rfl rfl rfl hl.1 rfl (Nat.le_of_ble_eq_true rfl) dX8_ask_23 (by rw [hR]; exact ⟨Nat.le_of_ble_eq_true rfl, Nat.le_of_ble_eq_true rfl⟩) (fun u3 H locs hw3 hP hD hS => ?_)
  have hP : va_P D vwCl [(x, kO 8 [x_tape, .ref td, x_draft, x_lines, x_draftLines, .ref nw, .ref tr, .ref sg, x_past, x_marks, .long x_drawn]), (td, kO 7 [td_names, td_kinds, td_yards, td_paces, td_skills, td_snow, td_law, .int 0, .int 0, .int td_bend, .int td_hour, .int td_bendTold, .int td_hourTold]), (sg, kO 5 [sg_minutes, sg_yards, sg_near, .int 0]), (tr, kO 4 [.ref tr0, .ref tr1, .ref tr2, .ref tr3, .ref tr4, .ref tr5, .ref tr6, .int nw_inside, .int nw_night, .int nw_minute, .int nw_tasted, .int nw_lastCook, .int tr_stirred]), (tr0, kI k 6 (va_cpy nwf0 (va_cpy nwf0 trf0 0 0 6) 0 0 6)), (tr1, kI k 6 (va_cpy nwf1 (va_cpy nwf1 trf1 0 0 6) 0 0 6)), (tr2, kI k 6 (va_cpy nwf2 (va_cpy nwf2 trf2 0 0 6) 0 0 6)), (tr3, kI k 6 (va_cpy nwf3 (va_cpy nwf3 trf3 0 0 6) 0 0 6)), (tr4, kI k 6 (va_cpy nwf4 (va_cpy nwf4 trf4 0 0 6) 0 0 6)), (tr5, kI k 6 (va_cpy nwf5 (va_cpy nwf5 trf5 0 0 6) 0 0 6)), (tr6, kI k 6 (va_cpy nwf6 (va_cpy nwf6 trf6 0 0 6) 0 0 6)), (nw, kO 4 [.ref nw0, .ref nw1, .ref nw2, .ref nw3, .ref nw4, .ref nw5, .ref nw6, .int nw_inside, .int nw_night, .int nw_minute, .int nw_tasted, .int nw_lastCook, .int nw_stirred]), (nw0, kI k 6 nwf0), (nw1, kI k 6 nwf1), (nw2, kI k 6 nwf2), (nw3, kI k 6 nwf3), (nw4, kI k 6 nwf4), (nw5, kI k 6 nwf5), (nw6, kI k 6 nwf6)] H := hP
  have hD : va_D A [(x, kO 8 [x_tape, .ref td, x_draft, x_lines, x_draftLines, .ref nw, .ref tr, .ref sg, x_past, x_marks, .long x_drawn]), (td, kO 7 [td_names, td_kinds, td_yards, td_paces, td_skills, td_snow, td_law, .int 0, .int 0, .int td_bend, .int td_hour, .int td_bendTold, .int td_hourTold]), (sg, kO 5 [sg_minutes, sg_yards, sg_near, .int 0]), (tr, kO 4 [.ref tr0, .ref tr1, .ref tr2, .ref tr3, .ref tr4, .ref tr5, .ref tr6, .int nw_inside, .int nw_night, .int nw_minute, .int nw_tasted, .int nw_lastCook, .int tr_stirred]), (tr0, kI k 6 (va_cpy nwf0 (va_cpy nwf0 trf0 0 0 6) 0 0 6)), (tr1, kI k 6 (va_cpy nwf1 (va_cpy nwf1 trf1 0 0 6) 0 0 6)), (tr2, kI k 6 (va_cpy nwf2 (va_cpy nwf2 trf2 0 0 6) 0 0 6)), (tr3, kI k 6 (va_cpy nwf3 (va_cpy nwf3 trf3 0 0 6) 0 0 6)), (tr4, kI k 6 (va_cpy nwf4 (va_cpy nwf4 trf4 0 0 6) 0 0 6)), (tr5, kI k 6 (va_cpy nwf5 (va_cpy nwf5 trf5 0 0 6) 0 0 6)), (tr6, kI k 6 (va_cpy nwf6 (va_cpy nwf6 trf6 0 0 6) 0 0 6)), (nw, kO 4 [.ref nw0, .ref nw1, .ref nw2, .ref nw3, .ref nw4, .ref nw5, .ref nw6, .int nw_inside, .int nw_night, .int nw_minute, .int nw_tasted, .int nw_lastCook, .int nw_stirred]), (nw0, kI k 6 nwf0), (nw1, kI k 6 nwf1), (nw2, kI k 6 nwf2), (nw3, kI k 6 nwf3), (nw4, kI k 6 nwf4), (nw5, kI k 6 nwf5), (nw6, kI k 6 nwf6)] := hD
  refine lv_iconst (v := 0) hx hb dX8_ask_26 (by decide) ?_
  refine lv_istore (lv' := [(5, .int 0), (4, .int (-1)), (3, .int 0), (2, .int 0), (1, .int 0), (0, .ref x)]) hx hb dX8_ask_27 hl (by decide) rfl (fun ls hl => ?_)
  have hloop29 : ∀ (n : Nat) (j : Nat) (hm : Int32) (hs : Int32) (z0 : Nat → Int32) (z1 : Nat → Int32) (z2 : Nat → Int32) (z3 : Nat → Int32) (z4 : Nat → Int32) (z5 : Nat → Int32) (z6 : Nat → Int32), 61 - j < n → (j ≤ 61) → ∀ (H : Heap) (locs : List Loc) (ls : Array Slot), va_P D vwCl [(x, kO 8 [x_tape, .ref td, x_draft, x_lines, x_draftLines, .ref nw, .ref tr, .ref sg, x_past, x_marks, .long x_drawn]), (td, kO 7 [td_names, td_kinds, td_yards, td_paces, td_skills, td_snow, td_law, .int 0, .int 0, .int td_bend, .int td_hour, .int td_bendTold, .int td_hourTold]), (sg, kO 5 [sg_minutes, sg_yards, sg_near, .int 0]), (tr, kO 4 [.ref tr0, .ref tr1, .ref tr2, .ref tr3, .ref tr4, .ref tr5, .ref tr6, .int nw_inside, .int nw_night, .int hm, .int nw_tasted, .int nw_lastCook, .int hs]), (tr0, kI k 6 z0), (tr1, kI k 6 z1), (tr2, kI k 6 z2), (tr3, kI k 6 z3), (tr4, kI k 6 z4), (tr5, kI k 6 z5), (tr6, kI k 6 z6), (nw, kO 4 [.ref nw0, .ref nw1, .ref nw2, .ref nw3, .ref nw4, .ref nw5, .ref nw6, .int nw_inside, .int nw_night, .int nw_minute, .int nw_tasted, .int nw_lastCook, .int nw_stirred]), (nw0, kI k 6 nwf0), (nw1, kI k 6 nwf1), (nw2, kI k 6 nwf2), (nw3, kI k 6 nwf3), (nw4, kI k 6 nwf4), (nw5, kI k 6 nwf5), (nw6, kI k 6 nwf6)] H → va_D A [(x, kO 8 [x_tape, .ref td, x_draft, x_lines, x_draftLines, .ref nw, .ref tr, .ref sg, x_past, x_marks, .long x_drawn]), (td, kO 7 [td_names, td_kinds, td_yards, td_paces, td_skills, td_snow, td_law, .int 0, .int 0, .int td_bend, .int td_hour, .int td_bendTold, .int td_hourTold]), (sg, kO 5 [sg_minutes, sg_yards, sg_near, .int 0]), (tr, kO 4 [.ref tr0, .ref tr1, .ref tr2, .ref tr3, .ref tr4, .ref tr5, .ref tr6, .int nw_inside, .int nw_night, .int hm, .int nw_tasted, .int nw_lastCook, .int hs]), (tr0, kI k 6 z0), (tr1, kI k 6 z1), (tr2, kI k 6 z2), (tr3, kI k 6 z3), (tr4, kI k 6 z4), (tr5, kI k 6 z5), (tr6, kI k 6 z6), (nw, kO 4 [.ref nw0, .ref nw1, .ref nw2, .ref nw3, .ref nw4, .ref nw5, .ref nw6, .int nw_inside, .int nw_night, .int nw_minute, .int nw_tasted, .int nw_lastCook, .int nw_stirred]), (nw0, kI k 6 nwf0), (nw1, kI k 6 nwf1), (nw2, kI k 6 nwf2), (nw3, kI k 6 nwf3), (nw4, kI k 6 nwf4), (nw5, kI k 6 nwf5), (nw6, kI k 6 nwf6)] → va_S A s.heap H locs → lv_has ls 10 [(5, .int (nI j)), (4, .int (-1)), (3, .int 0), (2, .int 0), (1, .int 0), (0, .ref x)] → W p l e R s m args below meth c H locs 0 0 Q (F0 m 29 ls []) := by
    intro n29
    induction n29 with
    | zero => intro j hm hs z0 z1 z2 z3 z4 z5 z6 hm; exact absurd hm (Nat.not_lt_zero _)
    | succ n29 ih29 =>
      intro j hm hs z0 z1 z2 z3 z4 z5 z6 hm29 hj H locs ls hP hD hS hl
      refine lv_iload hx hb dX8_ask_29 (lv_at hl 0 rfl) ?_
      refine lv_bipush (v := 60) hx hb dX8_ask_31 (by decide) ?_
      refine lv_icmp_gt (tgt := 163) hx hb dX8_ask_33 (by decide) (fun c_4 => ?_) (fun c_4 => ?_)
      · skip
        have k_4 : 60 < j := (nI_ltI (a := 60) (b := j) (by omega) (by omega)).mp c_4
        refine lv_iload hx hb dX8_ask_163 (lv_at hl 1 rfl) ?_
        rw [hQ]
        have hP9 := hP.sub (ws' := []) [] rfl
        have hD9 := hD.sub (ws' := []) [] (by decide) rfl
        exact W.iret (v := (-1)) hx hb hr (fun zt ht hW => ⟨⟨(-1), (), rfl, rfl, by rw [ht]; exact hP9, hD9⟩, hS.F ht⟩) hS.2.2 dX8_ask_165
      · skip
        have k_4 : ¬ (60 < j) := fun h => c_4 ((nI_ltI (a := 60) (b := j) (by omega) (by omega)).mpr h)
        refine lv_iconst (v := 0) hx hb dX8_ask_36 (by decide) ?_
        refine lv_istore (lv' := [(6, .int 0), (5, .int (nI j)), (4, .int (-1)), (3, .int 0), (2, .int 0), (1, .int 0), (0, .ref x)]) hx hb dX8_ask_37 hl (by decide) rfl (fun ls hl => ?_)
        refine lv_iload hx hb dX8_ask_39 (lv_at hl 0 rfl) ?_
        refine lv_aload_n hx hb dX8_ask_41 rfl (lv_at hl 6 rfl) ?_
        refine va_get (D := D) (ci := 8) (v := .ref td) (C := RX8) (T := TX8) (N := 11) hx hb hts hi8 hown hK hP 0 rfl rfl 1 (by decide) lf19 (fun _ h9 => h9) rfl dX8_ask_42 ?_
        refine va_get (D := D) (ci := 7) (v := .int 0) (C := RX7) (T := TX7) (N := 13) hx hb hts hi7 hown hK hP 1 rfl rfl 7 (by decide) lf210 (fun _ h9 => h9) rfl dX8_ask_45 ?_
        refine lv_icmp_ge (tgt := 145) hx hb dX8_ask_48 (by decide) (fun c_5 => ?_) (fun c_5 => absurd (by decide) c_5)
        refine lv_aload_n hx hb dX8_ask_145 rfl (lv_at hl 6 rfl) ?_
        refine va_get (D := D) (ci := 8) (v := .ref tr) (C := RX8) (T := TX8) (N := 11) hx hb hts hi8 hown hK hP 0 rfl rfl 6 (by decide) lf43 (fun _ h9 => h9) rfl dX8_ask_146 ?_
        refine lv_aload_n hx hb dX8_ask_149 rfl (lv_at hl 6 rfl) ?_
        refine va_get (D := D) (ci := 8) (v := .ref td) (C := RX8) (T := TX8) (N := 11) hx hb hts hi8 hown hK hP 0 rfl rfl 1 (by decide) lf19 (fun _ h9 => h9) rfl dX8_ask_150 ?_
        refine kz_Vi (As := [.ref td]) (rest := []) (wc := [(tr, kO 4 [.ref tr0, .ref tr1, .ref tr2, .ref tr3, .ref tr4, .ref tr5, .ref tr6, .int nw_inside, .int nw_night, .int hm, .int nw_tasted, .int nw_lastCook, .int hs]), (td, kO 7 [td_names, td_kinds, td_yards, td_paces, td_skills, td_snow, td_law, .int 0, .int 0, .int td_bend, .int td_hour, .int td_bendTold, .int td_hourTold])]) (wr := [(x, kO 8 [x_tape, .ref td, x_draft, x_lines, x_draftLines, .ref nw, .ref tr, .ref sg, x_past, x_marks, .long x_drawn]), (sg, kO 5 [sg_minutes, sg_yards, sg_near, .int 0]), (tr0, kI k 6 z0), (tr1, kI k 6 z1), (tr2, kI k 6 z2), (tr3, kI k 6 z3), (tr4, kI k 6 z4), (tr5, kI k 6 z5), (tr6, kI k 6 z6), (nw, kO 4 [.ref nw0, .ref nw1, .ref nw2, .ref nw3, .ref nw4, .ref nw5, .ref nw6, .int nw_inside, .int nw_night, .int nw_minute, .int nw_tasted, .int nw_lastCook, .int nw_stirred]), (nw0, kI k 6 nwf0), (nw1, kI k 6 nwf1), (nw2, kI k 6 nwf2), (nw3, kI k 6 nwf3), (nw4, kI k 6 nwf4), (nw5, kI k 6 nwf5), (nw6, kI k 6 nwf6)]) ⟨hx, hb, hml, hown, hts⟩ hK hE hP hD hS hA (mX4_pass l D k H.size tr td (.ref tr0) (.ref tr1) (.ref tr2) (.ref tr3) (.ref tr4) (.ref tr5) (.ref tr6) nw_inside nw_night hm nw_tasted nw_lastCook hs td_names td_kinds td_yards td_paces td_skills td_snow td_law td_bend td_hour td_bendTold td_hourTold) (cwV 1 hts gX8_ask_X4_pass rfl rfl rfl (by decide +kernel) (by rw [hR]; exact ⟨Nat.le_of_ble_eq_true rfl, Nat.le_of_ble_eq_true rfl⟩)) [3, 1] [0, 2, 4, 5, 6, 7, 8, 9, 10, 11, 12, 13, 14, 15, 16, 17, 18] rfl rfl (by decide) (by decide) (by decide) 0 rfl rfl rfl hl.1 rfl (Nat.le_of_ble_eq_true rfl) dX8_ask_153 (by rw [hR]; exact ⟨Nat.le_of_ble_eq_true rfl, Nat.le_of_ble_eq_true rfl⟩) (fun r6 u6 H locs hw6 hP hD hS => ?_)
        try dsimp only at hw6
        obtain rfl : r6 = (-1) := hw6
        have hP : va_P D vwCl [(x, kO 8 [x_tape, .ref td, x_draft, x_lines, x_draftLines, .ref nw, .ref tr, .ref sg, x_past, x_marks, .long x_drawn]), (sg, kO 5 [sg_minutes, sg_yards, sg_near, .int 0]), (tr0, kI k 6 z0), (tr1, kI k 6 z1), (tr2, kI k 6 z2), (tr3, kI k 6 z3), (tr4, kI k 6 z4), (tr5, kI k 6 z5), (tr6, kI k 6 z6), (nw, kO 4 [.ref nw0, .ref nw1, .ref nw2, .ref nw3, .ref nw4, .ref nw5, .ref nw6, .int nw_inside, .int nw_night, .int nw_minute, .int nw_tasted, .int nw_lastCook, .int nw_stirred]), (nw0, kI k 6 nwf0), (nw1, kI k 6 nwf1), (nw2, kI k 6 nwf2), (nw3, kI k 6 nwf3), (nw4, kI k 6 nwf4), (nw5, kI k 6 nwf5), (nw6, kI k 6 nwf6), (tr, kO 4 [.ref tr0, .ref tr1, .ref tr2, .ref tr3, .ref tr4, .ref tr5, .ref tr6, .int nw_inside, .int nw_night, .int (hm + 1), .int nw_tasted, .int nw_lastCook, .int 0]), (td, kO 7 [td_names, td_kinds, td_yards, td_paces, td_skills, td_snow, td_law, .int 0, .int 0, .int td_bend, .int td_hour, .int td_bendTold, .int td_hourTold])] H := hP
        have hD : va_D A [(x, kO 8 [x_tape, .ref td, x_draft, x_lines, x_draftLines, .ref nw, .ref tr, .ref sg, x_past, x_marks, .long x_drawn]), (sg, kO 5 [sg_minutes, sg_yards, sg_near, .int 0]), (tr0, kI k 6 z0), (tr1, kI k 6 z1), (tr2, kI k 6 z2), (tr3, kI k 6 z3), (tr4, kI k 6 z4), (tr5, kI k 6 z5), (tr6, kI k 6 z6), (nw, kO 4 [.ref nw0, .ref nw1, .ref nw2, .ref nw3, .ref nw4, .ref nw5, .ref nw6, .int nw_inside, .int nw_night, .int nw_minute, .int nw_tasted, .int nw_lastCook, .int nw_stirred]), (nw0, kI k 6 nwf0), (nw1, kI k 6 nwf1), (nw2, kI k 6 nwf2), (nw3, kI k 6 nwf3), (nw4, kI k 6 nwf4), (nw5, kI k 6 nwf5), (nw6, kI k 6 nwf6), (tr, kO 4 [.ref tr0, .ref tr1, .ref tr2, .ref tr3, .ref tr4, .ref tr5, .ref tr6, .int nw_inside, .int nw_night, .int (hm + 1), .int nw_tasted, .int nw_lastCook, .int 0]), (td, kO 7 [td_names, td_kinds, td_yards, td_paces, td_skills, td_snow, td_law, .int 0, .int 0, .int td_bend, .int td_hour, .int td_bendTold, .int td_hourTold])] := hD
        refine lv_pop hx hb dX8_ask_156 rfl ?_
        refine lv_iinc (v := (nI (j + 1))) (lv' := [(5, .int (nI (j + 1))), (6, .int 0), (4, .int (-1)), (3, .int 0), (2, .int 0), (1, .int 0), (0, .ref x)]) hx hb dX8_ask_157 hl (k := 1) rfl (nI_1 _) (by decide) rfl (fun ls hl => ?_)
        refine lv_goto (tgt := 29) hx hb dX8_ask_160 (by decide) ?_
        exact ih29 (j + 1) (hm + 1) 0 z0 z1 z2 z3 z4 z5 z6 (by omega) (by omega) _ _ _ (hP.sub [0, 18, 1, 17, 2, 3, 4, 5, 6, 7, 8, 9, 10, 11, 12, 13, 14, 15, 16] rfl) (hD.sub [0, 18, 1, 17, 2, 3, 4, 5, 6, 7, 8, 9, 10, 11, 12, 13, 14, 15, 16] (by decide) rfl) hS (lv_sub hl [0, 2, 3, 4, 5, 6] rfl)
  exact hloop29 ((61 - 0) + 1) 0 nw_minute tr_stirred (va_cpy nwf0 (va_cpy nwf0 trf0 0 0 6) 0 0 6) (va_cpy nwf1 (va_cpy nwf1 trf1 0 0 6) 0 0 6) (va_cpy nwf2 (va_cpy nwf2 trf2 0 0 6) 0 0 6) (va_cpy nwf3 (va_cpy nwf3 trf3 0 0 6) 0 0 6) (va_cpy nwf4 (va_cpy nwf4 trf4 0 0 6) 0 0 6) (va_cpy nwf5 (va_cpy nwf5 trf5 0 0 6) 0 0 6) (va_cpy nwf6 (va_cpy nwf6 trf6 0 0 6) 0 0 6) (Nat.lt_succ_self _) (by omega) _ _ _ (hP.sub [0, 1, 2, 3, 4, 5, 6, 7, 8, 9, 10, 11, 12, 13, 14, 15, 16, 17, 18] rfl) (hD.sub [0, 1, 2, 3, 4, 5, 6, 7, 8, 9, 10, 11, 12, 13, 14, 15, 16, 17, 18] (by decide) rfl) hS (lv_sub hl [0, 1, 2, 3, 4, 5] rfl)
theorem dX8_drawDeed_0 : decode cX8_drawDeed 0 = .ok (.aload_n 0, 1) := by decide +kernel
theorem dX8_drawDeed_1 : decode cX8_drawDeed 1 = .ok (.getfield 19, 3) := by decide +kernel
theorem dX8_drawDeed_4 : decode cX8_drawDeed 4 = .ok (.getfield 210, 3) := by decide +kernel
theorem dX8_drawDeed_7 : decode cX8_drawDeed 7 = .ok (.ifCond .ne 4, 3) := by decide +kernel
theorem dX8_drawDeed_10 : decode cX8_drawDeed 10 = .ok (.return_, 1) := by decide +kernel
set_option maxHeartbeats 4000000 in
set_option maxRecDepth 100000 in
theorem mX8_drawDeed (l : Launch) (D : va_G) (k : Nat → ClassId) (sz : Nat) (x : Nat) (x_tape : Value) (td : Nat) (x_draft : Value) (x_lines : Value) (x_draftLines : Value) (x_now : Value) (x_trial : Value) (x_sights : Value) (x_past : Value) (x_marks : Value) (x_drawn : Int64) (td_names : Value) (td_kinds : Value) (td_yards : Value) (td_paces : Value) (td_skills : Value) (td_snow : Value) (td_law : Value) (td_bend : Int32) (td_hour : Int32) (td_bendTold : Int32) (td_hourTold : Int32) : Met l yX8_drawDeed wsX8_drawDeed ({ frames := 0, cells := 0, slots := 0, locals := 0 }) (va_Pc [.ref x] (kz_Pre D k [(x, kO 8 [x_tape, .ref td, x_draft, x_lines, x_draftLines, x_now, x_trial, x_sights, x_past, x_marks, .long x_drawn]), (td, kO 7 [td_names, td_kinds, td_yards, td_paces, td_skills, td_snow, td_law, .int 0, .int 0, .int td_bend, .int td_hour, .int td_bendTold, .int td_hourTold])] sz)) (va_Qv (fun (uu : Unit) => True) (fun uu zt => kz_B D (va_A [(x, kO 8 [x_tape, .ref td, x_draft, x_lines, x_draftLines, x_now, x_trial, x_sights, x_past, x_marks, .long x_drawn]), (td, kO 7 [td_names, td_kinds, td_yards, td_paces, td_skills, td_snow, td_law, .int 0, .int 0, .int td_bend, .int td_hour, .int td_bendTold, .int td_hourTold])] sz) [(x, kO 8 [x_tape, .ref td, x_draft, x_lines, x_draftLines, x_now, x_trial, x_sights, x_past, x_marks, .long x_drawn]), (td, kO 7 [td_names, td_kinds, td_yards, td_paces, td_skills, td_snow, td_law, .int 0, .int 0, .int td_bend, .int td_hour, .int td_bendTold, .int td_hourTold])] zt) (va_A [(x, kO 8 [x_tape, .ref td, x_draft, x_lines, x_draftLines, x_now, x_trial, x_sights, x_past, x_marks, .long x_drawn]), (td, kO 7 [td_names, td_kinds, td_yards, td_paces, td_skills, td_snow, td_law, .int 0, .int 0, .int td_bend, .int td_hour, .int td_bendTold, .int td_hourTold])] sz)) 0 0 (va_A [(x, kO 8 [x_tape, .ref td, x_draft, x_lines, x_draftLines, x_now, x_trial, x_sights, x_past, x_marks, .long x_drawn]), (td, kO 7 [td_names, td_kinds, td_yards, td_paces, td_skills, td_snow, td_law, .int 0, .int 0, .int td_bend, .int td_hour, .int td_bendTold, .int td_hourTold])] sz) := by
  refine Met.ofW (cc := cX8_drawDeed) (maxL := 3) (ret := none) (by decide) rfl ?_
  intro p e s m args below meth c s₁ B hml hv
  obtain ⟨hav, hsz, hP, hK, hD0, hE⟩ := hv
  have hx := B.exec
  have hb := B.bytes
  have hr := B.returns
  have hts := atoms_spec (ws := wsX8_drawDeed) B.pre
  have hown : s.vm.findClass RX8 = some m.cls := findClass_of_methodNamed B.named
  have hlocks := B.notSynchronized
  have hi7 : ∀ w ∈ u_ws RX7 TX7 13, w ∈ wsX8_drawDeed := by decide +kernel
  have hi8 : ∀ w ∈ u_ws RX8 TX8 11, w ∈ wsX8_drawDeed := by decide +kernel
  have lf19 := hts (.fieldLink RX8 19 "LastCook" "told" "LLastCook$Told;") (by decide +kernel)
  have lf210 := hts (.fieldLink RX8 210 "LastCook$Told" "guests" "I") (by decide +kernel)
  subst hsz
  have hD := hD0.self (sz := s.heap.size)
  generalize hAe : va_A [(x, kO 8 [x_tape, .ref td, x_draft, x_lines, x_draftLines, x_now, x_trial, x_sights, x_past, x_marks, .long x_drawn]), (td, kO 7 [td_names, td_kinds, td_yards, td_paces, td_skills, td_snow, td_law, .int 0, .int 0, .int td_bend, .int td_hour, .int td_bendTold, .int td_hourTold])] s.heap.size = A at hD ⊢
  have hA : ∀ q : Nat, s.heap.size ≤ q → A q := fun q h => by rw [← hAe]; exact Or.inr h
  have hS : va_S A s.heap s.heap [] := va_S.rf
  have hl := lv_entry ([.ref x]) (n := 3) (Nat.le_of_ble_eq_true rfl)
  rw [show entryFrame m args 3 = entryFrame m ([.ref x] : List Value).toArray 3 by rw [hav], lg_entry_eq]
  generalize (lg_sl ([.ref x]) ++ List.replicate (3 - (lg_sl ([.ref x])).length) Slot.unset).toArray = ls at hl ⊢
  have hl : lv_has ls 3 [(0, .ref x)] := hl
  obtain ⟨R, hR⟩ : ∃ R, R = (headSpec wsX8_drawDeed ({ frames := 0, cells := 0, slots := 0, locals := 0 } : Room)).room := ⟨_, rfl⟩
  rw [← hR]
  generalize hQ : MQ below _ args s 0 0 A = Q
  replace hQ := hQ.symm
  obtain ⟨H, hH⟩ : ∃ H, H = s.heap := ⟨_, rfl⟩
  rw [← hH] at hP ⊢
  have hS : va_S A s.heap H [] := by rw [hH]; exact hS
  refine lv_aload_n hx hb dX8_drawDeed_0 rfl (lv_at hl 0 rfl) ?_
  refine va_get (D := D) (ci := 8) (v := .ref td) (C := RX8) (T := TX8) (N := 11) hx hb hts hi8 hown hK hP 0 rfl rfl 1 (by decide) lf19 (fun _ h9 => h9) rfl dX8_drawDeed_1 ?_
  refine va_get (D := D) (ci := 7) (v := .int 0) (C := RX7) (T := TX7) (N := 13) hx hb hts hi7 hown hK hP 1 rfl rfl 7 (by decide) lf210 (fun _ h9 => h9) rfl dX8_drawDeed_4 ?_
  refine lv_if_ne (tgt := 11) hx hb dX8_drawDeed_7 (by decide) (fun c_1 => absurd (by decide) c_1) (fun c_1 => ?_)
  rw [hQ]
  have hP9 := hP.sub (ws' := [(x, kO 8 [x_tape, .ref td, x_draft, x_lines, x_draftLines, x_now, x_trial, x_sights, x_past, x_marks, .long x_drawn]), (td, kO 7 [td_names, td_kinds, td_yards, td_paces, td_skills, td_snow, td_law, .int 0, .int 0, .int td_bend, .int td_hour, .int td_bendTold, .int td_hourTold])]) [0, 1] rfl
  have hD9 := hD.sub (ws' := [(x, kO 8 [x_tape, .ref td, x_draft, x_lines, x_draftLines, x_now, x_trial, x_sights, x_past, x_marks, .long x_drawn]), (td, kO 7 [td_names, td_kinds, td_yards, td_paces, td_skills, td_snow, td_law, .int 0, .int 0, .int td_bend, .int td_hour, .int td_bendTold, .int td_hourTold])]) [0, 1] (by decide) rfl
  exact W.vret hx hb hr (fun zt ht hW => ⟨⟨(), rfl, trivial, by rw [ht]; exact hP9, hD9⟩, hS.F ht⟩) hS.2.2 dX8_drawDeed_10
theorem dX8_years_0 : decode cX8_years 0 = .ok (.iload_n 1, 1) := by decide +kernel
theorem dX8_years_1 : decode cX8_years 1 = .ok (.iconst 0, 1) := by decide +kernel
theorem dX8_years_2 : decode cX8_years 2 = .ok (.sipush 9999, 3) := by decide +kernel
theorem dX8_years_5 : decode cX8_years 5 = .ok (.invokestatic 137, 3) := by decide +kernel
theorem dX8_years_8 : decode cX8_years 8 = .ok (.ifCond .eq 22, 3) := by decide +kernel
theorem dX8_years_11 : decode cX8_years 11 = .ok (.iload_n 2, 1) := by decide +kernel
theorem dX8_years_12 : decode cX8_years 12 = .ok (.iconst 1, 1) := by decide +kernel
theorem dX8_years_13 : decode cX8_years 13 = .ok (.bipush 99, 2) := by decide +kernel
theorem dX8_years_15 : decode cX8_years 15 = .ok (.invokestatic 137, 3) := by decide +kernel
theorem dX8_years_18 : decode cX8_years 18 = .ok (.ifCond .eq 12, 3) := by decide +kernel
theorem dX8_years_21 : decode cX8_years 21 = .ok (.iload_n 3, 1) := by decide +kernel
theorem dX8_years_22 : decode cX8_years 22 = .ok (.iconst 0, 1) := by decide +kernel
theorem dX8_years_23 : decode cX8_years 23 = .ok (.iconst 2, 1) := by decide +kernel
theorem dX8_years_24 : decode cX8_years 24 = .ok (.invokestatic 137, 3) := by decide +kernel
theorem dX8_years_27 : decode cX8_years 27 = .ok (.ifCond .ne 7, 3) := by decide +kernel
theorem dX8_years_30 : decode cX8_years 30 = .ok (.ldc_w 274, 3) := by decide +kernel
theorem dX8_years_33 : decode cX8_years 33 = .ok (.ireturn, 1) := by decide +kernel
theorem dX8_years_34 : decode cX8_years 34 = .ok (.aload_n 0, 1) := by decide +kernel
theorem dX8_years_35 : decode cX8_years 35 = .ok (.getfield 43, 3) := by decide +kernel
theorem dX8_years_38 : decode cX8_years 38 = .ok (.aload_n 0, 1) := by decide +kernel
theorem dX8_years_39 : decode cX8_years 39 = .ok (.getfield 39, 3) := by decide +kernel
theorem dX8_years_42 : decode cX8_years 42 = .ok (.invokevirtual 179, 3) := by decide +kernel
theorem dX8_years_45 : decode cX8_years 45 = .ok (.aload_n 0, 1) := by decide +kernel
theorem dX8_years_46 : decode cX8_years 46 = .ok (.iload_n 1, 1) := by decide +kernel
theorem dX8_years_47 : decode cX8_years 47 = .ok (.i2l, 1) := by decide +kernel
theorem dX8_years_48 : decode cX8_years 48 = .ok (.putfield 275, 3) := by decide +kernel
theorem dX8_years_51 : decode cX8_years 51 = .ok (.iconst 0, 1) := by decide +kernel
theorem dX8_years_52 : decode cX8_years 52 = .ok (.istore 4, 2) := by decide +kernel
theorem dX8_years_54 : decode cX8_years 54 = .ok (.iload 4, 2) := by decide +kernel
theorem dX8_years_56 : decode cX8_years 56 = .ok (.iload_n 2, 1) := by decide +kernel
theorem dX8_years_57 : decode cX8_years 57 = .ok (.if_icmp .ge 25, 3) := by decide +kernel
theorem dX8_years_60 : decode cX8_years 60 = .ok (.aload_n 0, 1) := by decide +kernel
theorem dX8_years_61 : decode cX8_years 61 = .ok (.invokevirtual 279, 3) := by decide +kernel
theorem dX8_years_64 : decode cX8_years 64 = .ok (.aload_n 0, 1) := by decide +kernel
theorem dX8_years_65 : decode cX8_years 65 = .ok (.getfield 43, 3) := by decide +kernel
theorem dX8_years_68 : decode cX8_years 68 = .ok (.aload_n 0, 1) := by decide +kernel
theorem dX8_years_69 : decode cX8_years 69 = .ok (.getfield 19, 3) := by decide +kernel
theorem dX8_years_72 : decode cX8_years 72 = .ok (.invokevirtual 158, 3) := by decide +kernel
theorem dX8_years_75 : decode cX8_years 75 = .ok (.pop, 1) := by decide +kernel
theorem dX8_years_76 : decode cX8_years 76 = .ok (.iinc 4 1, 3) := by decide +kernel
theorem dX8_years_79 : decode cX8_years 79 = .ok (.goto (-25), 3) := by decide +kernel
theorem dX8_years_82 : decode cX8_years 82 = .ok (.iload_n 3, 1) := by decide +kernel
theorem dX8_years_83 : decode cX8_years 83 = .ok (.lookupswitch 57 #[(0, 25), (1, 41)], 25) := by decide +kernel
theorem dX8_years_108 : decode cX8_years 108 = .ok (.aload_n 0, 1) := by decide +kernel
theorem dX8_years_109 : decode cX8_years 109 = .ok (.getfield 43, 3) := by decide +kernel
theorem dX8_years_112 : decode cX8_years 112 = .ok (.getfield 173, 3) := by decide +kernel
theorem dX8_years_115 : decode cX8_years 115 = .ok (.aload_n 0, 1) := by decide +kernel
theorem dX8_years_116 : decode cX8_years 116 = .ok (.getfield 39, 3) := by decide +kernel
theorem dX8_years_119 : decode cX8_years 119 = .ok (.getfield 173, 3) := by decide +kernel
theorem dX8_years_122 : decode cX8_years 122 = .ok (.isub, 1) := by decide +kernel
theorem dX8_years_123 : decode cX8_years 123 = .ok (.ireturn, 1) := by decide +kernel
theorem dX8_years_124 : decode cX8_years 124 = .ok (.aload_n 0, 1) := by decide +kernel
theorem dX8_years_125 : decode cX8_years 125 = .ok (.getfield 43, 3) := by decide +kernel
theorem dX8_years_128 : decode cX8_years 128 = .ok (.getfield 176, 3) := by decide +kernel
theorem dX8_years_131 : decode cX8_years 131 = .ok (.aload_n 0, 1) := by decide +kernel
theorem dX8_years_132 : decode cX8_years 132 = .ok (.getfield 39, 3) := by decide +kernel
theorem dX8_years_135 : decode cX8_years 135 = .ok (.getfield 176, 3) := by decide +kernel
theorem dX8_years_138 : decode cX8_years 138 = .ok (.isub, 1) := by decide +kernel
theorem dX8_years_139 : decode cX8_years 139 = .ok (.ireturn, 1) := by decide +kernel
theorem dX8_years_140 : decode cX8_years 140 = .ok (.aload_n 0, 1) := by decide +kernel
theorem dX8_years_141 : decode cX8_years 141 = .ok (.getfield 43, 3) := by decide +kernel
theorem dX8_years_144 : decode cX8_years 144 = .ok (.aload_n 0, 1) := by decide +kernel
theorem dX8_years_145 : decode cX8_years 145 = .ok (.getfield 19, 3) := by decide +kernel
theorem dX8_years_148 : decode cX8_years 148 = .ok (.getfield 210, 3) := by decide +kernel
theorem dX8_years_151 : decode cX8_years 151 = .ok (.sipush 300, 3) := by decide +kernel
theorem dX8_years_154 : decode cX8_years 154 = .ok (.invokevirtual 216, 3) := by decide +kernel
theorem dX8_years_157 : decode cX8_years 157 = .ok (.ireturn, 1) := by decide +kernel
set_option maxRecDepth 20000 in
theorem ggX8_years_X8_isWithin : GoodIn wsX8_years wsX8_isWithin := goodIn_r _ [12] rfl (by decide +kernel)
set_option maxRecDepth 20000 in
theorem gX8_years_X8_isWithin : GoodIn wsX8_years (va_wsS RX8 137 yX8_isWithin wsX8_isWithin) := goodIn_app (goodIn_of _ (by decide +kernel)) ggX8_years_X8_isWithin
set_option maxRecDepth 20000 in
theorem ggX8_years_X4_copyFrom : GoodIn wsX8_years wsX4_copyFrom := goodIn_r _ [17, 18, 19, 20, 21, 22, 23, 24, 25, 26, 27, 28, 29, 30, 31, 32, 33, 163, 164, 165, 166, 167, 168, 169, 170, 171, 172, 173, 174, 175] rfl (by decide +kernel)
set_option maxRecDepth 20000 in
theorem gX8_years_X4_copyFrom : GoodIn wsX8_years (wsV RX8 179 RX4 yX4_copyFrom wsX4_copyFrom) := goodIn_app (goodIn_of _ (by decide +kernel)) ggX8_years_X4_copyFrom
set_option maxRecDepth 20000 in
theorem ggX8_years_X4_onRoadWithin : GoodIn wsX8_years wsX4_onRoadWithin := goodIn_r _ [151, 18, 54, 55, 56, 16, 57, 163, 164, 165, 166, 167, 168, 169, 170, 171, 172, 173, 174, 175] rfl (by decide +kernel)
set_option maxRecDepth 20000 in
theorem gX8_years_X4_onRoadWithin : GoodIn wsX8_years (wsV RX8 216 RX4 yX4_onRoadWithin wsX4_onRoadWithin) := goodIn_app (goodIn_of _ (by decide +kernel)) ggX8_years_X4_onRoadWithin
set_option maxRecDepth 20000 in
theorem ggX8_years_X8_drawDeed : GoodIn wsX8_years wsX8_drawDeed := goodIn_r _ [37, 5, 8, 2, 38, 39, 40, 11, 41, 4, 42, 43, 44, 45, 46, 47, 48, 16, 49, 24, 50, 51, 52, 53, 54, 55, 56, 57, 18, 58, 59, 60, 61, 23, 62, 63, 64, 65, 25, 66, 67, 68, 69, 152, 153, 154, 155, 156, 157, 158, 159, 160, 161, 162, 176, 177, 178, 179, 180, 181, 182, 183, 184, 185, 186, 187, 188, 163, 164, 165, 166, 167, 168, 169, 170, 171, 172, 173, 174, 175] rfl (by decide +kernel)
set_option maxRecDepth 20000 in
theorem gX8_years_X8_drawDeed : GoodIn wsX8_years (wsV RX8 279 RX8 yX8_drawDeed wsX8_drawDeed) := goodIn_app (goodIn_of _ (by decide +kernel)) ggX8_years_X8_drawDeed
set_option maxRecDepth 20000 in
theorem ggX8_years_X4_pass : GoodIn wsX8_years wsX4_pass := goodIn_r _ [73, 31, 74, 75, 76, 77, 78, 79, 80, 81, 82, 83, 16, 84, 85, 29, 86, 87, 88, 89, 90, 24, 18, 91, 50, 51, 52, 53, 23, 92, 93, 94, 26, 27, 95, 96, 97, 98, 25, 99, 100, 101, 102, 103, 54, 55, 56, 57, 104, 105, 106, 107, 108, 109, 110, 111, 112, 113, 114, 115, 116, 32, 117, 118, 30, 28, 33, 119, 120, 121, 122, 123, 124, 125, 126, 127, 128, 129, 130, 131, 132, 133, 134, 135, 136, 137, 138, 139, 140, 141, 142, 143, 144, 145, 146, 147, 163, 164, 165, 166, 167, 168, 169, 170, 171, 172, 173, 174, 175, 176, 177, 178, 179, 180, 181, 182, 183, 184, 185, 186, 187, 188, 189, 190, 191, 192, 193] rfl (by decide +kernel)
set_option maxRecDepth 20000 in
theorem gX8_years_X4_pass : GoodIn wsX8_years (wsV RX8 158 RX4 yX4_pass wsX4_pass) := goodIn_app (goodIn_of _ (by decide +kernel)) ggX8_years_X4_pass
set_option maxHeartbeats 4000000 in
set_option maxRecDepth 100000 in
theorem mX8_years (l : Launch) (D : va_G) (k : Nat → ClassId) (sz : Nat) (x : Nat) (q1 : Int32) (q2 : Int32) (q3 : Int32) (x_tape : Value) (td : Nat) (x_draft : Value) (x_lines : Value) (x_draftLines : Value) (nw : Nat) (tr : Nat) (x_sights : Value) (x_past : Value) (x_marks : Value) (x_drawn : Int64) (td_names : Value) (td_kinds : Value) (td_yards : Value) (td_paces : Value) (td_skills : Value) (td_snow : Value) (td_law : Value) (td_bend : Int32) (td_hour : Int32) (td_bendTold : Int32) (td_hourTold : Int32) (tr0 : Nat) (tr1 : Nat) (tr2 : Nat) (tr3 : Nat) (tr4 : Nat) (tr5 : Nat) (tr6 : Nat) (tr_inside : Int32) (tr_night : Int32) (tr_minute : Int32) (tr_tasted : Int32) (tr_lastCook : Int32) (tr_stirred : Int32) (trf0 : Nat → Int32) (trf1 : Nat → Int32) (trf2 : Nat → Int32) (trf3 : Nat → Int32) (trf4 : Nat → Int32) (trf5 : Nat → Int32) (trf6 : Nat → Int32) (nw0 : Nat) (nw1 : Nat) (nw2 : Nat) (nw3 : Nat) (nw4 : Nat) (nw5 : Nat) (nw6 : Nat) (nw_inside : Int32) (nw_minute : Int32) (nw_lastCook : Int32) (nw_stirred : Int32) (nwf0 : Nat → Int32) (nwf1 : Nat → Int32) (nwf2 : Nat → Int32) (nwf3 : Nat → Int32) (nwf4 : Nat → Int32) (nwf5 : Nat → Int32) (nwf6 : Nat → Int32) : Met l yX8_years wsX8_years ({ frames := 5, cells := 0, slots := 0, locals := 350 }) (va_Pc [.ref x, .int q1, .int q2, .int q3] (kz_Pre D k [(x, kO 8 [x_tape, .ref td, x_draft, x_lines, x_draftLines, .ref nw, .ref tr, x_sights, x_past, x_marks, .long x_drawn]), (td, kO 7 [td_names, td_kinds, td_yards, td_paces, td_skills, td_snow, td_law, .int 0, .int 0, .int td_bend, .int td_hour, .int td_bendTold, .int td_hourTold]), (tr, kO 4 [.ref tr0, .ref tr1, .ref tr2, .ref tr3, .ref tr4, .ref tr5, .ref tr6, .int tr_inside, .int tr_night, .int tr_minute, .int tr_tasted, .int tr_lastCook, .int tr_stirred]), (tr0, kI k 6 trf0), (tr1, kI k 6 trf1), (tr2, kI k 6 trf2), (tr3, kI k 6 trf3), (tr4, kI k 6 trf4), (tr5, kI k 6 trf5), (tr6, kI k 6 trf6), (nw, kO 4 [.ref nw0, .ref nw1, .ref nw2, .ref nw3, .ref nw4, .ref nw5, .ref nw6, .int nw_inside, .int 0, .int nw_minute, .int 0, .int nw_lastCook, .int nw_stirred]), (nw0, kI k 6 nwf0), (nw1, kI k 6 nwf1), (nw2, kI k 6 nwf2), (nw3, kI k 6 nwf3), (nw4, kI k 6 nwf4), (nw5, kI k 6 nwf5), (nw6, kI k 6 nwf6)] sz)) (va_Qi (fun (rr : Int32) (uu : Unit) => rr = aY q1 q2 q3) (fun uu zt => kz_B D (va_A [(x, kO 8 [x_tape, .ref td, x_draft, x_lines, x_draftLines, .ref nw, .ref tr, x_sights, x_past, x_marks, .long x_drawn]), (td, kO 7 [td_names, td_kinds, td_yards, td_paces, td_skills, td_snow, td_law, .int 0, .int 0, .int td_bend, .int td_hour, .int td_bendTold, .int td_hourTold]), (tr, kO 4 [.ref tr0, .ref tr1, .ref tr2, .ref tr3, .ref tr4, .ref tr5, .ref tr6, .int tr_inside, .int tr_night, .int tr_minute, .int tr_tasted, .int tr_lastCook, .int tr_stirred]), (tr0, kI k 6 trf0), (tr1, kI k 6 trf1), (tr2, kI k 6 trf2), (tr3, kI k 6 trf3), (tr4, kI k 6 trf4), (tr5, kI k 6 trf5), (tr6, kI k 6 trf6), (nw, kO 4 [.ref nw0, .ref nw1, .ref nw2, .ref nw3, .ref nw4, .ref nw5, .ref nw6, .int nw_inside, .int 0, .int nw_minute, .int 0, .int nw_lastCook, .int nw_stirred]), (nw0, kI k 6 nwf0), (nw1, kI k 6 nwf1), (nw2, kI k 6 nwf2), (nw3, kI k 6 nwf3), (nw4, kI k 6 nwf4), (nw5, kI k 6 nwf5), (nw6, kI k 6 nwf6)] sz) [] zt) (va_A [(x, kO 8 [x_tape, .ref td, x_draft, x_lines, x_draftLines, .ref nw, .ref tr, x_sights, x_past, x_marks, .long x_drawn]), (td, kO 7 [td_names, td_kinds, td_yards, td_paces, td_skills, td_snow, td_law, .int 0, .int 0, .int td_bend, .int td_hour, .int td_bendTold, .int td_hourTold]), (tr, kO 4 [.ref tr0, .ref tr1, .ref tr2, .ref tr3, .ref tr4, .ref tr5, .ref tr6, .int tr_inside, .int tr_night, .int tr_minute, .int tr_tasted, .int tr_lastCook, .int tr_stirred]), (tr0, kI k 6 trf0), (tr1, kI k 6 trf1), (tr2, kI k 6 trf2), (tr3, kI k 6 trf3), (tr4, kI k 6 trf4), (tr5, kI k 6 trf5), (tr6, kI k 6 trf6), (nw, kO 4 [.ref nw0, .ref nw1, .ref nw2, .ref nw3, .ref nw4, .ref nw5, .ref nw6, .int nw_inside, .int 0, .int nw_minute, .int 0, .int nw_lastCook, .int nw_stirred]), (nw0, kI k 6 nwf0), (nw1, kI k 6 nwf1), (nw2, kI k 6 nwf2), (nw3, kI k 6 nwf3), (nw4, kI k 6 nwf4), (nw5, kI k 6 nwf5), (nw6, kI k 6 nwf6)] sz)) 0 0 (va_A [(x, kO 8 [x_tape, .ref td, x_draft, x_lines, x_draftLines, .ref nw, .ref tr, x_sights, x_past, x_marks, .long x_drawn]), (td, kO 7 [td_names, td_kinds, td_yards, td_paces, td_skills, td_snow, td_law, .int 0, .int 0, .int td_bend, .int td_hour, .int td_bendTold, .int td_hourTold]), (tr, kO 4 [.ref tr0, .ref tr1, .ref tr2, .ref tr3, .ref tr4, .ref tr5, .ref tr6, .int tr_inside, .int tr_night, .int tr_minute, .int tr_tasted, .int tr_lastCook, .int tr_stirred]), (tr0, kI k 6 trf0), (tr1, kI k 6 trf1), (tr2, kI k 6 trf2), (tr3, kI k 6 trf3), (tr4, kI k 6 trf4), (tr5, kI k 6 trf5), (tr6, kI k 6 trf6), (nw, kO 4 [.ref nw0, .ref nw1, .ref nw2, .ref nw3, .ref nw4, .ref nw5, .ref nw6, .int nw_inside, .int 0, .int nw_minute, .int 0, .int nw_lastCook, .int nw_stirred]), (nw0, kI k 6 nwf0), (nw1, kI k 6 nwf1), (nw2, kI k 6 nwf2), (nw3, kI k 6 nwf3), (nw4, kI k 6 nwf4), (nw5, kI k 6 nwf5), (nw6, kI k 6 nwf6)] sz) := by
  refine Met.ofW (cc := cX8_years) (maxL := 5) (ret := (some .int)) (by decide) rfl ?_
  intro p e s m args below meth c s₁ B hml hv
  obtain ⟨hav, hsz, hP, hK, hD0, hE⟩ := hv
  have hx := B.exec
  have hb := B.bytes
  have hr := B.returns
  have hts := atoms_spec (ws := wsX8_years) B.pre
  have hown : s.vm.findClass RX8 = some m.cls := findClass_of_methodNamed B.named
  have hlocks := B.notSynchronized
  have hi4 : ∀ w ∈ u_ws RX4 TX4 13, w ∈ wsX8_years := by decide +kernel
  have hi7 : ∀ w ∈ u_ws RX7 TX7 13, w ∈ wsX8_years := by decide +kernel
  have hi8 : ∀ w ∈ u_ws RX8 TX8 11, w ∈ wsX8_years := by decide +kernel
  have lc274 := hts (.constant RX8 274 (-100000)) (by decide +kernel)
  have lf43 := hts (.fieldLink RX8 43 "LastCook" "trial" "LLastCook$Road;") (by decide +kernel)
  have lf39 := hts (.fieldLink RX8 39 "LastCook" "now" "LLastCook$Road;") (by decide +kernel)
  have lf275 := hts (.fieldLink RX8 275 "LastCook" "drawn" "J") (by decide +kernel)
  have lf173 := hts (.fieldLink RX8 173 "LastCook$Road" "night" "I") (by decide +kernel)
  have lf176 := hts (.fieldLink RX8 176 "LastCook$Road" "tasted" "I") (by decide +kernel)
  have lf19 := hts (.fieldLink RX8 19 "LastCook" "told" "LLastCook$Told;") (by decide +kernel)
  have lf210 := hts (.fieldLink RX8 210 "LastCook$Told" "guests" "I") (by decide +kernel)
  subst hsz
  have hD := hD0.self (sz := s.heap.size)
  generalize hAe : va_A [(x, kO 8 [x_tape, .ref td, x_draft, x_lines, x_draftLines, .ref nw, .ref tr, x_sights, x_past, x_marks, .long x_drawn]), (td, kO 7 [td_names, td_kinds, td_yards, td_paces, td_skills, td_snow, td_law, .int 0, .int 0, .int td_bend, .int td_hour, .int td_bendTold, .int td_hourTold]), (tr, kO 4 [.ref tr0, .ref tr1, .ref tr2, .ref tr3, .ref tr4, .ref tr5, .ref tr6, .int tr_inside, .int tr_night, .int tr_minute, .int tr_tasted, .int tr_lastCook, .int tr_stirred]), (tr0, kI k 6 trf0), (tr1, kI k 6 trf1), (tr2, kI k 6 trf2), (tr3, kI k 6 trf3), (tr4, kI k 6 trf4), (tr5, kI k 6 trf5), (tr6, kI k 6 trf6), (nw, kO 4 [.ref nw0, .ref nw1, .ref nw2, .ref nw3, .ref nw4, .ref nw5, .ref nw6, .int nw_inside, .int 0, .int nw_minute, .int 0, .int nw_lastCook, .int nw_stirred]), (nw0, kI k 6 nwf0), (nw1, kI k 6 nwf1), (nw2, kI k 6 nwf2), (nw3, kI k 6 nwf3), (nw4, kI k 6 nwf4), (nw5, kI k 6 nwf5), (nw6, kI k 6 nwf6)] s.heap.size = A at hD ⊢
  have hA : ∀ q : Nat, s.heap.size ≤ q → A q := fun q h => by rw [← hAe]; exact Or.inr h
  have hS : va_S A s.heap s.heap [] := va_S.rf
  have hl := lv_entry ([.ref x, .int q1, .int q2, .int q3]) (n := 5) (Nat.le_of_ble_eq_true rfl)
  rw [show entryFrame m args 5 = entryFrame m ([.ref x, .int q1, .int q2, .int q3] : List Value).toArray 5 by rw [hav], lg_entry_eq]
  generalize (lg_sl ([.ref x, .int q1, .int q2, .int q3]) ++ List.replicate (5 - (lg_sl ([.ref x, .int q1, .int q2, .int q3])).length) Slot.unset).toArray = ls at hl ⊢
  have hl : lv_has ls 5 [(0, .ref x), (1, .int q1), (2, .int q2), (3, .int q3)] := hl
  obtain ⟨R, hR⟩ : ∃ R, R = (headSpec wsX8_years ({ frames := 5, cells := 0, slots := 0, locals := 350 } : Room)).room := ⟨_, rfl⟩
  rw [← hR]
  generalize hQ : MQ below _ args s 0 0 A = Q
  replace hQ := hQ.symm
  obtain ⟨H, hH⟩ : ∃ H, H = s.heap := ⟨_, rfl⟩
  rw [← hH] at hP ⊢
  have hS : va_S A s.heap H [] := by rw [hH]; exact hS
  refine lv_iload_n hx hb dX8_years_0 rfl (lv_at hl 1 rfl) ?_
  refine lv_iconst (v := 0) hx hb dX8_years_1 (by decide) ?_
  refine lv_sipush (v := 9999) hx hb dX8_years_2 (by decide) ?_
  refine kz_Si (As := [.int q1, .int 0, .int 9999]) (rest := []) (wc := []) (wr := [(x, kO 8 [x_tape, .ref td, x_draft, x_lines, x_draftLines, .ref nw, .ref tr, x_sights, x_past, x_marks, .long x_drawn]), (td, kO 7 [td_names, td_kinds, td_yards, td_paces, td_skills, td_snow, td_law, .int 0, .int 0, .int td_bend, .int td_hour, .int td_bendTold, .int td_hourTold]), (tr, kO 4 [.ref tr0, .ref tr1, .ref tr2, .ref tr3, .ref tr4, .ref tr5, .ref tr6, .int tr_inside, .int tr_night, .int tr_minute, .int tr_tasted, .int tr_lastCook, .int tr_stirred]), (tr0, kI k 6 trf0), (tr1, kI k 6 trf1), (tr2, kI k 6 trf2), (tr3, kI k 6 trf3), (tr4, kI k 6 trf4), (tr5, kI k 6 trf5), (tr6, kI k 6 trf6), (nw, kO 4 [.ref nw0, .ref nw1, .ref nw2, .ref nw3, .ref nw4, .ref nw5, .ref nw6, .int nw_inside, .int 0, .int nw_minute, .int 0, .int nw_lastCook, .int nw_stirred]), (nw0, kI k 6 nwf0), (nw1, kI k 6 nwf1), (nw2, kI k 6 nwf2), (nw3, kI k 6 nwf3), (nw4, kI k 6 nwf4), (nw5, kI k 6 nwf5), (nw6, kI k 6 nwf6)]) ⟨hx, hb, hml, hown, hts⟩ hK hE hP hD hS hA (mX8_isWithin l D k H.size q1 0 9999) (va_cwS 3 hts gX8_years_X8_isWithin rfl rfl rfl (by decide +kernel) (by rw [hR]; exact ⟨Nat.le_of_ble_eq_true rfl, Nat.le_of_ble_eq_true rfl⟩)) [] [0, 1, 2, 3, 4, 5, 6, 7, 8, 9, 10, 11, 12, 13, 14, 15, 16, 17] rfl rfl (by decide) (by decide) (by decide) rfl hl.1 rfl (Nat.le_of_ble_eq_true rfl) dX8_years_5 (by rw [hR]; exact ⟨Nat.le_of_ble_eq_true rfl, Nat.le_of_ble_eq_true rfl⟩) (fun r1 u1 H locs hw1 hP hD hS => ?_)
  try dsimp only at hw1
  obtain rfl : r1 = bz (0 ≤ q1 ∧ q1 ≤ 9999) := hw1
  have hP : va_P D vwCl [(x, kO 8 [x_tape, .ref td, x_draft, x_lines, x_draftLines, .ref nw, .ref tr, x_sights, x_past, x_marks, .long x_drawn]), (td, kO 7 [td_names, td_kinds, td_yards, td_paces, td_skills, td_snow, td_law, .int 0, .int 0, .int td_bend, .int td_hour, .int td_bendTold, .int td_hourTold]), (tr, kO 4 [.ref tr0, .ref tr1, .ref tr2, .ref tr3, .ref tr4, .ref tr5, .ref tr6, .int tr_inside, .int tr_night, .int tr_minute, .int tr_tasted, .int tr_lastCook, .int tr_stirred]), (tr0, kI k 6 trf0), (tr1, kI k 6 trf1), (tr2, kI k 6 trf2), (tr3, kI k 6 trf3), (tr4, kI k 6 trf4), (tr5, kI k 6 trf5), (tr6, kI k 6 trf6), (nw, kO 4 [.ref nw0, .ref nw1, .ref nw2, .ref nw3, .ref nw4, .ref nw5, .ref nw6, .int nw_inside, .int 0, .int nw_minute, .int 0, .int nw_lastCook, .int nw_stirred]), (nw0, kI k 6 nwf0), (nw1, kI k 6 nwf1), (nw2, kI k 6 nwf2), (nw3, kI k 6 nwf3), (nw4, kI k 6 nwf4), (nw5, kI k 6 nwf5), (nw6, kI k 6 nwf6)] H := hP
  have hD : va_D A [(x, kO 8 [x_tape, .ref td, x_draft, x_lines, x_draftLines, .ref nw, .ref tr, x_sights, x_past, x_marks, .long x_drawn]), (td, kO 7 [td_names, td_kinds, td_yards, td_paces, td_skills, td_snow, td_law, .int 0, .int 0, .int td_bend, .int td_hour, .int td_bendTold, .int td_hourTold]), (tr, kO 4 [.ref tr0, .ref tr1, .ref tr2, .ref tr3, .ref tr4, .ref tr5, .ref tr6, .int tr_inside, .int tr_night, .int tr_minute, .int tr_tasted, .int tr_lastCook, .int tr_stirred]), (tr0, kI k 6 trf0), (tr1, kI k 6 trf1), (tr2, kI k 6 trf2), (tr3, kI k 6 trf3), (tr4, kI k 6 trf4), (tr5, kI k 6 trf5), (tr6, kI k 6 trf6), (nw, kO 4 [.ref nw0, .ref nw1, .ref nw2, .ref nw3, .ref nw4, .ref nw5, .ref nw6, .int nw_inside, .int 0, .int nw_minute, .int 0, .int nw_lastCook, .int nw_stirred]), (nw0, kI k 6 nwf0), (nw1, kI k 6 nwf1), (nw2, kI k 6 nwf2), (nw3, kI k 6 nwf3), (nw4, kI k 6 nwf4), (nw5, kI k 6 nwf5), (nw6, kI k 6 nwf6)] := hD
  refine lv_if_eq (tgt := 30) hx hb dX8_years_8 (by decide) (fun c_2 => ?_) (fun c_2 => ?_)
  · skip
    refine lv_ldcw hx hb hown lc274 dX8_years_30 ?_
    rw [hQ]
    have hP9 := hP.sub (ws' := []) [] rfl
    have hD9 := hD.sub (ws' := []) [] (by decide) rfl
    exact W.iret (v := (-100000)) hx hb hr (fun zt ht hW => ⟨⟨(-100000), (), rfl, (by unfold aY; rw [if_neg (bz_0 c_2)]), by rw [ht]; exact hP9, hD9⟩, hS.F ht⟩) hS.2.2 dX8_years_33
  · skip
    refine lv_iload_n hx hb dX8_years_11 rfl (lv_at hl 2 rfl) ?_
    refine lv_iconst (v := 1) hx hb dX8_years_12 (by decide) ?_
    refine lv_bipush (v := 99) hx hb dX8_years_13 (by decide) ?_
    refine kz_Si (As := [.int q2, .int 1, .int 99]) (rest := []) (wc := []) (wr := [(x, kO 8 [x_tape, .ref td, x_draft, x_lines, x_draftLines, .ref nw, .ref tr, x_sights, x_past, x_marks, .long x_drawn]), (td, kO 7 [td_names, td_kinds, td_yards, td_paces, td_skills, td_snow, td_law, .int 0, .int 0, .int td_bend, .int td_hour, .int td_bendTold, .int td_hourTold]), (tr, kO 4 [.ref tr0, .ref tr1, .ref tr2, .ref tr3, .ref tr4, .ref tr5, .ref tr6, .int tr_inside, .int tr_night, .int tr_minute, .int tr_tasted, .int tr_lastCook, .int tr_stirred]), (tr0, kI k 6 trf0), (tr1, kI k 6 trf1), (tr2, kI k 6 trf2), (tr3, kI k 6 trf3), (tr4, kI k 6 trf4), (tr5, kI k 6 trf5), (tr6, kI k 6 trf6), (nw, kO 4 [.ref nw0, .ref nw1, .ref nw2, .ref nw3, .ref nw4, .ref nw5, .ref nw6, .int nw_inside, .int 0, .int nw_minute, .int 0, .int nw_lastCook, .int nw_stirred]), (nw0, kI k 6 nwf0), (nw1, kI k 6 nwf1), (nw2, kI k 6 nwf2), (nw3, kI k 6 nwf3), (nw4, kI k 6 nwf4), (nw5, kI k 6 nwf5), (nw6, kI k 6 nwf6)]) ⟨hx, hb, hml, hown, hts⟩ hK hE hP hD hS hA (mX8_isWithin l D k H.size q2 1 99) (va_cwS 3 hts gX8_years_X8_isWithin rfl rfl rfl (by decide +kernel) (by rw [hR]; exact ⟨Nat.le_of_ble_eq_true rfl, Nat.le_of_ble_eq_true rfl⟩)) [] [0, 1, 2, 3, 4, 5, 6, 7, 8, 9, 10, 11, 12, 13, 14, 15, 16, 17] rfl rfl (by decide) (by decide) (by decide) rfl hl.1 rfl (Nat.le_of_ble_eq_true rfl) dX8_years_15 (by rw [hR]; exact ⟨Nat.le_of_ble_eq_true rfl, Nat.le_of_ble_eq_true rfl⟩) (fun r3 u3 H locs hw3 hP hD hS => ?_)
    try dsimp only at hw3
    obtain rfl : r3 = bz (1 ≤ q2 ∧ q2 ≤ 99) := hw3
    have hP : va_P D vwCl [(x, kO 8 [x_tape, .ref td, x_draft, x_lines, x_draftLines, .ref nw, .ref tr, x_sights, x_past, x_marks, .long x_drawn]), (td, kO 7 [td_names, td_kinds, td_yards, td_paces, td_skills, td_snow, td_law, .int 0, .int 0, .int td_bend, .int td_hour, .int td_bendTold, .int td_hourTold]), (tr, kO 4 [.ref tr0, .ref tr1, .ref tr2, .ref tr3, .ref tr4, .ref tr5, .ref tr6, .int tr_inside, .int tr_night, .int tr_minute, .int tr_tasted, .int tr_lastCook, .int tr_stirred]), (tr0, kI k 6 trf0), (tr1, kI k 6 trf1), (tr2, kI k 6 trf2), (tr3, kI k 6 trf3), (tr4, kI k 6 trf4), (tr5, kI k 6 trf5), (tr6, kI k 6 trf6), (nw, kO 4 [.ref nw0, .ref nw1, .ref nw2, .ref nw3, .ref nw4, .ref nw5, .ref nw6, .int nw_inside, .int 0, .int nw_minute, .int 0, .int nw_lastCook, .int nw_stirred]), (nw0, kI k 6 nwf0), (nw1, kI k 6 nwf1), (nw2, kI k 6 nwf2), (nw3, kI k 6 nwf3), (nw4, kI k 6 nwf4), (nw5, kI k 6 nwf5), (nw6, kI k 6 nwf6)] H := hP
    have hD : va_D A [(x, kO 8 [x_tape, .ref td, x_draft, x_lines, x_draftLines, .ref nw, .ref tr, x_sights, x_past, x_marks, .long x_drawn]), (td, kO 7 [td_names, td_kinds, td_yards, td_paces, td_skills, td_snow, td_law, .int 0, .int 0, .int td_bend, .int td_hour, .int td_bendTold, .int td_hourTold]), (tr, kO 4 [.ref tr0, .ref tr1, .ref tr2, .ref tr3, .ref tr4, .ref tr5, .ref tr6, .int tr_inside, .int tr_night, .int tr_minute, .int tr_tasted, .int tr_lastCook, .int tr_stirred]), (tr0, kI k 6 trf0), (tr1, kI k 6 trf1), (tr2, kI k 6 trf2), (tr3, kI k 6 trf3), (tr4, kI k 6 trf4), (tr5, kI k 6 trf5), (tr6, kI k 6 trf6), (nw, kO 4 [.ref nw0, .ref nw1, .ref nw2, .ref nw3, .ref nw4, .ref nw5, .ref nw6, .int nw_inside, .int 0, .int nw_minute, .int 0, .int nw_lastCook, .int nw_stirred]), (nw0, kI k 6 nwf0), (nw1, kI k 6 nwf1), (nw2, kI k 6 nwf2), (nw3, kI k 6 nwf3), (nw4, kI k 6 nwf4), (nw5, kI k 6 nwf5), (nw6, kI k 6 nwf6)] := hD
    refine lv_if_eq (tgt := 30) hx hb dX8_years_18 (by decide) (fun c_4 => ?_) (fun c_4 => ?_)
    · skip
      refine lv_ldcw hx hb hown lc274 dX8_years_30 ?_
      rw [hQ]
      have hP9 := hP.sub (ws' := []) [] rfl
      have hD9 := hD.sub (ws' := []) [] (by decide) rfl
      exact W.iret (v := (-100000)) hx hb hr (fun zt ht hW => ⟨⟨(-100000), (), rfl, (by unfold aY; rw [if_pos (bz_1 c_2), if_neg (bz_0 c_4)]), by rw [ht]; exact hP9, hD9⟩, hS.F ht⟩) hS.2.2 dX8_years_33
    · skip
      obtain ⟨N, hN, eN⟩ := nI_bt (bz_1 c_4) (by decide) 99 (by decide)
      subst eN
      refine lv_iload_n hx hb dX8_years_21 rfl (lv_at hl 3 rfl) ?_
      refine lv_iconst (v := 0) hx hb dX8_years_22 (by decide) ?_
      refine lv_iconst (v := 2) hx hb dX8_years_23 (by decide) ?_
      refine kz_Si (As := [.int q3, .int 0, .int 2]) (rest := []) (wc := []) (wr := [(x, kO 8 [x_tape, .ref td, x_draft, x_lines, x_draftLines, .ref nw, .ref tr, x_sights, x_past, x_marks, .long x_drawn]), (td, kO 7 [td_names, td_kinds, td_yards, td_paces, td_skills, td_snow, td_law, .int 0, .int 0, .int td_bend, .int td_hour, .int td_bendTold, .int td_hourTold]), (tr, kO 4 [.ref tr0, .ref tr1, .ref tr2, .ref tr3, .ref tr4, .ref tr5, .ref tr6, .int tr_inside, .int tr_night, .int tr_minute, .int tr_tasted, .int tr_lastCook, .int tr_stirred]), (tr0, kI k 6 trf0), (tr1, kI k 6 trf1), (tr2, kI k 6 trf2), (tr3, kI k 6 trf3), (tr4, kI k 6 trf4), (tr5, kI k 6 trf5), (tr6, kI k 6 trf6), (nw, kO 4 [.ref nw0, .ref nw1, .ref nw2, .ref nw3, .ref nw4, .ref nw5, .ref nw6, .int nw_inside, .int 0, .int nw_minute, .int 0, .int nw_lastCook, .int nw_stirred]), (nw0, kI k 6 nwf0), (nw1, kI k 6 nwf1), (nw2, kI k 6 nwf2), (nw3, kI k 6 nwf3), (nw4, kI k 6 nwf4), (nw5, kI k 6 nwf5), (nw6, kI k 6 nwf6)]) ⟨hx, hb, hml, hown, hts⟩ hK hE hP hD hS hA (mX8_isWithin l D k H.size q3 0 2) (va_cwS 3 hts gX8_years_X8_isWithin rfl rfl rfl (by decide +kernel) (by rw [hR]; exact ⟨Nat.le_of_ble_eq_true rfl, Nat.le_of_ble_eq_true rfl⟩)) [] [0, 1, 2, 3, 4, 5, 6, 7, 8, 9, 10, 11, 12, 13, 14, 15, 16, 17] rfl rfl (by decide) (by decide) (by decide) rfl hl.1 rfl (Nat.le_of_ble_eq_true rfl) dX8_years_24 (by rw [hR]; exact ⟨Nat.le_of_ble_eq_true rfl, Nat.le_of_ble_eq_true rfl⟩) (fun r5 u5 H locs hw5 hP hD hS => ?_)
      try dsimp only at hw5
      obtain rfl : r5 = bz (0 ≤ q3 ∧ q3 ≤ 2) := hw5
      have hP : va_P D vwCl [(x, kO 8 [x_tape, .ref td, x_draft, x_lines, x_draftLines, .ref nw, .ref tr, x_sights, x_past, x_marks, .long x_drawn]), (td, kO 7 [td_names, td_kinds, td_yards, td_paces, td_skills, td_snow, td_law, .int 0, .int 0, .int td_bend, .int td_hour, .int td_bendTold, .int td_hourTold]), (tr, kO 4 [.ref tr0, .ref tr1, .ref tr2, .ref tr3, .ref tr4, .ref tr5, .ref tr6, .int tr_inside, .int tr_night, .int tr_minute, .int tr_tasted, .int tr_lastCook, .int tr_stirred]), (tr0, kI k 6 trf0), (tr1, kI k 6 trf1), (tr2, kI k 6 trf2), (tr3, kI k 6 trf3), (tr4, kI k 6 trf4), (tr5, kI k 6 trf5), (tr6, kI k 6 trf6), (nw, kO 4 [.ref nw0, .ref nw1, .ref nw2, .ref nw3, .ref nw4, .ref nw5, .ref nw6, .int nw_inside, .int 0, .int nw_minute, .int 0, .int nw_lastCook, .int nw_stirred]), (nw0, kI k 6 nwf0), (nw1, kI k 6 nwf1), (nw2, kI k 6 nwf2), (nw3, kI k 6 nwf3), (nw4, kI k 6 nwf4), (nw5, kI k 6 nwf5), (nw6, kI k 6 nwf6)] H := hP
      have hD : va_D A [(x, kO 8 [x_tape, .ref td, x_draft, x_lines, x_draftLines, .ref nw, .ref tr, x_sights, x_past, x_marks, .long x_drawn]), (td, kO 7 [td_names, td_kinds, td_yards, td_paces, td_skills, td_snow, td_law, .int 0, .int 0, .int td_bend, .int td_hour, .int td_bendTold, .int td_hourTold]), (tr, kO 4 [.ref tr0, .ref tr1, .ref tr2, .ref tr3, .ref tr4, .ref tr5, .ref tr6, .int tr_inside, .int tr_night, .int tr_minute, .int tr_tasted, .int tr_lastCook, .int tr_stirred]), (tr0, kI k 6 trf0), (tr1, kI k 6 trf1), (tr2, kI k 6 trf2), (tr3, kI k 6 trf3), (tr4, kI k 6 trf4), (tr5, kI k 6 trf5), (tr6, kI k 6 trf6), (nw, kO 4 [.ref nw0, .ref nw1, .ref nw2, .ref nw3, .ref nw4, .ref nw5, .ref nw6, .int nw_inside, .int 0, .int nw_minute, .int 0, .int nw_lastCook, .int nw_stirred]), (nw0, kI k 6 nwf0), (nw1, kI k 6 nwf1), (nw2, kI k 6 nwf2), (nw3, kI k 6 nwf3), (nw4, kI k 6 nwf4), (nw5, kI k 6 nwf5), (nw6, kI k 6 nwf6)] := hD
      refine lv_if_ne (tgt := 34) hx hb dX8_years_27 (by decide) (fun c_6 => ?_) (fun c_6 => ?_)
      · skip
        refine lv_aload_n hx hb dX8_years_34 rfl (lv_at hl 0 rfl) ?_
        refine va_get (D := D) (ci := 8) (v := .ref tr) (C := RX8) (T := TX8) (N := 11) hx hb hts hi8 hown hK hP 0 rfl rfl 6 (by decide) lf43 (fun _ h9 => h9) rfl dX8_years_35 ?_
        refine lv_aload_n hx hb dX8_years_38 rfl (lv_at hl 0 rfl) ?_
        refine va_get (D := D) (ci := 8) (v := .ref nw) (C := RX8) (T := TX8) (N := 11) hx hb hts hi8 hown hK hP 0 rfl rfl 5 (by decide) lf39 (fun _ h9 => h9) rfl dX8_years_39 ?_
        refine kz_Vv (As := [.ref nw]) (rest := []) (wc := [(tr, kO 4 [.ref tr0, .ref tr1, .ref tr2, .ref tr3, .ref tr4, .ref tr5, .ref tr6, .int tr_inside, .int tr_night, .int tr_minute, .int tr_tasted, .int tr_lastCook, .int tr_stirred]), (tr0, kI k 6 trf0), (tr1, kI k 6 trf1), (tr2, kI k 6 trf2), (tr3, kI k 6 trf3), (tr4, kI k 6 trf4), (tr5, kI k 6 trf5), (tr6, kI k 6 trf6), (nw, kO 4 [.ref nw0, .ref nw1, .ref nw2, .ref nw3, .ref nw4, .ref nw5, .ref nw6, .int nw_inside, .int 0, .int nw_minute, .int 0, .int nw_lastCook, .int nw_stirred]), (nw0, kI k 6 nwf0), (nw1, kI k 6 nwf1), (nw2, kI k 6 nwf2), (nw3, kI k 6 nwf3), (nw4, kI k 6 nwf4), (nw5, kI k 6 nwf5), (nw6, kI k 6 nwf6)]) (wr := [(x, kO 8 [x_tape, .ref td, x_draft, x_lines, x_draftLines, .ref nw, .ref tr, x_sights, x_past, x_marks, .long x_drawn]), (td, kO 7 [td_names, td_kinds, td_yards, td_paces, td_skills, td_snow, td_law, .int 0, .int 0, .int td_bend, .int td_hour, .int td_bendTold, .int td_hourTold])]) ⟨hx, hb, hml, hown, hts⟩ hK hE hP hD hS hA (mX4_copyFrom l D k H.size tr nw tr0 tr1 tr2 tr3 tr4 tr5 tr6 tr_inside tr_night tr_minute tr_tasted tr_lastCook tr_stirred trf0 trf1 trf2 trf3 trf4 trf5 trf6 nw0 nw1 nw2 nw3 nw4 nw5 nw6 nw_inside 0 nw_minute 0 nw_lastCook nw_stirred nwf0 nwf1 nwf2 nwf3 nwf4 nwf5 nwf6) (cwV 1 hts gX8_years_X4_copyFrom rfl rfl rfl (by decide +kernel) (by rw [hR]; exact ⟨Nat.le_of_ble_eq_true rfl, Nat.le_of_ble_eq_true rfl⟩)) [2, 3, 4, 5, 6, 7, 8, 9, 10, 11, 12, 13, 14, 15, 16, 17] [0, 1] rfl rfl (by decide) (by decide) (by decide) 0 rfl rfl rfl hl.1 rfl (Nat.le_of_ble_eq_true rfl) dX8_years_42 (by rw [hR]; exact ⟨Nat.le_of_ble_eq_true rfl, Nat.le_of_ble_eq_true rfl⟩) (fun u7 H locs hw7 hP hD hS => ?_)
        have hP : va_P D vwCl [(x, kO 8 [x_tape, .ref td, x_draft, x_lines, x_draftLines, .ref nw, .ref tr, x_sights, x_past, x_marks, .long x_drawn]), (td, kO 7 [td_names, td_kinds, td_yards, td_paces, td_skills, td_snow, td_law, .int 0, .int 0, .int td_bend, .int td_hour, .int td_bendTold, .int td_hourTold]), (tr, kO 4 [.ref tr0, .ref tr1, .ref tr2, .ref tr3, .ref tr4, .ref tr5, .ref tr6, .int nw_inside, .int 0, .int nw_minute, .int 0, .int nw_lastCook, .int tr_stirred]), (tr0, kI k 6 (va_cpy nwf0 trf0 0 0 6)), (tr1, kI k 6 (va_cpy nwf1 trf1 0 0 6)), (tr2, kI k 6 (va_cpy nwf2 trf2 0 0 6)), (tr3, kI k 6 (va_cpy nwf3 trf3 0 0 6)), (tr4, kI k 6 (va_cpy nwf4 trf4 0 0 6)), (tr5, kI k 6 (va_cpy nwf5 trf5 0 0 6)), (tr6, kI k 6 (va_cpy nwf6 trf6 0 0 6)), (nw, kO 4 [.ref nw0, .ref nw1, .ref nw2, .ref nw3, .ref nw4, .ref nw5, .ref nw6, .int nw_inside, .int 0, .int nw_minute, .int 0, .int nw_lastCook, .int nw_stirred]), (nw0, kI k 6 nwf0), (nw1, kI k 6 nwf1), (nw2, kI k 6 nwf2), (nw3, kI k 6 nwf3), (nw4, kI k 6 nwf4), (nw5, kI k 6 nwf5), (nw6, kI k 6 nwf6)] H := hP
        have hD : va_D A [(x, kO 8 [x_tape, .ref td, x_draft, x_lines, x_draftLines, .ref nw, .ref tr, x_sights, x_past, x_marks, .long x_drawn]), (td, kO 7 [td_names, td_kinds, td_yards, td_paces, td_skills, td_snow, td_law, .int 0, .int 0, .int td_bend, .int td_hour, .int td_bendTold, .int td_hourTold]), (tr, kO 4 [.ref tr0, .ref tr1, .ref tr2, .ref tr3, .ref tr4, .ref tr5, .ref tr6, .int nw_inside, .int 0, .int nw_minute, .int 0, .int nw_lastCook, .int tr_stirred]), (tr0, kI k 6 (va_cpy nwf0 trf0 0 0 6)), (tr1, kI k 6 (va_cpy nwf1 trf1 0 0 6)), (tr2, kI k 6 (va_cpy nwf2 trf2 0 0 6)), (tr3, kI k 6 (va_cpy nwf3 trf3 0 0 6)), (tr4, kI k 6 (va_cpy nwf4 trf4 0 0 6)), (tr5, kI k 6 (va_cpy nwf5 trf5 0 0 6)), (tr6, kI k 6 (va_cpy nwf6 trf6 0 0 6)), (nw, kO 4 [.ref nw0, .ref nw1, .ref nw2, .ref nw3, .ref nw4, .ref nw5, .ref nw6, .int nw_inside, .int 0, .int nw_minute, .int 0, .int nw_lastCook, .int nw_stirred]), (nw0, kI k 6 nwf0), (nw1, kI k 6 nwf1), (nw2, kI k 6 nwf2), (nw3, kI k 6 nwf3), (nw4, kI k 6 nwf4), (nw5, kI k 6 nwf5), (nw6, kI k 6 nwf6)] := hD
        refine lv_aload_n hx hb dX8_years_45 rfl (lv_at hl 0 rfl) ?_
        refine lv_iload_n hx hb dX8_years_46 rfl (lv_at hl 1 rfl) ?_
        refine lv_i2l hx hb dX8_years_47 rfl ?_
        refine va_put (D := D) (ci := 8) (v := .long q1.toInt64) (ty := .long) (C := RX8) (T := TX8) (N := 11) hx hb hts hi8 tyX8 tyX8_ok nmX8 hown hK hP hD hS 0 rfl rfl 10 (by decide) lf275 (fun _ h9 => h9) rfl (by decide +kernel) rfl rfl (Nat.le_of_ble_eq_true rfl) dX8_years_48 (fun H locs hP hD hS => ?_)
        have hP : va_P D vwCl [(x, kO 8 [x_tape, .ref td, x_draft, x_lines, x_draftLines, .ref nw, .ref tr, x_sights, x_past, x_marks, .long q1.toInt64]), (td, kO 7 [td_names, td_kinds, td_yards, td_paces, td_skills, td_snow, td_law, .int 0, .int 0, .int td_bend, .int td_hour, .int td_bendTold, .int td_hourTold]), (tr, kO 4 [.ref tr0, .ref tr1, .ref tr2, .ref tr3, .ref tr4, .ref tr5, .ref tr6, .int nw_inside, .int 0, .int nw_minute, .int 0, .int nw_lastCook, .int tr_stirred]), (tr0, kI k 6 (va_cpy nwf0 trf0 0 0 6)), (tr1, kI k 6 (va_cpy nwf1 trf1 0 0 6)), (tr2, kI k 6 (va_cpy nwf2 trf2 0 0 6)), (tr3, kI k 6 (va_cpy nwf3 trf3 0 0 6)), (tr4, kI k 6 (va_cpy nwf4 trf4 0 0 6)), (tr5, kI k 6 (va_cpy nwf5 trf5 0 0 6)), (tr6, kI k 6 (va_cpy nwf6 trf6 0 0 6)), (nw, kO 4 [.ref nw0, .ref nw1, .ref nw2, .ref nw3, .ref nw4, .ref nw5, .ref nw6, .int nw_inside, .int 0, .int nw_minute, .int 0, .int nw_lastCook, .int nw_stirred]), (nw0, kI k 6 nwf0), (nw1, kI k 6 nwf1), (nw2, kI k 6 nwf2), (nw3, kI k 6 nwf3), (nw4, kI k 6 nwf4), (nw5, kI k 6 nwf5), (nw6, kI k 6 nwf6)] H := hP
        have hD : va_D A [(x, kO 8 [x_tape, .ref td, x_draft, x_lines, x_draftLines, .ref nw, .ref tr, x_sights, x_past, x_marks, .long q1.toInt64]), (td, kO 7 [td_names, td_kinds, td_yards, td_paces, td_skills, td_snow, td_law, .int 0, .int 0, .int td_bend, .int td_hour, .int td_bendTold, .int td_hourTold]), (tr, kO 4 [.ref tr0, .ref tr1, .ref tr2, .ref tr3, .ref tr4, .ref tr5, .ref tr6, .int nw_inside, .int 0, .int nw_minute, .int 0, .int nw_lastCook, .int tr_stirred]), (tr0, kI k 6 (va_cpy nwf0 trf0 0 0 6)), (tr1, kI k 6 (va_cpy nwf1 trf1 0 0 6)), (tr2, kI k 6 (va_cpy nwf2 trf2 0 0 6)), (tr3, kI k 6 (va_cpy nwf3 trf3 0 0 6)), (tr4, kI k 6 (va_cpy nwf4 trf4 0 0 6)), (tr5, kI k 6 (va_cpy nwf5 trf5 0 0 6)), (tr6, kI k 6 (va_cpy nwf6 trf6 0 0 6)), (nw, kO 4 [.ref nw0, .ref nw1, .ref nw2, .ref nw3, .ref nw4, .ref nw5, .ref nw6, .int nw_inside, .int 0, .int nw_minute, .int 0, .int nw_lastCook, .int nw_stirred]), (nw0, kI k 6 nwf0), (nw1, kI k 6 nwf1), (nw2, kI k 6 nwf2), (nw3, kI k 6 nwf3), (nw4, kI k 6 nwf4), (nw5, kI k 6 nwf5), (nw6, kI k 6 nwf6)] := hD
        refine lv_iconst (v := 0) hx hb dX8_years_51 (by decide) ?_
        refine lv_istore (lv' := [(4, .int 0), (0, .ref x), (1, .int q1), (2, .int (nI N)), (3, .int q3)]) hx hb dX8_years_52 hl (by decide) rfl (fun ls hl => ?_)
        have hloop54 : ∀ (n : Nat) (j : Nat) (hm : Int32) (hs : Int32) (hd : Int64), N - j < n → (j ≤ N) → ∀ (H : Heap) (locs : List Loc) (ls : Array Slot), va_P D vwCl [(x, kO 8 [x_tape, .ref td, x_draft, x_lines, x_draftLines, .ref nw, .ref tr, x_sights, x_past, x_marks, .long hd]), (td, kO 7 [td_names, td_kinds, td_yards, td_paces, td_skills, td_snow, td_law, .int 0, .int 0, .int td_bend, .int td_hour, .int td_bendTold, .int td_hourTold]), (tr, kO 4 [.ref tr0, .ref tr1, .ref tr2, .ref tr3, .ref tr4, .ref tr5, .ref tr6, .int nw_inside, .int 0, .int hm, .int 0, .int nw_lastCook, .int hs]), (tr0, kI k 6 (va_cpy nwf0 trf0 0 0 6)), (tr1, kI k 6 (va_cpy nwf1 trf1 0 0 6)), (tr2, kI k 6 (va_cpy nwf2 trf2 0 0 6)), (tr3, kI k 6 (va_cpy nwf3 trf3 0 0 6)), (tr4, kI k 6 (va_cpy nwf4 trf4 0 0 6)), (tr5, kI k 6 (va_cpy nwf5 trf5 0 0 6)), (tr6, kI k 6 (va_cpy nwf6 trf6 0 0 6)), (nw, kO 4 [.ref nw0, .ref nw1, .ref nw2, .ref nw3, .ref nw4, .ref nw5, .ref nw6, .int nw_inside, .int 0, .int nw_minute, .int 0, .int nw_lastCook, .int nw_stirred]), (nw0, kI k 6 nwf0), (nw1, kI k 6 nwf1), (nw2, kI k 6 nwf2), (nw3, kI k 6 nwf3), (nw4, kI k 6 nwf4), (nw5, kI k 6 nwf5), (nw6, kI k 6 nwf6)] H → va_D A [(x, kO 8 [x_tape, .ref td, x_draft, x_lines, x_draftLines, .ref nw, .ref tr, x_sights, x_past, x_marks, .long hd]), (td, kO 7 [td_names, td_kinds, td_yards, td_paces, td_skills, td_snow, td_law, .int 0, .int 0, .int td_bend, .int td_hour, .int td_bendTold, .int td_hourTold]), (tr, kO 4 [.ref tr0, .ref tr1, .ref tr2, .ref tr3, .ref tr4, .ref tr5, .ref tr6, .int nw_inside, .int 0, .int hm, .int 0, .int nw_lastCook, .int hs]), (tr0, kI k 6 (va_cpy nwf0 trf0 0 0 6)), (tr1, kI k 6 (va_cpy nwf1 trf1 0 0 6)), (tr2, kI k 6 (va_cpy nwf2 trf2 0 0 6)), (tr3, kI k 6 (va_cpy nwf3 trf3 0 0 6)), (tr4, kI k 6 (va_cpy nwf4 trf4 0 0 6)), (tr5, kI k 6 (va_cpy nwf5 trf5 0 0 6)), (tr6, kI k 6 (va_cpy nwf6 trf6 0 0 6)), (nw, kO 4 [.ref nw0, .ref nw1, .ref nw2, .ref nw3, .ref nw4, .ref nw5, .ref nw6, .int nw_inside, .int 0, .int nw_minute, .int 0, .int nw_lastCook, .int nw_stirred]), (nw0, kI k 6 nwf0), (nw1, kI k 6 nwf1), (nw2, kI k 6 nwf2), (nw3, kI k 6 nwf3), (nw4, kI k 6 nwf4), (nw5, kI k 6 nwf5), (nw6, kI k 6 nwf6)] → va_S A s.heap H locs → lv_has ls 5 [(4, .int (nI j)), (0, .ref x), (1, .int q1), (2, .int (nI N)), (3, .int q3)] → W p l e R s m args below meth c H locs 0 0 Q (F0 m 54 ls []) := by
          intro n54
          induction n54 with
          | zero => intro j hm hs hd hm; exact absurd hm (Nat.not_lt_zero _)
          | succ n54 ih54 =>
            intro j hm hs hd hm54 hj H locs ls hP hD hS hl
            refine lv_iload hx hb dX8_years_54 (lv_at hl 0 rfl) ?_
            refine lv_iload_n hx hb dX8_years_56 rfl (lv_at hl 3 rfl) ?_
            refine lv_icmp_ge (tgt := 82) hx hb dX8_years_57 (by decide) (fun c_8 => ?_) (fun c_8 => ?_)
            · skip
              have k_8 : N ≤ j := (nI_leI (a := N) (b := j) (by omega) (by omega)).mp c_8
              refine lv_iload_n hx hb dX8_years_82 rfl (lv_at hl 4 rfl) ?_
              by_cases w9_0 : q3 = 0
              · subst w9_0
                refine lv_lookup (off := 25) (tgt := 108) hx hb dX8_years_83 (by decide) (by decide) (by decide) ?_
                refine lv_aload_n hx hb dX8_years_108 rfl (lv_at hl 1 rfl) ?_
                refine va_get (D := D) (ci := 8) (v := .ref tr) (C := RX8) (T := TX8) (N := 11) hx hb hts hi8 hown hK hP 0 rfl rfl 6 (by decide) lf43 (fun _ h9 => h9) rfl dX8_years_109 ?_
                refine va_get (D := D) (ci := 4) (v := .int 0) (C := RX4) (T := TX4) (N := 13) hx hb hts hi4 hown hK hP 2 rfl rfl 8 (by decide) lf173 (fun _ h9 => h9) rfl dX8_years_112 ?_
                refine lv_aload_n hx hb dX8_years_115 rfl (lv_at hl 1 rfl) ?_
                refine va_get (D := D) (ci := 8) (v := .ref nw) (C := RX8) (T := TX8) (N := 11) hx hb hts hi8 hown hK hP 0 rfl rfl 5 (by decide) lf39 (fun _ h9 => h9) rfl dX8_years_116 ?_
                refine va_get (D := D) (ci := 4) (v := .int 0) (C := RX4) (T := TX4) (N := 13) hx hb hts hi4 hown hK hP 10 rfl rfl 8 (by decide) lf173 (fun _ h9 => h9) rfl dX8_years_119 ?_
                refine lv_isub hx hb dX8_years_122 ?_
                refine lv_topi (fun x10 ex10 => ?_)
                obtain rfl : x10 = 0 := ex10.trans (by decide)
                rw [hQ]
                have hP9 := hP.sub (ws' := []) [] rfl
                have hD9 := hD.sub (ws' := []) [] (by decide) rfl
                exact W.iret (v := 0) hx hb hr (fun zt ht hW => ⟨⟨0, (), rfl, (by unfold aY; rw [if_pos (bz_1 c_2), if_pos (bz_1 c_4), if_pos (bz_1 c_6)]), by rw [ht]; exact hP9, hD9⟩, hS.F ht⟩) hS.2.2 dX8_years_123
              by_cases w9_1 : q3 = 1
              · subst w9_1
                refine lv_lookup (off := 41) (tgt := 124) hx hb dX8_years_83 (by decide) (by decide) (by decide) ?_
                refine lv_aload_n hx hb dX8_years_124 rfl (lv_at hl 1 rfl) ?_
                refine va_get (D := D) (ci := 8) (v := .ref tr) (C := RX8) (T := TX8) (N := 11) hx hb hts hi8 hown hK hP 0 rfl rfl 6 (by decide) lf43 (fun _ h9 => h9) rfl dX8_years_125 ?_
                refine va_get (D := D) (ci := 4) (v := .int 0) (C := RX4) (T := TX4) (N := 13) hx hb hts hi4 hown hK hP 2 rfl rfl 10 (by decide) lf176 (fun _ h9 => h9) rfl dX8_years_128 ?_
                refine lv_aload_n hx hb dX8_years_131 rfl (lv_at hl 1 rfl) ?_
                refine va_get (D := D) (ci := 8) (v := .ref nw) (C := RX8) (T := TX8) (N := 11) hx hb hts hi8 hown hK hP 0 rfl rfl 5 (by decide) lf39 (fun _ h9 => h9) rfl dX8_years_132 ?_
                refine va_get (D := D) (ci := 4) (v := .int 0) (C := RX4) (T := TX4) (N := 13) hx hb hts hi4 hown hK hP 10 rfl rfl 10 (by decide) lf176 (fun _ h9 => h9) rfl dX8_years_135 ?_
                refine lv_isub hx hb dX8_years_138 ?_
                refine lv_topi (fun x11 ex11 => ?_)
                obtain rfl : x11 = 0 := ex11.trans (by decide)
                rw [hQ]
                have hP9 := hP.sub (ws' := []) [] rfl
                have hD9 := hD.sub (ws' := []) [] (by decide) rfl
                exact W.iret (v := 0) hx hb hr (fun zt ht hW => ⟨⟨0, (), rfl, (by unfold aY; rw [if_pos (bz_1 c_2), if_pos (bz_1 c_4), if_pos (bz_1 c_6)]), by rw [ht]; exact hP9, hD9⟩, hS.F ht⟩) hS.2.2 dX8_years_139
              have z9_0 := lv_neT w9_0 (a := 0) (by decide)
              have z9_1 := lv_neT w9_1 (a := 1) (by decide)
              refine lv_lookup (off := 57) (tgt := 140) hx hb dX8_years_83 (by decide) (by show Op.lookupswitch.offset [(0, 25), (1, 41)] 57 _ = _; rw [lv_osw w9_0 (by decide), lv_osw w9_1 (by decide)]; rfl) (by decide) ?_
              refine lv_aload_n hx hb dX8_years_140 rfl (lv_at hl 1 rfl) ?_
              refine va_get (D := D) (ci := 8) (v := .ref tr) (C := RX8) (T := TX8) (N := 11) hx hb hts hi8 hown hK hP 0 rfl rfl 6 (by decide) lf43 (fun _ h9 => h9) rfl dX8_years_141 ?_
              refine lv_aload_n hx hb dX8_years_144 rfl (lv_at hl 1 rfl) ?_
              refine va_get (D := D) (ci := 8) (v := .ref td) (C := RX8) (T := TX8) (N := 11) hx hb hts hi8 hown hK hP 0 rfl rfl 1 (by decide) lf19 (fun _ h9 => h9) rfl dX8_years_145 ?_
              refine va_get (D := D) (ci := 7) (v := .int 0) (C := RX7) (T := TX7) (N := 13) hx hb hts hi7 hown hK hP 1 rfl rfl 7 (by decide) lf210 (fun _ h9 => h9) rfl dX8_years_148 ?_
              refine lv_sipush (v := 300) hx hb dX8_years_151 (by decide) ?_
              refine kz_Vi (As := [.int 0, .int 300]) (rest := []) (wc := [(tr, kO 4 [.ref tr0, .ref tr1, .ref tr2, .ref tr3, .ref tr4, .ref tr5, .ref tr6, .int nw_inside, .int 0, .int hm, .int 0, .int nw_lastCook, .int hs])]) (wr := [(x, kO 8 [x_tape, .ref td, x_draft, x_lines, x_draftLines, .ref nw, .ref tr, x_sights, x_past, x_marks, .long hd]), (td, kO 7 [td_names, td_kinds, td_yards, td_paces, td_skills, td_snow, td_law, .int 0, .int 0, .int td_bend, .int td_hour, .int td_bendTold, .int td_hourTold]), (tr0, kI k 6 (va_cpy nwf0 trf0 0 0 6)), (tr1, kI k 6 (va_cpy nwf1 trf1 0 0 6)), (tr2, kI k 6 (va_cpy nwf2 trf2 0 0 6)), (tr3, kI k 6 (va_cpy nwf3 trf3 0 0 6)), (tr4, kI k 6 (va_cpy nwf4 trf4 0 0 6)), (tr5, kI k 6 (va_cpy nwf5 trf5 0 0 6)), (tr6, kI k 6 (va_cpy nwf6 trf6 0 0 6)), (nw, kO 4 [.ref nw0, .ref nw1, .ref nw2, .ref nw3, .ref nw4, .ref nw5, .ref nw6, .int nw_inside, .int 0, .int nw_minute, .int 0, .int nw_lastCook, .int nw_stirred]), (nw0, kI k 6 nwf0), (nw1, kI k 6 nwf1), (nw2, kI k 6 nwf2), (nw3, kI k 6 nwf3), (nw4, kI k 6 nwf4), (nw5, kI k 6 nwf5), (nw6, kI k 6 nwf6)]) ⟨hx, hb, hml, hown, hts⟩ hK hE hP hD hS hA (mX4_onRoadWithin l D k H.size tr 300 (.ref tr0) (.ref tr1) (.ref tr2) (.ref tr3) (.ref tr4) (.ref tr5) (.ref tr6) nw_inside 0 hm 0 nw_lastCook hs) (cwV 2 hts gX8_years_X4_onRoadWithin rfl rfl rfl (by decide +kernel) (by rw [hR]; exact ⟨Nat.le_of_ble_eq_true rfl, Nat.le_of_ble_eq_true rfl⟩)) [2] [0, 1, 3, 4, 5, 6, 7, 8, 9, 10, 11, 12, 13, 14, 15, 16, 17] rfl rfl (by decide) (by decide) (by decide) 0 rfl rfl rfl hl.1 rfl (Nat.le_of_ble_eq_true rfl) dX8_years_154 (by rw [hR]; exact ⟨Nat.le_of_ble_eq_true rfl, Nat.le_of_ble_eq_true rfl⟩) (fun r12 u12 H locs hw12 hP hD hS => ?_)
              try dsimp only at hw12
              obtain rfl : r12 = 0 := hw12
              have hP : va_P D vwCl [(x, kO 8 [x_tape, .ref td, x_draft, x_lines, x_draftLines, .ref nw, .ref tr, x_sights, x_past, x_marks, .long hd]), (td, kO 7 [td_names, td_kinds, td_yards, td_paces, td_skills, td_snow, td_law, .int 0, .int 0, .int td_bend, .int td_hour, .int td_bendTold, .int td_hourTold]), (tr0, kI k 6 (va_cpy nwf0 trf0 0 0 6)), (tr1, kI k 6 (va_cpy nwf1 trf1 0 0 6)), (tr2, kI k 6 (va_cpy nwf2 trf2 0 0 6)), (tr3, kI k 6 (va_cpy nwf3 trf3 0 0 6)), (tr4, kI k 6 (va_cpy nwf4 trf4 0 0 6)), (tr5, kI k 6 (va_cpy nwf5 trf5 0 0 6)), (tr6, kI k 6 (va_cpy nwf6 trf6 0 0 6)), (nw, kO 4 [.ref nw0, .ref nw1, .ref nw2, .ref nw3, .ref nw4, .ref nw5, .ref nw6, .int nw_inside, .int 0, .int nw_minute, .int 0, .int nw_lastCook, .int nw_stirred]), (nw0, kI k 6 nwf0), (nw1, kI k 6 nwf1), (nw2, kI k 6 nwf2), (nw3, kI k 6 nwf3), (nw4, kI k 6 nwf4), (nw5, kI k 6 nwf5), (nw6, kI k 6 nwf6), (tr, kO 4 [.ref tr0, .ref tr1, .ref tr2, .ref tr3, .ref tr4, .ref tr5, .ref tr6, .int nw_inside, .int 0, .int hm, .int 0, .int nw_lastCook, .int hs])] H := hP
              have hD : va_D A [(x, kO 8 [x_tape, .ref td, x_draft, x_lines, x_draftLines, .ref nw, .ref tr, x_sights, x_past, x_marks, .long hd]), (td, kO 7 [td_names, td_kinds, td_yards, td_paces, td_skills, td_snow, td_law, .int 0, .int 0, .int td_bend, .int td_hour, .int td_bendTold, .int td_hourTold]), (tr0, kI k 6 (va_cpy nwf0 trf0 0 0 6)), (tr1, kI k 6 (va_cpy nwf1 trf1 0 0 6)), (tr2, kI k 6 (va_cpy nwf2 trf2 0 0 6)), (tr3, kI k 6 (va_cpy nwf3 trf3 0 0 6)), (tr4, kI k 6 (va_cpy nwf4 trf4 0 0 6)), (tr5, kI k 6 (va_cpy nwf5 trf5 0 0 6)), (tr6, kI k 6 (va_cpy nwf6 trf6 0 0 6)), (nw, kO 4 [.ref nw0, .ref nw1, .ref nw2, .ref nw3, .ref nw4, .ref nw5, .ref nw6, .int nw_inside, .int 0, .int nw_minute, .int 0, .int nw_lastCook, .int nw_stirred]), (nw0, kI k 6 nwf0), (nw1, kI k 6 nwf1), (nw2, kI k 6 nwf2), (nw3, kI k 6 nwf3), (nw4, kI k 6 nwf4), (nw5, kI k 6 nwf5), (nw6, kI k 6 nwf6), (tr, kO 4 [.ref tr0, .ref tr1, .ref tr2, .ref tr3, .ref tr4, .ref tr5, .ref tr6, .int nw_inside, .int 0, .int hm, .int 0, .int nw_lastCook, .int hs])] := hD
              rw [hQ]
              have hP9 := hP.sub (ws' := []) [] rfl
              have hD9 := hD.sub (ws' := []) [] (by decide) rfl
              exact W.iret (v := 0) hx hb hr (fun zt ht hW => ⟨⟨0, (), rfl, (by unfold aY; rw [if_pos (bz_1 c_2), if_pos (bz_1 c_4), if_pos (bz_1 c_6)]), by rw [ht]; exact hP9, hD9⟩, hS.F ht⟩) hS.2.2 dX8_years_157
            · skip
              have k_8 : ¬ (N ≤ j) := fun h => c_8 ((nI_leI (a := N) (b := j) (by omega) (by omega)).mpr h)
              refine lv_aload_n hx hb dX8_years_60 rfl (lv_at hl 1 rfl) ?_
              refine kz_Vv (As := []) (rest := []) (wc := [(x, kO 8 [x_tape, .ref td, x_draft, x_lines, x_draftLines, .ref nw, .ref tr, x_sights, x_past, x_marks, .long hd]), (td, kO 7 [td_names, td_kinds, td_yards, td_paces, td_skills, td_snow, td_law, .int 0, .int 0, .int td_bend, .int td_hour, .int td_bendTold, .int td_hourTold])]) (wr := [(tr, kO 4 [.ref tr0, .ref tr1, .ref tr2, .ref tr3, .ref tr4, .ref tr5, .ref tr6, .int nw_inside, .int 0, .int hm, .int 0, .int nw_lastCook, .int hs]), (tr0, kI k 6 (va_cpy nwf0 trf0 0 0 6)), (tr1, kI k 6 (va_cpy nwf1 trf1 0 0 6)), (tr2, kI k 6 (va_cpy nwf2 trf2 0 0 6)), (tr3, kI k 6 (va_cpy nwf3 trf3 0 0 6)), (tr4, kI k 6 (va_cpy nwf4 trf4 0 0 6)), (tr5, kI k 6 (va_cpy nwf5 trf5 0 0 6)), (tr6, kI k 6 (va_cpy nwf6 trf6 0 0 6)), (nw, kO 4 [.ref nw0, .ref nw1, .ref nw2, .ref nw3, .ref nw4, .ref nw5, .ref nw6, .int nw_inside, .int 0, .int nw_minute, .int 0, .int nw_lastCook, .int nw_stirred]), (nw0, kI k 6 nwf0), (nw1, kI k 6 nwf1), (nw2, kI k 6 nwf2), (nw3, kI k 6 nwf3), (nw4, kI k 6 nwf4), (nw5, kI k 6 nwf5), (nw6, kI k 6 nwf6)]) ⟨hx, hb, hml, hown, hts⟩ hK hE hP hD hS hA (mX8_drawDeed l D k H.size x x_tape td x_draft x_lines x_draftLines (.ref nw) (.ref tr) x_sights x_past x_marks hd td_names td_kinds td_yards td_paces td_skills td_snow td_law td_bend td_hour td_bendTold td_hourTold) (cwV 0 hts gX8_years_X8_drawDeed rfl rfl rfl (by decide +kernel) (by rw [hR]; exact ⟨Nat.le_of_ble_eq_true rfl, Nat.le_of_ble_eq_true rfl⟩)) [0, 1] [2, 3, 4, 5, 6, 7, 8, 9, 10, 11, 12, 13, 14, 15, 16, 17] rfl rfl (by decide) (by decide) (by decide) 0 rfl rfl rfl hl.1 rfl (Nat.le_of_ble_eq_true rfl) dX8_years_61 (by rw [hR]; exact ⟨Nat.le_of_ble_eq_true rfl, Nat.le_of_ble_eq_true rfl⟩) (fun u13 H locs hw13 hP hD hS => ?_)
              have hP : va_P D vwCl [(tr, kO 4 [.ref tr0, .ref tr1, .ref tr2, .ref tr3, .ref tr4, .ref tr5, .ref tr6, .int nw_inside, .int 0, .int hm, .int 0, .int nw_lastCook, .int hs]), (tr0, kI k 6 (va_cpy nwf0 trf0 0 0 6)), (tr1, kI k 6 (va_cpy nwf1 trf1 0 0 6)), (tr2, kI k 6 (va_cpy nwf2 trf2 0 0 6)), (tr3, kI k 6 (va_cpy nwf3 trf3 0 0 6)), (tr4, kI k 6 (va_cpy nwf4 trf4 0 0 6)), (tr5, kI k 6 (va_cpy nwf5 trf5 0 0 6)), (tr6, kI k 6 (va_cpy nwf6 trf6 0 0 6)), (nw, kO 4 [.ref nw0, .ref nw1, .ref nw2, .ref nw3, .ref nw4, .ref nw5, .ref nw6, .int nw_inside, .int 0, .int nw_minute, .int 0, .int nw_lastCook, .int nw_stirred]), (nw0, kI k 6 nwf0), (nw1, kI k 6 nwf1), (nw2, kI k 6 nwf2), (nw3, kI k 6 nwf3), (nw4, kI k 6 nwf4), (nw5, kI k 6 nwf5), (nw6, kI k 6 nwf6), (x, kO 8 [x_tape, .ref td, x_draft, x_lines, x_draftLines, .ref nw, .ref tr, x_sights, x_past, x_marks, .long hd]), (td, kO 7 [td_names, td_kinds, td_yards, td_paces, td_skills, td_snow, td_law, .int 0, .int 0, .int td_bend, .int td_hour, .int td_bendTold, .int td_hourTold])] H := hP
              have hD : va_D A [(tr, kO 4 [.ref tr0, .ref tr1, .ref tr2, .ref tr3, .ref tr4, .ref tr5, .ref tr6, .int nw_inside, .int 0, .int hm, .int 0, .int nw_lastCook, .int hs]), (tr0, kI k 6 (va_cpy nwf0 trf0 0 0 6)), (tr1, kI k 6 (va_cpy nwf1 trf1 0 0 6)), (tr2, kI k 6 (va_cpy nwf2 trf2 0 0 6)), (tr3, kI k 6 (va_cpy nwf3 trf3 0 0 6)), (tr4, kI k 6 (va_cpy nwf4 trf4 0 0 6)), (tr5, kI k 6 (va_cpy nwf5 trf5 0 0 6)), (tr6, kI k 6 (va_cpy nwf6 trf6 0 0 6)), (nw, kO 4 [.ref nw0, .ref nw1, .ref nw2, .ref nw3, .ref nw4, .ref nw5, .ref nw6, .int nw_inside, .int 0, .int nw_minute, .int 0, .int nw_lastCook, .int nw_stirred]), (nw0, kI k 6 nwf0), (nw1, kI k 6 nwf1), (nw2, kI k 6 nwf2), (nw3, kI k 6 nwf3), (nw4, kI k 6 nwf4), (nw5, kI k 6 nwf5), (nw6, kI k 6 nwf6), (x, kO 8 [x_tape, .ref td, x_draft, x_lines, x_draftLines, .ref nw, .ref tr, x_sights, x_past, x_marks, .long hd]), (td, kO 7 [td_names, td_kinds, td_yards, td_paces, td_skills, td_snow, td_law, .int 0, .int 0, .int td_bend, .int td_hour, .int td_bendTold, .int td_hourTold])] := hD
              refine lv_aload_n hx hb dX8_years_64 rfl (lv_at hl 1 rfl) ?_
              refine va_get (D := D) (ci := 8) (v := .ref tr) (C := RX8) (T := TX8) (N := 11) hx hb hts hi8 hown hK hP 16 rfl rfl 6 (by decide) lf43 (fun _ h9 => h9) rfl dX8_years_65 ?_
              refine lv_aload_n hx hb dX8_years_68 rfl (lv_at hl 1 rfl) ?_
              refine va_get (D := D) (ci := 8) (v := .ref td) (C := RX8) (T := TX8) (N := 11) hx hb hts hi8 hown hK hP 16 rfl rfl 1 (by decide) lf19 (fun _ h9 => h9) rfl dX8_years_69 ?_
              refine kz_Vi (As := [.ref td]) (rest := []) (wc := [(tr, kO 4 [.ref tr0, .ref tr1, .ref tr2, .ref tr3, .ref tr4, .ref tr5, .ref tr6, .int nw_inside, .int 0, .int hm, .int 0, .int nw_lastCook, .int hs]), (td, kO 7 [td_names, td_kinds, td_yards, td_paces, td_skills, td_snow, td_law, .int 0, .int 0, .int td_bend, .int td_hour, .int td_bendTold, .int td_hourTold])]) (wr := [(tr0, kI k 6 (va_cpy nwf0 trf0 0 0 6)), (tr1, kI k 6 (va_cpy nwf1 trf1 0 0 6)), (tr2, kI k 6 (va_cpy nwf2 trf2 0 0 6)), (tr3, kI k 6 (va_cpy nwf3 trf3 0 0 6)), (tr4, kI k 6 (va_cpy nwf4 trf4 0 0 6)), (tr5, kI k 6 (va_cpy nwf5 trf5 0 0 6)), (tr6, kI k 6 (va_cpy nwf6 trf6 0 0 6)), (nw, kO 4 [.ref nw0, .ref nw1, .ref nw2, .ref nw3, .ref nw4, .ref nw5, .ref nw6, .int nw_inside, .int 0, .int nw_minute, .int 0, .int nw_lastCook, .int nw_stirred]), (nw0, kI k 6 nwf0), (nw1, kI k 6 nwf1), (nw2, kI k 6 nwf2), (nw3, kI k 6 nwf3), (nw4, kI k 6 nwf4), (nw5, kI k 6 nwf5), (nw6, kI k 6 nwf6), (x, kO 8 [x_tape, .ref td, x_draft, x_lines, x_draftLines, .ref nw, .ref tr, x_sights, x_past, x_marks, .long hd])]) ⟨hx, hb, hml, hown, hts⟩ hK hE hP hD hS hA (mX4_pass l D k H.size tr td (.ref tr0) (.ref tr1) (.ref tr2) (.ref tr3) (.ref tr4) (.ref tr5) (.ref tr6) nw_inside 0 hm 0 nw_lastCook hs td_names td_kinds td_yards td_paces td_skills td_snow td_law td_bend td_hour td_bendTold td_hourTold) (cwV 1 hts gX8_years_X4_pass rfl rfl rfl (by decide +kernel) (by rw [hR]; exact ⟨Nat.le_of_ble_eq_true rfl, Nat.le_of_ble_eq_true rfl⟩)) [0, 17] [1, 2, 3, 4, 5, 6, 7, 8, 9, 10, 11, 12, 13, 14, 15, 16] rfl rfl (by decide) (by decide) (by decide) 0 rfl rfl rfl hl.1 rfl (Nat.le_of_ble_eq_true rfl) dX8_years_72 (by rw [hR]; exact ⟨Nat.le_of_ble_eq_true rfl, Nat.le_of_ble_eq_true rfl⟩) (fun r14 u14 H locs hw14 hP hD hS => ?_)
              try dsimp only at hw14
              obtain rfl : r14 = (-1) := hw14
              have hP : va_P D vwCl [(tr0, kI k 6 (va_cpy nwf0 trf0 0 0 6)), (tr1, kI k 6 (va_cpy nwf1 trf1 0 0 6)), (tr2, kI k 6 (va_cpy nwf2 trf2 0 0 6)), (tr3, kI k 6 (va_cpy nwf3 trf3 0 0 6)), (tr4, kI k 6 (va_cpy nwf4 trf4 0 0 6)), (tr5, kI k 6 (va_cpy nwf5 trf5 0 0 6)), (tr6, kI k 6 (va_cpy nwf6 trf6 0 0 6)), (nw, kO 4 [.ref nw0, .ref nw1, .ref nw2, .ref nw3, .ref nw4, .ref nw5, .ref nw6, .int nw_inside, .int 0, .int nw_minute, .int 0, .int nw_lastCook, .int nw_stirred]), (nw0, kI k 6 nwf0), (nw1, kI k 6 nwf1), (nw2, kI k 6 nwf2), (nw3, kI k 6 nwf3), (nw4, kI k 6 nwf4), (nw5, kI k 6 nwf5), (nw6, kI k 6 nwf6), (x, kO 8 [x_tape, .ref td, x_draft, x_lines, x_draftLines, .ref nw, .ref tr, x_sights, x_past, x_marks, .long hd]), (tr, kO 4 [.ref tr0, .ref tr1, .ref tr2, .ref tr3, .ref tr4, .ref tr5, .ref tr6, .int nw_inside, .int 0, .int (hm + 1), .int 0, .int nw_lastCook, .int 0]), (td, kO 7 [td_names, td_kinds, td_yards, td_paces, td_skills, td_snow, td_law, .int 0, .int 0, .int td_bend, .int td_hour, .int td_bendTold, .int td_hourTold])] H := hP
              have hD : va_D A [(tr0, kI k 6 (va_cpy nwf0 trf0 0 0 6)), (tr1, kI k 6 (va_cpy nwf1 trf1 0 0 6)), (tr2, kI k 6 (va_cpy nwf2 trf2 0 0 6)), (tr3, kI k 6 (va_cpy nwf3 trf3 0 0 6)), (tr4, kI k 6 (va_cpy nwf4 trf4 0 0 6)), (tr5, kI k 6 (va_cpy nwf5 trf5 0 0 6)), (tr6, kI k 6 (va_cpy nwf6 trf6 0 0 6)), (nw, kO 4 [.ref nw0, .ref nw1, .ref nw2, .ref nw3, .ref nw4, .ref nw5, .ref nw6, .int nw_inside, .int 0, .int nw_minute, .int 0, .int nw_lastCook, .int nw_stirred]), (nw0, kI k 6 nwf0), (nw1, kI k 6 nwf1), (nw2, kI k 6 nwf2), (nw3, kI k 6 nwf3), (nw4, kI k 6 nwf4), (nw5, kI k 6 nwf5), (nw6, kI k 6 nwf6), (x, kO 8 [x_tape, .ref td, x_draft, x_lines, x_draftLines, .ref nw, .ref tr, x_sights, x_past, x_marks, .long hd]), (tr, kO 4 [.ref tr0, .ref tr1, .ref tr2, .ref tr3, .ref tr4, .ref tr5, .ref tr6, .int nw_inside, .int 0, .int (hm + 1), .int 0, .int nw_lastCook, .int 0]), (td, kO 7 [td_names, td_kinds, td_yards, td_paces, td_skills, td_snow, td_law, .int 0, .int 0, .int td_bend, .int td_hour, .int td_bendTold, .int td_hourTold])] := hD
              refine lv_pop hx hb dX8_years_75 rfl ?_
              refine lv_iinc (v := (nI (j + 1))) (lv' := [(4, .int (nI (j + 1))), (0, .ref x), (1, .int q1), (2, .int (nI N)), (3, .int q3)]) hx hb dX8_years_76 hl (k := 0) rfl (nI_1 _) (by decide) rfl (fun ls hl => ?_)
              refine lv_goto (tgt := 54) hx hb dX8_years_79 (by decide) ?_
              exact ih54 (j + 1) (hm + 1) 0 hd (by omega) (by omega) _ _ _ (hP.sub [15, 17, 16, 0, 1, 2, 3, 4, 5, 6, 7, 8, 9, 10, 11, 12, 13, 14] rfl) (hD.sub [15, 17, 16, 0, 1, 2, 3, 4, 5, 6, 7, 8, 9, 10, 11, 12, 13, 14] (by decide) rfl) hS (lv_sub hl [0, 1, 2, 3, 4] rfl)
        exact hloop54 ((N - 0) + 1) 0 nw_minute tr_stirred q1.toInt64 (Nat.lt_succ_self _) (by omega) _ _ _ (hP.sub [0, 1, 2, 3, 4, 5, 6, 7, 8, 9, 10, 11, 12, 13, 14, 15, 16, 17] rfl) (hD.sub [0, 1, 2, 3, 4, 5, 6, 7, 8, 9, 10, 11, 12, 13, 14, 15, 16, 17] (by decide) rfl) hS (lv_sub hl [0, 1, 2, 3, 4] rfl)
      · skip
        refine lv_ldcw hx hb hown lc274 dX8_years_30 ?_
        rw [hQ]
        have hP9 := hP.sub (ws' := []) [] rfl
        have hD9 := hD.sub (ws' := []) [] (by decide) rfl
        exact W.iret (v := (-100000)) hx hb hr (fun zt ht hW => ⟨⟨(-100000), (), rfl, (by unfold aY; rw [if_pos (bz_1 c_2), if_pos (bz_1 c_4), if_neg (bz_0 c_6)]), by rw [ht]; exact hP9, hD9⟩, hS.F ht⟩) hS.2.2 dX8_years_33
