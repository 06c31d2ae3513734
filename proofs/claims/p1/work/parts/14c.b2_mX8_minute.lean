theorem dX8_minute_0 : decode cX8_minute 0 = .ok (.aload_n 0, 1) := by decide +kernel
theorem dX8_minute_1 : decode cX8_minute 1 = .ok (.getfield 56, 3) := by decide +kernel
theorem dX8_minute_4 : decode cX8_minute 4 = .ok (.aload_n 0, 1) := by decide +kernel
theorem dX8_minute_5 : decode cX8_minute 5 = .ok (.getfield 39, 3) := by decide +kernel
theorem dX8_minute_8 : decode cX8_minute 8 = .ok (.invokevirtual 141, 3) := by decide +kernel
theorem dX8_minute_11 : decode cX8_minute 11 = .ok (.aload_n 0, 1) := by decide +kernel
theorem dX8_minute_12 : decode cX8_minute 12 = .ok (.getfield 39, 3) := by decide +kernel
theorem dX8_minute_15 : decode cX8_minute 15 = .ok (.aload_n 0, 1) := by decide +kernel
theorem dX8_minute_16 : decode cX8_minute 16 = .ok (.getfield 19, 3) := by decide +kernel
theorem dX8_minute_19 : decode cX8_minute 19 = .ok (.invokevirtual 158, 3) := by decide +kernel
theorem dX8_minute_22 : decode cX8_minute 22 = .ok (.ireturn, 1) := by decide +kernel
set_option maxRecDepth 20000 in
theorem ggX8_minute_X3_keep : GoodIn wsX8_minute wsX3_keep := goodIn_r _ [8, 9, 10, 11, 12, 13, 14, 15, 16, 17, 18, 19, 20, 21, 22, 23, 24, 25, 26, 27, 28, 29, 30, 31, 32, 130, 131, 132, 133, 134, 135, 136, 137, 138, 139, 140, 141, 142, 143, 144, 145] rfl (by decide +kernel)
set_option maxRecDepth 20000 in
theorem gX8_minute_X3_keep : GoodIn wsX8_minute (wsV RX8 141 RX3 yX3_keep wsX3_keep) := goodIn_app (goodIn_of _ (by decide +kernel)) ggX8_minute_X3_keep
set_option maxRecDepth 20000 in
theorem ggX8_minute_X4_pass : GoodIn wsX8_minute wsX4_pass := goodIn_r _ [36, 30, 37, 38, 39, 40, 41, 42, 43, 44, 45, 46, 15, 47, 48, 28, 49, 50, 51, 52, 53, 23, 17, 54, 55, 56, 57, 58, 22, 59, 60, 61, 25, 26, 62, 63, 64, 65, 24, 66, 67, 68, 69, 70, 71, 72, 73, 74, 75, 76, 77, 78, 79, 80, 81, 82, 83, 84, 85, 86, 87, 31, 88, 89, 29, 27, 32, 90, 91, 92, 93, 94, 95, 96, 97, 98, 99, 100, 101, 102, 103, 104, 105, 106, 107, 108, 109, 110, 111, 112, 113, 114, 115, 116, 117, 118, 133, 134, 135, 136, 137, 138, 139, 140, 141, 142, 143, 144, 145, 146, 147, 148, 149, 150, 151, 152, 153, 154, 155, 156, 157, 158, 159, 160, 161, 162, 163] rfl (by decide +kernel)
set_option maxRecDepth 20000 in
theorem gX8_minute_X4_pass : GoodIn wsX8_minute (wsV RX8 158 RX4 yX4_pass wsX4_pass) := goodIn_app (goodIn_of _ (by decide +kernel)) ggX8_minute_X4_pass
set_option maxHeartbeats 4000000 in
set_option maxRecDepth 100000 in
theorem mX8_minute (l : Launch) (D : va_G) (k : Nat → ClassId) (sz : Nat) (x : Nat) (x_tape : Value) (td : Nat) (x_draft : Value) (x_lines : Value) (x_draftLines : Value) (nw : Nat) (x_trial : Value) (x_sights : Value) (pa : Nat) (x_marks : Value) (x_drawn : Int64) (td_names : Value) (td_kinds : Value) (td_yards : Value) (td_paces : Value) (td_skills : Value) (td_snow : Value) (td_law : Value) (td_bend : Int32) (td_hour : Int32) (td_bendTold : Int32) (td_hourTold : Int32) (kp : Nat) (kf : Nat → Option Nat) (kr : Nat) (kr0 : Nat) (kr1 : Nat) (kr2 : Nat) (kr3 : Nat) (kr4 : Nat) (kr5 : Nat) (kr6 : Nat) (kr_inside : Int32) (kr_night : Int32) (kr_minute : Int32) (kr_tasted : Int32) (kr_lastCook : Int32) (kr_stirred : Int32) (krf0 : Nat → Int32) (krf1 : Nat → Int32) (krf2 : Nat → Int32) (krf3 : Nat → Int32) (krf4 : Nat → Int32) (krf5 : Nat → Int32) (krf6 : Nat → Int32) (nw0 : Nat) (nw1 : Nat) (nw2 : Nat) (nw3 : Nat) (nw4 : Nat) (nw5 : Nat) (nw6 : Nat) (nw_inside : Int32) (nw_night : Int32) (nw_minute : Int32) (nw_tasted : Int32) (nw_lastCook : Int32) (nw_stirred : Int32) (nwf0 : Nat → Int32) (nwf1 : Nat → Int32) (nwf2 : Nat → Int32) (nwf3 : Nat → Int32) (nwf4 : Nat → Int32) (nwf5 : Nat → Int32) (nwf6 : Nat → Int32) (hkf : kf 0 = some kr) : Met l yX8_minute wsX8_minute ({ frames := 5, cells := 0, slots := 0, locals := 350 }) (va_Pc [.ref x] (kz_Pre D k [(x, kO 8 [x_tape, .ref td, x_draft, x_lines, x_draftLines, .ref nw, x_trial, x_sights, .ref pa, x_marks, .long x_drawn]), (td, kO 7 [td_names, td_kinds, td_yards, td_paces, td_skills, td_snow, td_law, .int 0, .int 0, .int td_bend, .int td_hour, .int td_bendTold, .int td_hourTold]), (pa, kO 3 [.ref kp, .int 0, .int 0]), (kp, kR k 16 kf), (kr, kO 4 [.ref kr0, .ref kr1, .ref kr2, .ref kr3, .ref kr4, .ref kr5, .ref kr6, .int kr_inside, .int kr_night, .int kr_minute, .int kr_tasted, .int kr_lastCook, .int kr_stirred]), (kr0, kI k 6 krf0), (kr1, kI k 6 krf1), (kr2, kI k 6 krf2), (kr3, kI k 6 krf3), (kr4, kI k 6 krf4), (kr5, kI k 6 krf5), (kr6, kI k 6 krf6), (nw, kO 4 [.ref nw0, .ref nw1, .ref nw2, .ref nw3, .ref nw4, .ref nw5, .ref nw6, .int nw_inside, .int nw_night, .int nw_minute, .int nw_tasted, .int nw_lastCook, .int nw_stirred]), (nw0, kI k 6 nwf0), (nw1, kI k 6 nwf1), (nw2, kI k 6 nwf2), (nw3, kI k 6 nwf3), (nw4, kI k 6 nwf4), (nw5, kI k 6 nwf5), (nw6, kI k 6 nwf6)] sz)) (va_Qi (fun (rr : Int32) (uu : Unit) => rr = (-1)) (fun uu zt => kz_B D (va_A [(x, kO 8 [x_tape, .ref td, x_draft, x_lines, x_draftLines, .ref nw, x_trial, x_sights, .ref pa, x_marks, .long x_drawn]), (td, kO 7 [td_names, td_kinds, td_yards, td_paces, td_skills, td_snow, td_law, .int 0, .int 0, .int td_bend, .int td_hour, .int td_bendTold, .int td_hourTold]), (pa, kO 3 [.ref kp, .int 0, .int 0]), (kp, kR k 16 kf), (kr, kO 4 [.ref kr0, .ref kr1, .ref kr2, .ref kr3, .ref kr4, .ref kr5, .ref kr6, .int kr_inside, .int kr_night, .int kr_minute, .int kr_tasted, .int kr_lastCook, .int kr_stirred]), (kr0, kI k 6 krf0), (kr1, kI k 6 krf1), (kr2, kI k 6 krf2), (kr3, kI k 6 krf3), (kr4, kI k 6 krf4), (kr5, kI k 6 krf5), (kr6, kI k 6 krf6), (nw, kO 4 [.ref nw0, .ref nw1, .ref nw2, .ref nw3, .ref nw4, .ref nw5, .ref nw6, .int nw_inside, .int nw_night, .int nw_minute, .int nw_tasted, .int nw_lastCook, .int nw_stirred]), (nw0, kI k 6 nwf0), (nw1, kI k 6 nwf1), (nw2, kI k 6 nwf2), (nw3, kI k 6 nwf3), (nw4, kI k 6 nwf4), (nw5, kI k 6 nwf5), (nw6, kI k 6 nwf6)] sz) [] zt) (va_A [(x, kO 8 [x_tape, .ref td, x_draft, x_lines, x_draftLines, .ref nw, x_trial, x_sights, .ref pa, x_marks, .long x_drawn]), (td, kO 7 [td_names, td_kinds, td_yards, td_paces, td_skills, td_snow, td_law, .int 0, .int 0, .int td_bend, .int td_hour, .int td_bendTold, .int td_hourTold]), (pa, kO 3 [.ref kp, .int 0, .int 0]), (kp, kR k 16 kf), (kr, kO 4 [.ref kr0, .ref kr1, .ref kr2, .ref kr3, .ref kr4, .ref kr5, .ref kr6, .int kr_inside, .int kr_night, .int kr_minute, .int kr_tasted, .int kr_lastCook, .int kr_stirred]), (kr0, kI k 6 krf0), (kr1, kI k 6 krf1), (kr2, kI k 6 krf2), (kr3, kI k 6 krf3), (kr4, kI k 6 krf4), (kr5, kI k 6 krf5), (kr6, kI k 6 krf6), (nw, kO 4 [.ref nw0, .ref nw1, .ref nw2, .ref nw3, .ref nw4, .ref nw5, .ref nw6, .int nw_inside, .int nw_night, .int nw_minute, .int nw_tasted, .int nw_lastCook, .int nw_stirred]), (nw0, kI k 6 nwf0), (nw1, kI k 6 nwf1), (nw2, kI k 6 nwf2), (nw3, kI k 6 nwf3), (nw4, kI k 6 nwf4), (nw5, kI k 6 nwf5), (nw6, kI k 6 nwf6)] sz)) 0 0 (va_A [(x, kO 8 [x_tape, .ref td, x_draft, x_lines, x_draftLines, .ref nw, x_trial, x_sights, .ref pa, x_marks, .long x_drawn]), (td, kO 7 [td_names, td_kinds, td_yards, td_paces, td_skills, td_snow, td_law, .int 0, .int 0, .int td_bend, .int td_hour, .int td_bendTold, .int td_hourTold]), (pa, kO 3 [.ref kp, .int 0, .int 0]), (kp, kR k 16 kf), (kr, kO 4 [.ref kr0, .ref kr1, .ref kr2, .ref kr3, .ref kr4, .ref kr5, .ref kr6, .int kr_inside, .int kr_night, .int kr_minute, .int kr_tasted, .int kr_lastCook, .int kr_stirred]), (kr0, kI k 6 krf0), (kr1, kI k 6 krf1), (kr2, kI k 6 krf2), (kr3, kI k 6 krf3), (kr4, kI k 6 krf4), (kr5, kI k 6 krf5), (kr6, kI k 6 krf6), (nw, kO 4 [.ref nw0, .ref nw1, .ref nw2, .ref nw3, .ref nw4, .ref nw5, .ref nw6, .int nw_inside, .int nw_night, .int nw_minute, .int nw_tasted, .int nw_lastCook, .int nw_stirred]), (nw0, kI k 6 nwf0), (nw1, kI k 6 nwf1), (nw2, kI k 6 nwf2), (nw3, kI k 6 nwf3), (nw4, kI k 6 nwf4), (nw5, kI k 6 nwf5), (nw6, kI k 6 nwf6)] sz) := by
  refine Met.ofW (cc := cX8_minute) (maxL := 1) (ret := (some .int)) (by decide) rfl ?_
  intro p e s m args below meth c s₁ B hml hv
  obtain ⟨hav, hsz, hP, hK, hD0, hE⟩ := hv
  have hx := B.exec
  have hb := B.bytes
  have hr := B.returns
  have hts := atoms_spec (ws := wsX8_minute) B.pre
  have hown : s.vm.findClass RX8 = some m.cls := findClass_of_methodNamed B.named
  have hlocks := B.notSynchronized
  have hi8 : ∀ w ∈ u_ws RX8 TX8 11, w ∈ wsX8_minute := by decide +kernel
  have lf56 := hts (.fieldLink RX8 56 "LastCook" "past" "LLastCook$Past;") (by decide +kernel)
  have lf39 := hts (.fieldLink RX8 39 "LastCook" "now" "LLastCook$Road;") (by decide +kernel)
  have lf19 := hts (.fieldLink RX8 19 "LastCook" "told" "LLastCook$Told;") (by decide +kernel)
  subst hsz
  have hD := hD0.self (sz := s.heap.size)
  generalize hAe : va_A [(x, kO 8 [x_tape, .ref td, x_draft, x_lines, x_draftLines, .ref nw, x_trial, x_sights, .ref pa, x_marks, .long x_drawn]), (td, kO 7 [td_names, td_kinds, td_yards, td_paces, td_skills, td_snow, td_law, .int 0, .int 0, .int td_bend, .int td_hour, .int td_bendTold, .int td_hourTold]), (pa, kO 3 [.ref kp, .int 0, .int 0]), (kp, kR k 16 kf), (kr, kO 4 [.ref kr0, .ref kr1, .ref kr2, .ref kr3, .ref kr4, .ref kr5, .ref kr6, .int kr_inside, .int kr_night, .int kr_minute, .int kr_tasted, .int kr_lastCook, .int kr_stirred]), (kr0, kI k 6 krf0), (kr1, kI k 6 krf1), (kr2, kI k 6 krf2), (kr3, kI k 6 krf3), (kr4, kI k 6 krf4), (kr5, kI k 6 krf5), (kr6, kI k 6 krf6), (nw, kO 4 [.ref nw0, .ref nw1, .ref nw2, .ref nw3, .ref nw4, .ref nw5, .ref nw6, .int nw_inside, .int nw_night, .int nw_minute, .int nw_tasted, .int nw_lastCook, .int nw_stirred]), (nw0, kI k 6 nwf0), (nw1, kI k 6 nwf1), (nw2, kI k 6 nwf2), (nw3, kI k 6 nwf3), (nw4, kI k 6 nwf4), (nw5, kI k 6 nwf5), (nw6, kI k 6 nwf6)] s.heap.size = A at hD ⊢
  have hA : ∀ q : Nat, s.heap.size ≤ q → A q := fun q h => by rw [← hAe]; exact Or.inr h
  have hS : va_S A s.heap s.heap [] := va_S.rf
  have hl := lv_entry ([.ref x]) (n := 1) (Nat.le_of_ble_eq_true rfl)
  rw [show entryFrame m args 1 = entryFrame m ([.ref x] : List Value).toArray 1 by rw [hav], lg_entry_eq]
  generalize (lg_sl ([.ref x]) ++ List.replicate (1 - (lg_sl ([.ref x])).length) Slot.unset).toArray = ls at hl ⊢
  have hl : lv_has ls 1 [(0, .ref x)] := hl
  obtain ⟨R, hR⟩ : ∃ R, R = (headSpec wsX8_minute ({ frames := 5, cells := 0, slots := 0, locals := 350 } : Room)).room := ⟨_, rfl⟩
  rw [← hR]
  generalize hQ : MQ below _ args s 0 0 A = Q
  replace hQ := hQ.symm
  obtain ⟨H, hH⟩ : ∃ H, H = s.heap := ⟨_, rfl⟩
  rw [← hH] at hP ⊢
  have hS : va_S A s.heap H [] := by rw [hH]; exact hS
  refine lv_aload_n hx hb dX8_minute_0 rfl (lv_at hl 0 rfl) ?_
  refine va_get (D := D) (ci := 8) (v := .ref pa) (C := RX8) (T := TX8) (N := 11) hx hb hts hi8 hown hK hP 0 rfl rfl 8 (by decide) lf56 (fun _ h9 => h9) rfl dX8_minute_1 ?_
  refine lv_aload_n hx hb dX8_minute_4 rfl (lv_at hl 0 rfl) ?_
  refine va_get (D := D) (ci := 8) (v := .ref nw) (C := RX8) (T := TX8) (N := 11) hx hb hts hi8 hown hK hP 0 rfl rfl 5 (by decide) lf39 (fun _ h9 => h9) rfl dX8_minute_5 ?_
  refine kz_Vv (As := [.ref nw]) (rest := []) (wc := [(pa, kO 3 [.ref kp, .int 0, .int 0]), (kp, kR k 16 kf), (kr, kO 4 [.ref kr0, .ref kr1, .ref kr2, .ref kr3, .ref kr4, .ref kr5, .ref kr6, .int kr_inside, .int kr_night, .int kr_minute, .int kr_tasted, .int kr_lastCook, .int kr_stirred]), (kr0, kI k 6 krf0), (kr1, kI k 6 krf1), (kr2, kI k 6 krf2), (kr3, kI k 6 krf3), (kr4, kI k 6 krf4), (kr5, kI k 6 krf5), (kr6, kI k 6 krf6), (nw, kO 4 [.ref nw0, .ref nw1, .ref nw2, .ref nw3, .ref nw4, .ref nw5, .ref nw6, .int nw_inside, .int nw_night, .int nw_minute, .int nw_tasted, .int nw_lastCook, .int nw_stirred]), (nw0, kI k 6 nwf0), (nw1, kI k 6 nwf1), (nw2, kI k 6 nwf2), (nw3, kI k 6 nwf3), (nw4, kI k 6 nwf4), (nw5, kI k 6 nwf5), (nw6, kI k 6 nwf6)]) (wr := [(x, kO 8 [x_tape, .ref td, x_draft, x_lines, x_draftLines, .ref nw, x_trial, x_sights, .ref pa, x_marks, .long x_drawn]), (td, kO 7 [td_names, td_kinds, td_yards, td_paces, td_skills, td_snow, td_law, .int 0, .int 0, .int td_bend, .int td_hour, .int td_bendTold, .int td_hourTold])]) ⟨hx, hb, hml, hown, hts⟩ hK hE hP hD hS hA (mX3_keep l D k H.size pa nw kp kf kr kr0 kr1 kr2 kr3 kr4 kr5 kr6 kr_inside kr_night kr_minute kr_tasted kr_lastCook kr_stirred krf0 krf1 krf2 krf3 krf4 krf5 krf6 nw0 nw1 nw2 nw3 nw4 nw5 nw6 nw_inside nw_night nw_minute nw_tasted nw_lastCook nw_stirred nwf0 nwf1 nwf2 nwf3 nwf4 nwf5 nwf6 hkf) (cwV 1 hts gX8_minute_X3_keep rfl rfl rfl (by decide +kernel) (by rw [hR]; exact ⟨Nat.le_of_ble_eq_true rfl, Nat.le_of_ble_eq_true rfl⟩)) [2, 3, 4, 5, 6, 7, 8, 9, 10, 11, 12, 13, 14, 15, 16, 17, 18, 19] [0, 1] rfl rfl (by decide) (by decide) (by decide) 0 rfl rfl rfl hl.1 rfl (Nat.le_of_ble_eq_true rfl) dX8_minute_8 (by rw [hR]; exact ⟨Nat.le_of_ble_eq_true rfl, Nat.le_of_ble_eq_true rfl⟩) (fun u1 H locs hw1 hP hD hS => ?_)
  have hP : va_P D vwCl [(x, kO 8 [x_tape, .ref td, x_draft, x_lines, x_draftLines, .ref nw, x_trial, x_sights, .ref pa, x_marks, .long x_drawn]), (td, kO 7 [td_names, td_kinds, td_yards, td_paces, td_skills, td_snow, td_law, .int 0, .int 0, .int td_bend, .int td_hour, .int td_bendTold, .int td_hourTold]), (pa, kO 3 [.ref kp, .int 0, .int 1]), (kp, kR k 16 kf), (kr, kO 4 [.ref kr0, .ref kr1, .ref kr2, .ref kr3, .ref kr4, .ref kr5, .ref kr6, .int nw_inside, .int nw_night, .int nw_minute, .int nw_tasted, .int nw_lastCook, .int kr_stirred]), (kr0, kI k 6 (va_cpy nwf0 krf0 0 0 6)), (kr1, kI k 6 (va_cpy nwf1 krf1 0 0 6)), (kr2, kI k 6 (va_cpy nwf2 krf2 0 0 6)), (kr3, kI k 6 (va_cpy nwf3 krf3 0 0 6)), (kr4, kI k 6 (va_cpy nwf4 krf4 0 0 6)), (kr5, kI k 6 (va_cpy nwf5 krf5 0 0 6)), (kr6, kI k 6 (va_cpy nwf6 krf6 0 0 6)), (nw, kO 4 [.ref nw0, .ref nw1, .ref nw2, .ref nw3, .ref nw4, .ref nw5, .ref nw6, .int nw_inside, .int nw_night, .int nw_minute, .int nw_tasted, .int nw_lastCook, .int nw_stirred]), (nw0, kI k 6 nwf0), (nw1, kI k 6 nwf1), (nw2, kI k 6 nwf2), (nw3, kI k 6 nwf3), (nw4, kI k 6 nwf4), (nw5, kI k 6 nwf5), (nw6, kI k 6 nwf6)] H := hP
  have hD : va_D A [(x, kO 8 [x_tape, .ref td, x_draft, x_lines, x_draftLines, .ref nw, x_trial, x_sights, .ref pa, x_marks, .long x_drawn]), (td, kO 7 [td_names, td_kinds, td_yards, td_paces, td_skills, td_snow, td_law, .int 0, .int 0, .int td_bend, .int td_hour, .int td_bendTold, .int td_hourTold]), (pa, kO 3 [.ref kp, .int 0, .int 1]), (kp, kR k 16 kf), (kr, kO 4 [.ref kr0, .ref kr1, .ref kr2, .ref kr3, .ref kr4, .ref kr5, .ref kr6, .int nw_inside, .int nw_night, .int nw_minute, .int nw_tasted, .int nw_lastCook, .int kr_stirred]), (kr0, kI k 6 (va_cpy nwf0 krf0 0 0 6)), (kr1, kI k 6 (va_cpy nwf1 krf1 0 0 6)), (kr2, kI k 6 (va_cpy nwf2 krf2 0 0 6)), (kr3, kI k 6 (va_cpy nwf3 krf3 0 0 6)), (kr4, kI k 6 (va_cpy nwf4 krf4 0 0 6)), (kr5, kI k 6 (va_cpy nwf5 krf5 0 0 6)), (kr6, kI k 6 (va_cpy nwf6 krf6 0 0 6)), (nw, kO 4 [.ref nw0, .ref nw1, .ref nw2, .ref nw3, .ref nw4, .ref nw5, .ref nw6, .int nw_inside, .int nw_night, .int nw_minute, .int nw_tasted, .int nw_lastCook, .int nw_stirred]), (nw0, kI k 6 nwf0), (nw1, kI k 6 nwf1), (nw2, kI k 6 nwf2), (nw3, kI k 6 nwf3), (nw4, kI k 6 nwf4), (nw5, kI k 6 nwf5), (nw6, kI k 6 nwf6)] := hD
  refine lv_aload_n hx hb dX8_minute_11 rfl (lv_at hl 0 rfl) ?_
  refine va_get (D := D) (ci := 8) (v := .ref nw) (C := RX8) (T := TX8) (N := 11) hx hb hts hi8 hown hK hP 0 rfl rfl 5 (by decide) lf39 (fun _ h9 => h9) rfl dX8_minute_12 ?_
  refine lv_aload_n hx hb dX8_minute_15 rfl (lv_at hl 0 rfl) ?_
  refine va_get (D := D) (ci := 8) (v := .ref td) (C := RX8) (T := TX8) (N := 11) hx hb hts hi8 hown hK hP 0 rfl rfl 1 (by decide) lf19 (fun _ h9 => h9) rfl dX8_minute_16 ?_
  refine kz_Vi (As := [.ref td]) (rest := []) (wc := [(nw, kO 4 [.ref nw0, .ref nw1, .ref nw2, .ref nw3, .ref nw4, .ref nw5, .ref nw6, .int nw_inside, .int nw_night, .int nw_minute, .int nw_tasted, .int nw_lastCook, .int nw_stirred]), (td, kO 7 [td_names, td_kinds, td_yards, td_paces, td_skills, td_snow, td_law, .int 0, .int 0, .int td_bend, .int td_hour, .int td_bendTold, .int td_hourTold])]) (wr := [(x, kO 8 [x_tape, .ref td, x_draft, x_lines, x_draftLines, .ref nw, x_trial, x_sights, .ref pa, x_marks, .long x_drawn]), (pa, kO 3 [.ref kp, .int 0, .int 1]), (kp, kR k 16 kf), (kr, kO 4 [.ref kr0, .ref kr1, .ref kr2, .ref kr3, .ref kr4, .ref kr5, .ref kr6, .int nw_inside, .int nw_night, .int nw_minute, .int nw_tasted, .int nw_lastCook, .int kr_stirred]), (kr0, kI k 6 (va_cpy nwf0 krf0 0 0 6)), (kr1, kI k 6 (va_cpy nwf1 krf1 0 0 6)), (kr2, kI k 6 (va_cpy nwf2 krf2 0 0 6)), (kr3, kI k 6 (va_cpy nwf3 krf3 0 0 6)), (kr4, kI k 6 (va_cpy nwf4 krf4 0 0 6)), (kr5, kI k 6 (va_cpy nwf5 krf5 0 0 6)), (kr6, kI k 6 (va_cpy nwf6 krf6 0 0 6)), (nw0, kI k 6 nwf0), (nw1, kI k 6 nwf1), (nw2, kI k 6 nwf2), (nw3, kI k 6 nwf3), (nw4, kI k 6 nwf4), (nw5, kI k 6 nwf5), (nw6, kI k 6 nwf6)]) ⟨hx, hb, hml, hown, hts⟩ hK hE hP hD hS hA (mX4_pass l D k H.size nw td (.ref nw0) (.ref nw1) (.ref nw2) (.ref nw3) (.ref nw4) (.ref nw5) (.ref nw6) nw_inside nw_night nw_minute nw_tasted nw_lastCook nw_stirred td_names td_kinds td_yards td_paces td_skills td_snow td_law td_bend td_hour td_bendTold td_hourTold) (cwV 1 hts gX8_minute_X4_pass rfl rfl rfl (by decide +kernel) (by rw [hR]; exact ⟨Nat.le_of_ble_eq_true rfl, Nat.le_of_ble_eq_true rfl⟩)) [12, 1] [0, 2, 3, 4, 5, 6, 7, 8, 9, 10, 11, 13, 14, 15, 16, 17, 18, 19] rfl rfl (by decide) (by decide) (by decide) 0 rfl rfl rfl hl.1 rfl (Nat.le_of_ble_eq_true rfl) dX8_minute_19 (by rw [hR]; exact ⟨Nat.le_of_ble_eq_true rfl, Nat.le_of_ble_eq_true rfl⟩) (fun r2 u2 H locs hw2 hP hD hS => ?_)
  try dsimp only at hw2
  obtain rfl : r2 = (-1) := hw2
  have hP : va_P D vwCl [(x, kO 8 [x_tape, .ref td, x_draft, x_lines, x_draftLines, .ref nw, x_trial, x_sights, .ref pa, x_marks, .long x_drawn]), (pa, kO 3 [.ref kp, .int 0, .int 1]), (kp, kR k 16 kf), (kr, kO 4 [.ref kr0, .ref kr1, .ref kr2, .ref kr3, .ref kr4, .ref kr5, .ref kr6, .int nw_inside, .int nw_night, .int nw_minute, .int nw_tasted, .int nw_lastCook, .int kr_stirred]), (kr0, kI k 6 (va_cpy nwf0 krf0 0 0 6)), (kr1, kI k 6 (va_cpy nwf1 krf1 0 0 6)), (kr2, kI k 6 (va_cpy nwf2 krf2 0 0 6)), (kr3, kI k 6 (va_cpy nwf3 krf3 0 0 6)), (kr4, kI k 6 (va_cpy nwf4 krf4 0 0 6)), (kr5, kI k 6 (va_cpy nwf5 krf5 0 0 6)), (kr6, kI k 6 (va_cpy nwf6 krf6 0 0 6)), (nw0, kI k 6 nwf0), (nw1, kI k 6 nwf1), (nw2, kI k 6 nwf2), (nw3, kI k 6 nwf3), (nw4, kI k 6 nwf4), (nw5, kI k 6 nwf5), (nw6, kI k 6 nwf6), (nw, kO 4 [.ref nw0, .ref nw1, .ref nw2, .ref nw3, .ref nw4, .ref nw5, .ref nw6, .int nw_inside, .int nw_night, .int (nw_minute + 1), .int nw_tasted, .int nw_lastCook, .int 0]), (td, kO 7 [td_names, td_kinds, td_yards, td_paces, td_skills, td_snow, td_law, .int 0, .int 0, .int td_bend, .int td_hour, .int td_bendTold, .int td_hourTold])] H := hP
  have hD : va_D A [(x, kO 8 [x_tape, .ref td, x_draft, x_lines, x_draftLines, .ref nw, x_trial, x_sights, .ref pa, x_marks, .long x_drawn]), (pa, kO 3 [.ref kp, .int 0, .int 1]), (kp, kR k 16 kf), (kr, kO 4 [.ref kr0, .ref kr1, .ref kr2, .ref kr3, .ref kr4, .ref kr5, .ref kr6, .int nw_inside, .int nw_night, .int nw_minute, .int nw_tasted, .int nw_lastCook, .int kr_stirred]), (kr0, kI k 6 (va_cpy nwf0 krf0 0 0 6)), (kr1, kI k 6 (va_cpy nwf1 krf1 0 0 6)), (kr2, kI k 6 (va_cpy nwf2 krf2 0 0 6)), (kr3, kI k 6 (va_cpy nwf3 krf3 0 0 6)), (kr4, kI k 6 (va_cpy nwf4 krf4 0 0 6)), (kr5, kI k 6 (va_cpy nwf5 krf5 0 0 6)), (kr6, kI k 6 (va_cpy nwf6 krf6 0 0 6)), (nw0, kI k 6 nwf0), (nw1, kI k 6 nwf1), (nw2, kI k 6 nwf2), (nw3, kI k 6 nwf3), (nw4, kI k 6 nwf4), (nw5, kI k 6 nwf5), (nw6, kI k 6 nwf6), (nw, kO 4 [.ref nw0, .ref nw1, .ref nw2, .ref nw3, .ref nw4, .ref nw5, .ref nw6, .int nw_inside, .int nw_night, .int (nw_minute + 1), .int nw_tasted, .int nw_lastCook, .int 0]), (td, kO 7 [td_names, td_kinds, td_yards, td_paces, td_skills, td_snow, td_law, .int 0, .int 0, .int td_bend, .int td_hour, .int td_bendTold, .int td_hourTold])] := hD
  rw [hQ]
  have hP9 := hP.sub (ws' := []) [] rfl
  have hD9 := hD.sub (ws' := []) [] (by decide) rfl
  exact W.iret (v := (-1)) hx hb hr (fun zt ht hW => ⟨⟨(-1), (), rfl, rfl, by rw [ht]; exact hP9, hD9⟩, hS.F ht⟩) hS.2.2 dX8_minute_22
theorem dX3_giveBack_0 : decode cX3_giveBack 0 = .ok (.aload_n 0, 1) := by decide +kernel
theorem dX3_giveBack_1 : decode cX3_giveBack 1 = .ok (.getfield 16, 3) := by decide +kernel
theorem dX3_giveBack_4 : decode cX3_giveBack 4 = .ok (.ifCond .ne 5, 3) := by decide +kernel
theorem dX3_giveBack_7 : decode cX3_giveBack 7 = .ok (.iconst 0, 1) := by decide +kernel
theorem dX3_giveBack_8 : decode cX3_giveBack 8 = .ok (.ireturn, 1) := by decide +kernel
set_option maxHeartbeats 4000000 in
set_option maxRecDepth 100000 in
theorem mX3_giveBack (l : Launch) (D : va_G) (k : Nat → ClassId) (sz : Nat) (pa : Nat) (nw : Nat) (pa_kept : Value) (pa_first : Int32) : Met l yX3_giveBack wsX3_giveBack ({ frames := 0, cells := 0, slots := 0, locals := 0 }) (va_Pc [.ref pa, .ref nw] (kz_Pre D k [(pa, kO 3 [pa_kept, .int pa_first, .int 0])] sz)) (va_Qi (fun (rr : Int32) (uu : Unit) => rr = 0) (fun uu zt => kz_B D (va_A [(pa, kO 3 [pa_kept, .int pa_first, .int 0])] sz) [(pa, kO 3 [pa_kept, .int pa_first, .int 0])] zt) (va_A [(pa, kO 3 [pa_kept, .int pa_first, .int 0])] sz)) 0 0 (va_A [(pa, kO 3 [pa_kept, .int pa_first, .int 0])] sz) := by
  refine Met.ofW (cc := cX3_giveBack) (maxL := 2) (ret := (some .boolean)) (by decide) rfl ?_
  intro p e s m args below meth c s₁ B hml hv
  obtain ⟨hav, hsz, hP, hK, hD0, hE⟩ := hv
  have hx := B.exec
  have hb := B.bytes
  have hr := B.returns
  have hts := atoms_spec (ws := wsX3_giveBack) B.pre
  have hown : s.vm.findClass RX3 = some m.cls := findClass_of_methodNamed B.named
  have hlocks := B.notSynchronized
  have hi3 : ∀ w ∈ u_ws RX3 TX3 3, w ∈ wsX3_giveBack := by decide +kernel
  have lf16 := hts (.fieldLink RX3 16 "LastCook$Past" "size" "I") (by decide +kernel)
  subst hsz
  have hD := hD0.self (sz := s.heap.size)
  generalize hAe : va_A [(pa, kO 3 [pa_kept, .int pa_first, .int 0])] s.heap.size = A at hD ⊢
  have hA : ∀ q : Nat, s.heap.size ≤ q → A q := fun q h => by rw [← hAe]; exact Or.inr h
  have hS : va_S A s.heap s.heap [] := va_S.rf
  have hl := lv_entry ([.ref pa, .ref nw]) (n := 2) (Nat.le_of_ble_eq_true rfl)
  rw [show entryFrame m args 2 = entryFrame m ([.ref pa, .ref nw] : List Value).toArray 2 by rw [hav], lg_entry_eq]
  generalize (lg_sl ([.ref pa, .ref nw]) ++ List.replicate (2 - (lg_sl ([.ref pa, .ref nw])).length) Slot.unset).toArray = ls at hl ⊢
  have hl : lv_has ls 2 [(0, .ref pa), (1, .ref nw)] := hl
  obtain ⟨R, hR⟩ : ∃ R, R = (headSpec wsX3_giveBack ({ frames := 0, cells := 0, slots := 0, locals := 0 } : Room)).room := ⟨_, rfl⟩
  rw [← hR]
  generalize hQ : MQ below _ args s 0 0 A = Q
  replace hQ := hQ.symm
  obtain ⟨H, hH⟩ : ∃ H, H = s.heap := ⟨_, rfl⟩
  rw [← hH] at hP ⊢
  have hS : va_S A s.heap H [] := by rw [hH]; exact hS
  refine lv_aload_n hx hb dX3_giveBack_0 rfl (lv_at hl 0 rfl) ?_
  refine va_get (D := D) (ci := 3) (v := .int 0) (C := RX3) (T := TX3) (N := 3) hx hb hts hi3 hown hK hP 0 rfl rfl 2 (by decide) lf16 (fun _ h9 => h9) rfl dX3_giveBack_1 ?_
  refine lv_if_ne (tgt := 9) hx hb dX3_giveBack_4 (by decide) (fun c_1 => absurd (by decide) c_1) (fun c_1 => ?_)
  refine lv_iconst (v := 0) hx hb dX3_giveBack_7 (by decide) ?_
  rw [hQ]
  have hP9 := hP.sub (ws' := [(pa, kO 3 [pa_kept, .int pa_first, .int 0])]) [0] rfl
  have hD9 := hD.sub (ws' := [(pa, kO 3 [pa_kept, .int pa_first, .int 0])]) [0] (by decide) rfl
  exact W.zret (v := 0) hx hb hr rfl (fun zt ht hW => ⟨⟨0, (), rfl, rfl, by rw [ht]; exact hP9, hD9⟩, hS.F ht⟩) hS.2.2 dX3_giveBack_8
theorem dX8_undo_0 : decode cX8_undo 0 = .ok (.aload_n 0, 1) := by decide +kernel
theorem dX8_undo_1 : decode cX8_undo 1 = .ok (.getfield 56, 3) := by decide +kernel
theorem dX8_undo_4 : decode cX8_undo 4 = .ok (.aload_n 0, 1) := by decide +kernel
theorem dX8_undo_5 : decode cX8_undo 5 = .ok (.getfield 39, 3) := by decide +kernel
theorem dX8_undo_8 : decode cX8_undo 8 = .ok (.invokevirtual 162, 3) := by decide +kernel
theorem dX8_undo_11 : decode cX8_undo 11 = .ok (.ireturn, 1) := by decide +kernel
set_option maxRecDepth 20000 in
theorem ggX8_undo_X3_giveBack : GoodIn wsX8_undo wsX3_giveBack := goodIn_r _ [7, 8, 9, 10, 11, 12, 13, 14, 15, 16, 17, 18, 19, 20, 21, 22, 23, 24, 25, 26, 27, 28, 29, 30, 31, 43, 44, 45, 46, 47, 48, 49, 50, 51, 52, 53, 54, 55, 56, 57, 58] rfl (by decide +kernel)
set_option maxRecDepth 20000 in
theorem gX8_undo_X3_giveBack : GoodIn wsX8_undo (wsV RX8 162 RX3 yX3_giveBack wsX3_giveBack) := goodIn_app (goodIn_of _ (by decide +kernel)) ggX8_undo_X3_giveBack
set_option maxHeartbeats 4000000 in
set_option maxRecDepth 100000 in
theorem mX8_undo (l : Launch) (D : va_G) (k : Nat → ClassId) (sz : Nat) (x : Nat) (x_tape : Value) (x_told : Value) (x_draft : Value) (x_lines : Value) (x_draftLines : Value) (nw : Nat) (x_trial : Value) (x_sights : Value) (pa : Nat) (x_marks : Value) (x_drawn : Int64) (pa_kept : Value) (pa_first : Int32) : Met l yX8_undo wsX8_undo ({ frames := 1, cells := 0, slots := 0, locals := 70 }) (va_Pc [.ref x] (kz_Pre D k [(x, kO 8 [x_tape, x_told, x_draft, x_lines, x_draftLines, .ref nw, x_trial, x_sights, .ref pa, x_marks, .long x_drawn]), (pa, kO 3 [pa_kept, .int pa_first, .int 0])] sz)) (va_Qi (fun (rr : Int32) (uu : Unit) => rr = 0) (fun uu zt => kz_B D (va_A [(x, kO 8 [x_tape, x_told, x_draft, x_lines, x_draftLines, .ref nw, x_trial, x_sights, .ref pa, x_marks, .long x_drawn]), (pa, kO 3 [pa_kept, .int pa_first, .int 0])] sz) [(x, kO 8 [x_tape, x_told, x_draft, x_lines, x_draftLines, .ref nw, x_trial, x_sights, .ref pa, x_marks, .long x_drawn]), (pa, kO 3 [pa_kept, .int pa_first, .int 0])] zt) (va_A [(x, kO 8 [x_tape, x_told, x_draft, x_lines, x_draftLines, .ref nw, x_trial, x_sights, .ref pa, x_marks, .long x_drawn]), (pa, kO 3 [pa_kept, .int pa_first, .int 0])] sz)) 0 0 (va_A [(x, kO 8 [x_tape, x_told, x_draft, x_lines, x_draftLines, .ref nw, x_trial, x_sights, .ref pa, x_marks, .long x_drawn]), (pa, kO 3 [pa_kept, .int pa_first, .int 0])] sz) := by
  refine Met.ofW (cc := cX8_undo) (maxL := 1) (ret := (some .boolean)) (by decide) rfl ?_
  intro p e s m args below meth c s₁ B hml hv
  obtain ⟨hav, hsz, hP, hK, hD0, hE⟩ := hv
  have hx := B.exec
  have hb := B.bytes
  have hr := B.returns
  have hts := atoms_spec (ws := wsX8_undo) B.pre
  have hown : s.vm.findClass RX8 = some m.cls := findClass_of_methodNamed B.named
  have hlocks := B.notSynchronized
  have hi8 : ∀ w ∈ u_ws RX8 TX8 11, w ∈ wsX8_undo := by decide +kernel
  have lf56 := hts (.fieldLink RX8 56 "LastCook" "past" "LLastCook$Past;") (by decide +kernel)
  have lf39 := hts (.fieldLink RX8 39 "LastCook" "now" "LLastCook$Road;") (by decide +kernel)
  subst hsz
  have hD := hD0.self (sz := s.heap.size)
  generalize hAe : va_A [(x, kO 8 [x_tape, x_told, x_draft, x_lines, x_draftLines, .ref nw, x_trial, x_sights, .ref pa, x_marks, .long x_drawn]), (pa, kO 3 [pa_kept, .int pa_first, .int 0])] s.heap.size = A at hD ⊢
  have hA : ∀ q : Nat, s.heap.size ≤ q → A q := fun q h => by rw [← hAe]; exact Or.inr h
  have hS : va_S A s.heap s.heap [] := va_S.rf
  have hl := lv_entry ([.ref x]) (n := 1) (Nat.le_of_ble_eq_true rfl)
  rw [show entryFrame m args 1 = entryFrame m ([.ref x] : List Value).toArray 1 by rw [hav], lg_entry_eq]
  generalize (lg_sl ([.ref x]) ++ List.replicate (1 - (lg_sl ([.ref x])).length) Slot.unset).toArray = ls at hl ⊢
  have hl : lv_has ls 1 [(0, .ref x)] := hl
  obtain ⟨R, hR⟩ : ∃ R, R = (headSpec wsX8_undo ({ frames := 1, cells := 0, slots := 0, locals := 70 } : Room)).room := ⟨_, rfl⟩
  rw [← hR]
  generalize hQ : MQ below _ args s 0 0 A = Q
  replace hQ := hQ.symm
  obtain ⟨H, hH⟩ : ∃ H, H = s.heap := ⟨_, rfl⟩
  rw [← hH] at hP ⊢
  have hS : va_S A s.heap H [] := by rw [hH]; exact hS
  refine lv_aload_n hx hb dX8_undo_0 rfl (lv_at hl 0 rfl) ?_
  refine va_get (D := D) (ci := 8) (v := .ref pa) (C := RX8) (T := TX8) (N := 11) hx hb hts hi8 hown hK hP 0 rfl rfl 8 (by decide) lf56 (fun _ h9 => h9) rfl dX8_undo_1 ?_
  refine lv_aload_n hx hb dX8_undo_4 rfl (lv_at hl 0 rfl) ?_
  refine va_get (D := D) (ci := 8) (v := .ref nw) (C := RX8) (T := TX8) (N := 11) hx hb hts hi8 hown hK hP 0 rfl rfl 5 (by decide) lf39 (fun _ h9 => h9) rfl dX8_undo_5 ?_
  refine kz_Vi (As := [.ref nw]) (rest := []) (wc := [(pa, kO 3 [pa_kept, .int pa_first, .int 0])]) (wr := [(x, kO 8 [x_tape, x_told, x_draft, x_lines, x_draftLines, .ref nw, x_trial, x_sights, .ref pa, x_marks, .long x_drawn])]) ⟨hx, hb, hml, hown, hts⟩ hK hE hP hD hS hA (mX3_giveBack l D k H.size pa nw pa_kept pa_first) (cwV 1 hts gX8_undo_X3_giveBack rfl rfl rfl (by decide +kernel) (by rw [hR]; exact ⟨Nat.le_of_ble_eq_true rfl, Nat.le_of_ble_eq_true rfl⟩)) [1] [0] rfl rfl (by decide) (by decide) (by decide) 0 rfl rfl rfl hl.1 rfl (Nat.le_of_ble_eq_true rfl) dX8_undo_8 (by rw [hR]; exact ⟨Nat.le_of_ble_eq_true rfl, Nat.le_of_ble_eq_true rfl⟩) (fun r1 u1 H locs hw1 hP hD hS => ?_)
  try dsimp only at hw1
  obtain rfl : r1 = 0 := hw1
  have hP : va_P D vwCl [(x, kO 8 [x_tape, x_told, x_draft, x_lines, x_draftLines, .ref nw, x_trial, x_sights, .ref pa, x_marks, .long x_drawn]), (pa, kO 3 [pa_kept, .int pa_first, .int 0])] H := hP
  have hD : va_D A [(x, kO 8 [x_tape, x_told, x_draft, x_lines, x_draftLines, .ref nw, x_trial, x_sights, .ref pa, x_marks, .long x_drawn]), (pa, kO 3 [pa_kept, .int pa_first, .int 0])] := hD
  rw [hQ]
  have hP9 := hP.sub (ws' := [(x, kO 8 [x_tape, x_told, x_draft, x_lines, x_draftLines, .ref nw, x_trial, x_sights, .ref pa, x_marks, .long x_drawn]), (pa, kO 3 [pa_kept, .int pa_first, .int 0])]) [0, 1] rfl
  have hD9 := hD.sub (ws' := [(x, kO 8 [x_tape, x_told, x_draft, x_lines, x_draftLines, .ref nw, x_trial, x_sights, .ref pa, x_marks, .long x_drawn]), (pa, kO 3 [pa_kept, .int pa_first, .int 0])]) [0, 1] (by decide) rfl
  exact W.zret (v := 0) hx hb hr rfl (fun zt ht hW => ⟨⟨0, (), rfl, rfl, by rw [ht]; exact hP9, hD9⟩, hS.F ht⟩) hS.2.2 dX8_undo_11
