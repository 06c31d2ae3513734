theorem dX8_held_0 : decode cX8_held 0 = .ok (.aload_n 0, 1) := by decide +kernel
theorem dX8_held_1 : decode cX8_held 1 = .ok (.getfield 39, 3) := by decide +kernel
theorem dX8_held_4 : decode cX8_held 4 = .ok (.aload_n 0, 1) := by decide +kernel
theorem dX8_held_5 : decode cX8_held 5 = .ok (.getfield 19, 3) := by decide +kernel
theorem dX8_held_8 : decode cX8_held 8 = .ok (.invokevirtual 226, 3) := by decide +kernel
theorem dX8_held_11 : decode cX8_held 11 = .ok (.aload_n 0, 1) := by decide +kernel
theorem dX8_held_12 : decode cX8_held 12 = .ok (.getfield 39, 3) := by decide +kernel
theorem dX8_held_15 : decode cX8_held 15 = .ok (.aload_n 0, 1) := by decide +kernel
theorem dX8_held_16 : decode cX8_held 16 = .ok (.getfield 19, 3) := by decide +kernel
theorem dX8_held_19 : decode cX8_held 19 = .ok (.getfield 210, 3) := by decide +kernel
theorem dX8_held_22 : decode cX8_held 22 = .ok (.aload_n 0, 1) := by decide +kernel
theorem dX8_held_23 : decode cX8_held 23 = .ok (.getfield 19, 3) := by decide +kernel
theorem dX8_held_26 : decode cX8_held 26 = .ok (.getfield 229, 3) := by decide +kernel
theorem dX8_held_29 : decode cX8_held 29 = .ok (.invokevirtual 216, 3) := by decide +kernel
theorem dX8_held_32 : decode cX8_held 32 = .ok (.iand, 1) := by decide +kernel
theorem dX8_held_33 : decode cX8_held 33 = .ok (.ireturn, 1) := by decide +kernel
set_option maxRecDepth 20000 in
theorem ggX8_held_X4_holdingBack : GoodIn wsX8_held wsX4_holdingBack := goodIn_r _ [9, 10, 11, 12, 13, 14, 15, 16, 8, 17, 18, 19, 20, 21, 22, 38, 39, 40, 41, 42, 43, 44, 45, 46, 47, 48, 49, 50, 51, 52, 53, 54, 55, 56, 57, 58, 59, 60, 61, 62, 63] rfl (by decide +kernel)
set_option maxRecDepth 20000 in
theorem gX8_held_X4_holdingBack : GoodIn wsX8_held (wsV RX8 226 RX4 yX4_holdingBack wsX4_holdingBack) := goodIn_app (goodIn_of _ (by decide +kernel)) ggX8_held_X4_holdingBack
set_option maxRecDepth 20000 in
theorem ggX8_held_X4_onRoadWithin : GoodIn wsX8_held wsX4_onRoadWithin := goodIn_r _ [26, 22, 18, 19, 20, 8, 21, 51, 52, 53, 54, 55, 56, 57, 58, 59, 60, 61, 62, 63] rfl (by decide +kernel)
set_option maxRecDepth 20000 in
theorem gX8_held_X4_onRoadWithin : GoodIn wsX8_held (wsV RX8 216 RX4 yX4_onRoadWithin wsX4_onRoadWithin) := goodIn_app (goodIn_of _ (by decide +kernel)) ggX8_held_X4_onRoadWithin
set_option maxHeartbeats 4000000 in
set_option maxRecDepth 100000 in
theorem mX8_held (l : Launch) (D : va_G) (k : Nat → ClassId) (sz : Nat) (x : Nat) (x_tape : Value) (td : Nat) (x_draft : Value) (x_lines : Value) (x_draftLines : Value) (nw : Nat) (x_trial : Value) (x_sights : Value) (x_past : Value) (x_marks : Value) (x_drawn : Int64) (td_names : Value) (td_kinds : Value) (td_yards : Value) (td_paces : Value) (td_skills : Value) (td_snow : Value) (td_law : Value) (td_bend : Int32) (td_hour : Int32) (td_bendTold : Int32) (td_hourTold : Int32) (nw_yards : Value) (nw_paces : Value) (nw_stuck : Value) (nw_hirers : Value) (nw_places : Value) (nw_cameAt : Value) (nw_cooked : Value) (nw_inside : Int32) (nw_night : Int32) (nw_minute : Int32) (nw_tasted : Int32) (nw_lastCook : Int32) (nw_stirred : Int32) : Met l yX8_held wsX8_held ({ frames := 2, cells := 0, slots := 0, locals := 140 }) (va_Pc [.ref x] (kz_Pre D k [(x, kO 8 [x_tape, .ref td, x_draft, x_lines, x_draftLines, .ref nw, x_trial, x_sights, x_past, x_marks, .long x_drawn]), (td, kO 7 [td_names, td_kinds, td_yards, td_paces, td_skills, td_snow, td_law, .int 0, .int 0, .int td_bend, .int td_hour, .int td_bendTold, .int td_hourTold]), (nw, kO 4 [nw_yards, nw_paces, nw_stuck, nw_hirers, nw_places, nw_cameAt, nw_cooked, .int nw_inside, .int nw_night, .int nw_minute, .int nw_tasted, .int nw_lastCook, .int nw_stirred])] sz)) (va_Qi (fun (rr : Int32) (uu : Unit) => rr = 0) (fun uu zt => kz_B D (va_A [(x, kO 8 [x_tape, .ref td, x_draft, x_lines, x_draftLines, .ref nw, x_trial, x_sights, x_past, x_marks, .long x_drawn]), (td, kO 7 [td_names, td_kinds, td_yards, td_paces, td_skills, td_snow, td_law, .int 0, .int 0, .int td_bend, .int td_hour, .int td_bendTold, .int td_hourTold]), (nw, kO 4 [nw_yards, nw_paces, nw_stuck, nw_hirers, nw_places, nw_cameAt, nw_cooked, .int nw_inside, .int nw_night, .int nw_minute, .int nw_tasted, .int nw_lastCook, .int nw_stirred])] sz) [(x, kO 8 [x_tape, .ref td, x_draft, x_lines, x_draftLines, .ref nw, x_trial, x_sights, x_past, x_marks, .long x_drawn]), (td, kO 7 [td_names, td_kinds, td_yards, td_paces, td_skills, td_snow, td_law, .int 0, .int 0, .int td_bend, .int td_hour, .int td_bendTold, .int td_hourTold]), (nw, kO 4 [nw_yards, nw_paces, nw_stuck, nw_hirers, nw_places, nw_cameAt, nw_cooked, .int nw_inside, .int nw_night, .int nw_minute, .int nw_tasted, .int nw_lastCook, .int nw_stirred])] zt) (va_A [(x, kO 8 [x_tape, .ref td, x_draft, x_lines, x_draftLines, .ref nw, x_trial, x_sights, x_past, x_marks, .long x_drawn]), (td, kO 7 [td_names, td_kinds, td_yards, td_paces, td_skills, td_snow, td_law, .int 0, .int 0, .int td_bend, .int td_hour, .int td_bendTold, .int td_hourTold]), (nw, kO 4 [nw_yards, nw_paces, nw_stuck, nw_hirers, nw_places, nw_cameAt, nw_cooked, .int nw_inside, .int nw_night, .int nw_minute, .int nw_tasted, .int nw_lastCook, .int nw_stirred])] sz)) 0 0 (va_A [(x, kO 8 [x_tape, .ref td, x_draft, x_lines, x_draftLines, .ref nw, x_trial, x_sights, x_past, x_marks, .long x_drawn]), (td, kO 7 [td_names, td_kinds, td_yards, td_paces, td_skills, td_snow, td_law, .int 0, .int 0, .int td_bend, .int td_hour, .int td_bendTold, .int td_hourTold]), (nw, kO 4 [nw_yards, nw_paces, nw_stuck, nw_hirers, nw_places, nw_cameAt, nw_cooked, .int nw_inside, .int nw_night, .int nw_minute, .int nw_tasted, .int nw_lastCook, .int nw_stirred])] sz) := by
  refine Met.ofW (cc := cX8_held) (maxL := 1) (ret := (some .int)) (by decide) rfl ?_
  intro p e s m args below meth c s₁ B hml hv
  obtain ⟨hav, hsz, hP, hK, hD0, hE⟩ := hv
  have hx := B.exec
  have hb := B.bytes
  have hr := B.returns
  have hts := atoms_spec (ws := wsX8_held) B.pre
  have hown : s.vm.findClass RX8 = some m.cls := findClass_of_methodNamed B.named
  have hlocks := B.notSynchronized
  have hi7 : ∀ w ∈ u_ws RX7 TX7 13, w ∈ wsX8_held := by decide +kernel
  have hi8 : ∀ w ∈ u_ws RX8 TX8 11, w ∈ wsX8_held := by decide +kernel
  have lf39 := hts (.fieldLink RX8 39 "LastCook" "now" "LLastCook$Road;") (by decide +kernel)
  have lf19 := hts (.fieldLink RX8 19 "LastCook" "told" "LLastCook$Told;") (by decide +kernel)
  have lf210 := hts (.fieldLink RX8 210 "LastCook$Told" "guests" "I") (by decide +kernel)
  have lf229 := hts (.fieldLink RX8 229 "LastCook$Told" "bend" "I") (by decide +kernel)
  subst hsz
  have hD := hD0.self (sz := s.heap.size)
  generalize hAe : va_A [(x, kO 8 [x_tape, .ref td, x_draft, x_lines, x_draftLines, .ref nw, x_trial, x_sights, x_past, x_marks, .long x_drawn]), (td, kO 7 [td_names, td_kinds, td_yards, td_paces, td_skills, td_snow, td_law, .int 0, .int 0, .int td_bend, .int td_hour, .int td_bendTold, .int td_hourTold]), (nw, kO 4 [nw_yards, nw_paces, nw_stuck, nw_hirers, nw_places, nw_cameAt, nw_cooked, .int nw_inside, .int nw_night, .int nw_minute, .int nw_tasted, .int nw_lastCook, .int nw_stirred])] s.heap.size = A at hD ⊢
  have hA : ∀ q : Nat, s.heap.size ≤ q → A q := fun q h => by rw [← hAe]; exact Or.inr h
  have hS : va_S A s.heap s.heap [] := va_S.rf
  have hl := lv_entry ([.ref x]) (n := 1) (Nat.le_of_ble_eq_true rfl)
  rw [show entryFrame m args 1 = entryFrame m ([.ref x] : List Value).toArray 1 by rw [hav], lg_entry_eq]
  generalize (lg_sl ([.ref x]) ++ List.replicate (1 - (lg_sl ([.ref x])).length) Slot.unset).toArray = ls at hl ⊢
  have hl : lv_has ls 1 [(0, .ref x)] := hl
  obtain ⟨R, hR⟩ : ∃ R, R = (headSpec wsX8_held ({ frames := 2, cells := 0, slots := 0, locals := 140 } : Room)).room := ⟨_, rfl⟩
  rw [← hR]
  generalize hQ : MQ below _ args s 0 0 A = Q
  replace hQ := hQ.symm
  obtain ⟨H, hH⟩ : ∃ H, H = s.heap := ⟨_, rfl⟩
  rw [← hH] at hP ⊢
  have hS : va_S A s.heap H [] := by rw [hH]; exact hS
  refine lv_aload_n hx hb dX8_held_0 rfl (lv_at hl 0 rfl) ?_
  refine va_get (D := D) (ci := 8) (v := .ref nw) (C := RX8) (T := TX8) (N := 11) hx hb hts hi8 hown hK hP 0 rfl rfl 5 (by decide) lf39 (fun _ h9 => h9) rfl dX8_held_1 ?_
  refine lv_aload_n hx hb dX8_held_4 rfl (lv_at hl 0 rfl) ?_
  refine va_get (D := D) (ci := 8) (v := .ref td) (C := RX8) (T := TX8) (N := 11) hx hb hts hi8 hown hK hP 0 rfl rfl 1 (by decide) lf19 (fun _ h9 => h9) rfl dX8_held_5 ?_
  refine kz_Vi (As := [.ref td]) (rest := []) (wc := [(nw, kO 4 [nw_yards, nw_paces, nw_stuck, nw_hirers, nw_places, nw_cameAt, nw_cooked, .int nw_inside, .int nw_night, .int nw_minute, .int nw_tasted, .int nw_lastCook, .int nw_stirred]), (td, kO 7 [td_names, td_kinds, td_yards, td_paces, td_skills, td_snow, td_law, .int 0, .int 0, .int td_bend, .int td_hour, .int td_bendTold, .int td_hourTold])]) (wr := [(x, kO 8 [x_tape, .ref td, x_draft, x_lines, x_draftLines, .ref nw, x_trial, x_sights, x_past, x_marks, .long x_drawn])]) ⟨hx, hb, hml, hown, hts⟩ hK hE hP hD hS hA (mX4_holdingBack l D k H.size nw td nw_yards nw_paces nw_stuck nw_hirers nw_places nw_cameAt nw_cooked nw_inside nw_night nw_minute nw_tasted nw_lastCook nw_stirred td_names td_kinds td_yards td_paces td_skills td_snow td_law td_bend td_hour td_bendTold td_hourTold) (cwV 1 hts gX8_held_X4_holdingBack rfl rfl rfl (by decide +kernel) (by rw [hR]; exact ⟨Nat.le_of_ble_eq_true rfl, Nat.le_of_ble_eq_true rfl⟩)) [2, 1] [0] rfl rfl (by decide) (by decide) (by decide) 0 rfl rfl rfl hl.1 rfl (Nat.le_of_ble_eq_true rfl) dX8_held_8 (by rw [hR]; exact ⟨Nat.le_of_ble_eq_true rfl, Nat.le_of_ble_eq_true rfl⟩) (fun r1 u1 H locs hw1 hP hD hS => ?_)
  try dsimp only at hw1
  obtain rfl : r1 = 0 := hw1
  have hP : va_P D vwCl [(x, kO 8 [x_tape, .ref td, x_draft, x_lines, x_draftLines, .ref nw, x_trial, x_sights, x_past, x_marks, .long x_drawn]), (nw, kO 4 [nw_yards, nw_paces, nw_stuck, nw_hirers, nw_places, nw_cameAt, nw_cooked, .int nw_inside, .int nw_night, .int nw_minute, .int nw_tasted, .int nw_lastCook, .int nw_stirred]), (td, kO 7 [td_names, td_kinds, td_yards, td_paces, td_skills, td_snow, td_law, .int 0, .int 0, .int td_bend, .int td_hour, .int td_bendTold, .int td_hourTold])] H := hP
  have hD : va_D A [(x, kO 8 [x_tape, .ref td, x_draft, x_lines, x_draftLines, .ref nw, x_trial, x_sights, x_past, x_marks, .long x_drawn]), (nw, kO 4 [nw_yards, nw_paces, nw_stuck, nw_hirers, nw_places, nw_cameAt, nw_cooked, .int nw_inside, .int nw_night, .int nw_minute, .int nw_tasted, .int nw_lastCook, .int nw_stirred]), (td, kO 7 [td_names, td_kinds, td_yards, td_paces, td_skills, td_snow, td_law, .int 0, .int 0, .int td_bend, .int td_hour, .int td_bendTold, .int td_hourTold])] := hD
  refine lv_aload_n hx hb dX8_held_11 rfl (lv_at hl 0 rfl) ?_
  refine va_get (D := D) (ci := 8) (v := .ref nw) (C := RX8) (T := TX8) (N := 11) hx hb hts hi8 hown hK hP 0 rfl rfl 5 (by decide) lf39 (fun _ h9 => h9) rfl dX8_held_12 ?_
  refine lv_aload_n hx hb dX8_held_15 rfl (lv_at hl 0 rfl) ?_
  refine va_get (D := D) (ci := 8) (v := .ref td) (C := RX8) (T := TX8) (N := 11) hx hb hts hi8 hown hK hP 0 rfl rfl 1 (by decide) lf19 (fun _ h9 => h9) rfl dX8_held_16 ?_
  refine va_get (D := D) (ci := 7) (v := .int 0) (C := RX7) (T := TX7) (N := 13) hx hb hts hi7 hown hK hP 2 rfl rfl 7 (by decide) lf210 (fun _ h9 => h9) rfl dX8_held_19 ?_
  refine lv_aload_n hx hb dX8_held_22 rfl (lv_at hl 0 rfl) ?_
  refine va_get (D := D) (ci := 8) (v := .ref td) (C := RX8) (T := TX8) (N := 11) hx hb hts hi8 hown hK hP 0 rfl rfl 1 (by decide) lf19 (fun _ h9 => h9) rfl dX8_held_23 ?_
  refine va_get (D := D) (ci := 7) (v := .int td_bend) (C := RX7) (T := TX7) (N := 13) hx hb hts hi7 hown hK hP 2 rfl rfl 9 (by decide) lf229 (fun _ h9 => h9) rfl dX8_held_26 ?_
  refine kz_Vi (As := [.int 0, .int td_bend]) (rest := [.int 0]) (wc := [(nw, kO 4 [nw_yards, nw_paces, nw_stuck, nw_hirers, nw_places, nw_cameAt, nw_cooked, .int nw_inside, .int nw_night, .int nw_minute, .int nw_tasted, .int nw_lastCook, .int nw_stirred])]) (wr := [(x, kO 8 [x_tape, .ref td, x_draft, x_lines, x_draftLines, .ref nw, x_trial, x_sights, x_past, x_marks, .long x_drawn]), (td, kO 7 [td_names, td_kinds, td_yards, td_paces, td_skills, td_snow, td_law, .int 0, .int 0, .int td_bend, .int td_hour, .int td_bendTold, .int td_hourTold])]) ⟨hx, hb, hml, hown, hts⟩ hK hE hP hD hS hA (mX4_onRoadWithin l D k H.size nw td_bend nw_yards nw_paces nw_stuck nw_hirers nw_places nw_cameAt nw_cooked nw_inside nw_night nw_minute nw_tasted nw_lastCook nw_stirred) (cwV 2 hts gX8_held_X4_onRoadWithin rfl rfl rfl (by decide +kernel) (by rw [hR]; exact ⟨Nat.le_of_ble_eq_true rfl, Nat.le_of_ble_eq_true rfl⟩)) [1] [0, 2] rfl rfl (by decide) (by decide) (by decide) 0 rfl rfl rfl hl.1 rfl (Nat.le_of_ble_eq_true rfl) dX8_held_29 (by rw [hR]; exact ⟨Nat.le_of_ble_eq_true rfl, Nat.le_of_ble_eq_true rfl⟩) (fun r2 u2 H locs hw2 hP hD hS => ?_)
  try dsimp only at hw2
  obtain rfl : r2 = 0 := hw2
  have hP : va_P D vwCl [(x, kO 8 [x_tape, .ref td, x_draft, x_lines, x_draftLines, .ref nw, x_trial, x_sights, x_past, x_marks, .long x_drawn]), (td, kO 7 [td_names, td_kinds, td_yards, td_paces, td_skills, td_snow, td_law, .int 0, .int 0, .int td_bend, .int td_hour, .int td_bendTold, .int td_hourTold]), (nw, kO 4 [nw_yards, nw_paces, nw_stuck, nw_hirers, nw_places, nw_cameAt, nw_cooked, .int nw_inside, .int nw_night, .int nw_minute, .int nw_tasted, .int nw_lastCook, .int nw_stirred])] H := hP
  have hD : va_D A [(x, kO 8 [x_tape, .ref td, x_draft, x_lines, x_draftLines, .ref nw, x_trial, x_sights, x_past, x_marks, .long x_drawn]), (td, kO 7 [td_names, td_kinds, td_yards, td_paces, td_skills, td_snow, td_law, .int 0, .int 0, .int td_bend, .int td_hour, .int td_bendTold, .int td_hourTold]), (nw, kO 4 [nw_yards, nw_paces, nw_stuck, nw_hirers, nw_places, nw_cameAt, nw_cooked, .int nw_inside, .int nw_night, .int nw_minute, .int nw_tasted, .int nw_lastCook, .int nw_stirred])] := hD
  refine lv_iand hx hb dX8_held_32 ?_
  refine lv_topi (fun x3 ex3 => ?_)
  obtain rfl : x3 = 0 := ex3.trans (by decide)
  rw [hQ]
  have hP9 := hP.sub (ws' := [(x, kO 8 [x_tape, .ref td, x_draft, x_lines, x_draftLines, .ref nw, x_trial, x_sights, x_past, x_marks, .long x_drawn]), (td, kO 7 [td_names, td_kinds, td_yards, td_paces, td_skills, td_snow, td_law, .int 0, .int 0, .int td_bend, .int td_hour, .int td_bendTold, .int td_hourTold]), (nw, kO 4 [nw_yards, nw_paces, nw_stuck, nw_hirers, nw_places, nw_cameAt, nw_cooked, .int nw_inside, .int nw_night, .int nw_minute, .int nw_tasted, .int nw_lastCook, .int nw_stirred])]) [0, 1, 2] rfl
  have hD9 := hD.sub (ws' := [(x, kO 8 [x_tape, .ref td, x_draft, x_lines, x_draftLines, .ref nw, x_trial, x_sights, x_past, x_marks, .long x_drawn]), (td, kO 7 [td_names, td_kinds, td_yards, td_paces, td_skills, td_snow, td_law, .int 0, .int 0, .int td_bend, .int td_hour, .int td_bendTold, .int td_hourTold]), (nw, kO 4 [nw_yards, nw_paces, nw_stuck, nw_hirers, nw_places, nw_cameAt, nw_cooked, .int nw_inside, .int nw_night, .int nw_minute, .int nw_tasted, .int nw_lastCook, .int nw_stirred])]) [0, 1, 2] (by decide) rfl
  exact W.iret (v := 0) hx hb hr (fun zt ht hW => ⟨⟨0, (), rfl, rfl, by rw [ht]; exact hP9, hD9⟩, hS.F ht⟩) hS.2.2 dX8_held_33
theorem dX8_fair_0 : decode cX8_fair 0 = .ok (.aload_n 0, 1) := by decide +kernel
theorem dX8_fair_1 : decode cX8_fair 1 = .ok (.getfield 19, 3) := by decide +kernel
theorem dX8_fair_4 : decode cX8_fair 4 = .ok (.getfield 210, 3) := by decide +kernel
theorem dX8_fair_7 : decode cX8_fair 7 = .ok (.ifCond .ne 5, 3) := by decide +kernel
theorem dX8_fair_10 : decode cX8_fair 10 = .ok (.iconst 0, 1) := by decide +kernel
theorem dX8_fair_11 : decode cX8_fair 11 = .ok (.ireturn, 1) := by decide +kernel
set_option maxHeartbeats 4000000 in
set_option maxRecDepth 100000 in
theorem mX8_fair (l : Launch) (D : va_G) (k : Nat → ClassId) (sz : Nat) (x : Nat) (x_tape : Value) (td : Nat) (x_draft : Value) (x_lines : Value) (x_draftLines : Value) (x_now : Value) (x_trial : Value) (x_sights : Value) (x_past : Value) (x_marks : Value) (x_drawn : Int64) (td_names : Value) (td_kinds : Value) (td_yards : Value) (td_paces : Value) (td_skills : Value) (td_snow : Value) (td_law : Value) (td_bend : Int32) (td_hour : Int32) (td_bendTold : Int32) (td_hourTold : Int32) : Met l yX8_fair wsX8_fair ({ frames := 0, cells := 0, slots := 0, locals := 0 }) (va_Pc [.ref x] (kz_Pre D k [(x, kO 8 [x_tape, .ref td, x_draft, x_lines, x_draftLines, x_now, x_trial, x_sights, x_past, x_marks, .long x_drawn]), (td, kO 7 [td_names, td_kinds, td_yards, td_paces, td_skills, td_snow, td_law, .int 0, .int 0, .int td_bend, .int td_hour, .int td_bendTold, .int td_hourTold])] sz)) (va_Qi (fun (rr : Int32) (uu : Unit) => rr = 0) (fun uu zt => kz_B D (va_A [(x, kO 8 [x_tape, .ref td, x_draft, x_lines, x_draftLines, x_now, x_trial, x_sights, x_past, x_marks, .long x_drawn]), (td, kO 7 [td_names, td_kinds, td_yards, td_paces, td_skills, td_snow, td_law, .int 0, .int 0, .int td_bend, .int td_hour, .int td_bendTold, .int td_hourTold])] sz) [(x, kO 8 [x_tape, .ref td, x_draft, x_lines, x_draftLines, x_now, x_trial, x_sights, x_past, x_marks, .long x_drawn]), (td, kO 7 [td_names, td_kinds, td_yards, td_paces, td_skills, td_snow, td_law, .int 0, .int 0, .int td_bend, .int td_hour, .int td_bendTold, .int td_hourTold])] zt) (va_A [(x, kO 8 [x_tape, .ref td, x_draft, x_lines, x_draftLines, x_now, x_trial, x_sights, x_past, x_marks, .long x_drawn]), (td, kO 7 [td_names, td_kinds, td_yards, td_paces, td_skills, td_snow, td_law, .int 0, .int 0, .int td_bend, .int td_hour, .int td_bendTold, .int td_hourTold])] sz)) 0 0 (va_A [(x, kO 8 [x_tape, .ref td, x_draft, x_lines, x_draftLines, x_now, x_trial, x_sights, x_past, x_marks, .long x_drawn]), (td, kO 7 [td_names, td_kinds, td_yards, td_paces, td_skills, td_snow, td_law, .int 0, .int 0, .int td_bend, .int td_hour, .int td_bendTold, .int td_hourTold])] sz) := by
  refine Met.ofW (cc := cX8_fair) (maxL := 4) (ret := (some .int)) (by decide) rfl ?_
  intro p e s m args below meth c s₁ B hml hv
  obtain ⟨hav, hsz, hP, hK, hD0, hE⟩ := hv
  have hx := B.exec
  have hb := B.bytes
  have hr := B.returns
  have hts := atoms_spec (ws := wsX8_fair) B.pre
  have hown : s.vm.findClass RX8 = some m.cls := findClass_of_methodNamed B.named
  have hlocks := B.notSynchronized
  have hi7 : ∀ w ∈ u_ws RX7 TX7 13, w ∈ wsX8_fair := by decide +kernel
  have hi8 : ∀ w ∈ u_ws RX8 TX8 11, w ∈ wsX8_fair := by decide +kernel
  have lf19 := hts (.fieldLink RX8 19 "LastCook" "told" "LLastCook$Told;") (by decide +kernel)
  have lf210 := hts (.fieldLink RX8 210 "LastCook$Told" "guests" "I") (by decide +kernel)
  subst hsz
  have hD := hD0.self (sz := s.heap.size)
  generalize hAe : va_A [(x, kO 8 [x_tape, .ref td, x_draft, x_lines, x_draftLines, x_now, x_trial, x_sights, x_past, x_marks, .long x_drawn]), (td, kO 7 [td_names, td_kinds, td_yards, td_paces, td_skills, td_snow, td_law, .int 0, .int 0, .int td_bend, .int td_hour, .int td_bendTold, .int td_hourTold])] s.heap.size = A at hD ⊢
  have hA : ∀ q : Nat, s.heap.size ≤ q → A q := fun q h => by rw [← hAe]; exact Or.inr h
  have hS : va_S A s.heap s.heap [] := va_S.rf
  have hl := lv_entry ([.ref x]) (n := 4) (Nat.le_of_ble_eq_true rfl)
  rw [show entryFrame m args 4 = entryFrame m ([.ref x] : List Value).toArray 4 by rw [hav], lg_entry_eq]
  generalize (lg_sl ([.ref x]) ++ List.replicate (4 - (lg_sl ([.ref x])).length) Slot.unset).toArray = ls at hl ⊢
  have hl : lv_has ls 4 [(0, .ref x)] := hl
  obtain ⟨R, hR⟩ : ∃ R, R = (headSpec wsX8_fair ({ frames := 0, cells := 0, slots := 0, locals := 0 } : Room)).room := ⟨_, rfl⟩
  rw [← hR]
  generalize hQ : MQ below _ args s 0 0 A = Q
  replace hQ := hQ.symm
  obtain ⟨H, hH⟩ : ∃ H, H = s.heap := ⟨_, rfl⟩
  rw [← hH] at hP ⊢
  have hS : va_S A s.heap H [] := by rw [hH]; exact hS
  refine lv_aload_n hx hb dX8_fair_0 rfl (lv_at hl 0 rfl) ?_
  refine va_get (D := D) (ci := 8) (v := .ref td) (C := RX8) (T := TX8) (N := 11) hx hb hts hi8 hown hK hP 0 rfl rfl 1 (by decide) lf19 (fun _ h9 => h9) rfl dX8_fair_1 ?_
  refine va_get (D := D) (ci := 7) (v := .int 0) (C := RX7) (T := TX7) (N := 13) hx hb hts hi7 hown hK hP 1 rfl rfl 7 (by decide) lf210 (fun _ h9 => h9) rfl dX8_fair_4 ?_
  refine lv_if_ne (tgt := 12) hx hb dX8_fair_7 (by decide) (fun c_1 => absurd (by decide) c_1) (fun c_1 => ?_)
  refine lv_iconst (v := 0) hx hb dX8_fair_10 (by decide) ?_
  rw [hQ]
  have hP9 := hP.sub (ws' := [(x, kO 8 [x_tape, .ref td, x_draft, x_lines, x_draftLines, x_now, x_trial, x_sights, x_past, x_marks, .long x_drawn]), (td, kO 7 [td_names, td_kinds, td_yards, td_paces, td_skills, td_snow, td_law, .int 0, .int 0, .int td_bend, .int td_hour, .int td_bendTold, .int td_hourTold])]) [0, 1] rfl
  have hD9 := hD.sub (ws' := [(x, kO 8 [x_tape, .ref td, x_draft, x_lines, x_draftLines, x_now, x_trial, x_sights, x_past, x_marks, .long x_drawn]), (td, kO 7 [td_names, td_kinds, td_yards, td_paces, td_skills, td_snow, td_law, .int 0, .int 0, .int td_bend, .int td_hour, .int td_bendTold, .int td_hourTold])]) [0, 1] (by decide) rfl
  exact W.iret (v := 0) hx hb hr (fun zt ht hW => ⟨⟨0, (), rfl, rfl, by rw [ht]; exact hP9, hD9⟩, hS.F ht⟩) hS.2.2 dX8_fair_11
theorem dX5_add_0 : decode cX5_add 0 = .ok (.aload_n 0, 1) := by decide +kernel
theorem dX5_add_1 : decode cX5_add 1 = .ok (.getfield 22, 3) := by decide +kernel
theorem dX5_add_4 : decode cX5_add 4 = .ok (.bipush 8, 2) := by decide +kernel
theorem dX5_add_6 : decode cX5_add 6 = .ok (.if_icmp .lt 5, 3) := by decide +kernel
theorem dX5_add_11 : decode cX5_add 11 = .ok (.aload_n 0, 1) := by decide +kernel
theorem dX5_add_12 : decode cX5_add 12 = .ok (.getfield 11, 3) := by decide +kernel
theorem dX5_add_15 : decode cX5_add 15 = .ok (.aload_n 0, 1) := by decide +kernel
theorem dX5_add_16 : decode cX5_add 16 = .ok (.getfield 22, 3) := by decide +kernel
theorem dX5_add_19 : decode cX5_add 19 = .ok (.iload_n 1, 1) := by decide +kernel
theorem dX5_add_20 : decode cX5_add 20 = .ok (.iastore, 1) := by decide +kernel
theorem dX5_add_21 : decode cX5_add 21 = .ok (.aload_n 0, 1) := by decide +kernel
theorem dX5_add_22 : decode cX5_add 22 = .ok (.getfield 15, 3) := by decide +kernel
theorem dX5_add_25 : decode cX5_add 25 = .ok (.aload_n 0, 1) := by decide +kernel
theorem dX5_add_26 : decode cX5_add 26 = .ok (.getfield 22, 3) := by decide +kernel
theorem dX5_add_29 : decode cX5_add 29 = .ok (.iload_n 2, 1) := by decide +kernel
theorem dX5_add_30 : decode cX5_add 30 = .ok (.iastore, 1) := by decide +kernel
theorem dX5_add_31 : decode cX5_add 31 = .ok (.aload_n 0, 1) := by decide +kernel
theorem dX5_add_32 : decode cX5_add 32 = .ok (.getfield 18, 3) := by decide +kernel
theorem dX5_add_35 : decode cX5_add 35 = .ok (.aload_n 0, 1) := by decide +kernel
theorem dX5_add_36 : decode cX5_add 36 = .ok (.getfield 22, 3) := by decide +kernel
theorem dX5_add_39 : decode cX5_add 39 = .ok (.iload_n 3, 1) := by decide +kernel
theorem dX5_add_40 : decode cX5_add 40 = .ok (.bastore, 1) := by decide +kernel
theorem dX5_add_41 : decode cX5_add 41 = .ok (.aload_n 0, 1) := by decide +kernel
theorem dX5_add_42 : decode cX5_add 42 = .ok (.dup, 1) := by decide +kernel
theorem dX5_add_43 : decode cX5_add 43 = .ok (.getfield 22, 3) := by decide +kernel
theorem dX5_add_46 : decode cX5_add 46 = .ok (.iconst 1, 1) := by decide +kernel
theorem dX5_add_47 : decode cX5_add 47 = .ok (.iadd, 1) := by decide +kernel
theorem dX5_add_48 : decode cX5_add 48 = .ok (.putfield 22, 3) := by decide +kernel
theorem dX5_add_51 : decode cX5_add 51 = .ok (.iconst 1, 1) := by decide +kernel
theorem dX5_add_52 : decode cX5_add 52 = .ok (.ireturn, 1) := by decide +kernel
set_option maxHeartbeats 4000000 in
set_option maxRecDepth 100000 in
theorem mX5_add (l : Launch) (D : va_G) (k : Nat → ClassId) (sz : Nat) (sg : Nat) (q1 : Int32) (q2 : Int32) (q3 : Int32) (sg0 : Nat) (sg1 : Nat) (sg2 : Nat) (sf0 : Nat → Int32) (sf1 : Nat → Int32) (sf2 : Nat → Int32) : Met l yX5_add wsX5_add ({ frames := 0, cells := 0, slots := 0, locals := 0 }) (va_Pc [.ref sg, .int q1, .int q2, .int q3] (kz_Pre D k [(sg, kO 5 [.ref sg0, .ref sg1, .ref sg2, .int 0]), (sg0, kI k 8 sf0), (sg1, kI k 8 sf1), (sg2, kZ k 8 sf2)] sz)) (va_Qi (fun (rr : Int32) (uu : Unit) => rr = 1) (fun uu zt => kz_B D (va_A [(sg, kO 5 [.ref sg0, .ref sg1, .ref sg2, .int 0]), (sg0, kI k 8 sf0), (sg1, kI k 8 sf1), (sg2, kZ k 8 sf2)] sz) [] zt) (va_A [(sg, kO 5 [.ref sg0, .ref sg1, .ref sg2, .int 0]), (sg0, kI k 8 sf0), (sg1, kI k 8 sf1), (sg2, kZ k 8 sf2)] sz)) 0 0 (va_A [(sg, kO 5 [.ref sg0, .ref sg1, .ref sg2, .int 0]), (sg0, kI k 8 sf0), (sg1, kI k 8 sf1), (sg2, kZ k 8 sf2)] sz) := by
  refine Met.ofW (cc := cX5_add) (maxL := 4) (ret := (some .boolean)) (by decide) rfl ?_
  intro p e s m args below meth c s₁ B hml hv
  obtain ⟨hav, hsz, hP, hK, hD0, hE⟩ := hv
  have hx := B.exec
  have hb := B.bytes
  have hr := B.returns
  have hts := atoms_spec (ws := wsX5_add) B.pre
  have hown : s.vm.findClass RX5 = some m.cls := findClass_of_methodNamed B.named
  have hlocks := B.notSynchronized
  have hi5 : ∀ w ∈ u_ws RX5 TX5 4, w ∈ wsX5_add := by decide +kernel
  have lf22 := hts (.fieldLink RX5 22 "LastCook$Sights" "size" "I") (by decide +kernel)
  have lf11 := hts (.fieldLink RX5 11 "LastCook$Sights" "minutes" "[I") (by decide +kernel)
  have lf15 := hts (.fieldLink RX5 15 "LastCook$Sights" "yards" "[I") (by decide +kernel)
  have lf18 := hts (.fieldLink RX5 18 "LastCook$Sights" "near" "[Z") (by decide +kernel)
  subst hsz
  have hD := hD0.self (sz := s.heap.size)
  generalize hAe : va_A [(sg, kO 5 [.ref sg0, .ref sg1, .ref sg2, .int 0]), (sg0, kI k 8 sf0), (sg1, kI k 8 sf1), (sg2, kZ k 8 sf2)] s.heap.size = A at hD ⊢
  have hA : ∀ q : Nat, s.heap.size ≤ q → A q := fun q h => by rw [← hAe]; exact Or.inr h
  have hS : va_S A s.heap s.heap [] := va_S.rf
  have hl := lv_entry ([.ref sg, .int q1, .int q2, .int q3]) (n := 4) (Nat.le_of_ble_eq_true rfl)
  rw [show entryFrame m args 4 = entryFrame m ([.ref sg, .int q1, .int q2, .int q3] : List Value).toArray 4 by rw [hav], lg_entry_eq]
  generalize (lg_sl ([.ref sg, .int q1, .int q2, .int q3]) ++ List.replicate (4 - (lg_sl ([.ref sg, .int q1, .int q2, .int q3])).length) Slot.unset).toArray = ls at hl ⊢
  have hl : lv_has ls 4 [(0, .ref sg), (1, .int q1), (2, .int q2), (3, .int q3)] := hl
  obtain ⟨R, hR⟩ : ∃ R, R = (headSpec wsX5_add ({ frames := 0, cells := 0, slots := 0, locals := 0 } : Room)).room := ⟨_, rfl⟩
  rw [← hR]
  generalize hQ : MQ below _ args s 0 0 A = Q
  replace hQ := hQ.symm
  obtain ⟨H, hH⟩ : ∃ H, H = s.heap := ⟨_, rfl⟩
  rw [← hH] at hP ⊢
  have hS : va_S A s.heap H [] := by rw [hH]; exact hS
  refine lv_aload_n hx hb dX5_add_0 rfl (lv_at hl 0 rfl) ?_
  refine va_get (D := D) (ci := 5) (v := .int 0) (C := RX5) (T := TX5) (N := 4) hx hb hts hi5 hown hK hP 0 rfl rfl 3 (by decide) lf22 (fun _ h9 => h9) rfl dX5_add_1 ?_
  refine lv_bipush (v := 8) hx hb dX5_add_4 (by decide) ?_
  refine lv_icmp_lt (tgt := 11) hx hb dX5_add_6 (by decide) (fun c_1 => ?_) (fun c_1 => absurd (by decide) c_1)
  refine lv_aload_n hx hb dX5_add_11 rfl (lv_at hl 0 rfl) ?_
  refine va_get (D := D) (ci := 5) (v := .ref sg0) (C := RX5) (T := TX5) (N := 4) hx hb hts hi5 hown hK hP 0 rfl rfl 0 (by decide) lf11 (fun _ h9 => h9) rfl dX5_add_12 ?_
  refine lv_aload_n hx hb dX5_add_15 rfl (lv_at hl 0 rfl) ?_
  refine va_get (D := D) (ci := 5) (v := .int 0) (C := RX5) (T := TX5) (N := 4) hx hb hts hi5 hown hK hP 0 rfl rfl 3 (by decide) lf22 (fun _ h9 => h9) rfl dX5_add_16 ?_
  refine lv_iload_n hx hb dX5_add_19 rfl (lv_at hl 1 rfl) ?_
  refine va_iast hx hb hK hP hD hS 1 0 rfl rfl (vp_in_iff.mpr (by decide)) dX5_add_20 (fun H locs hP hD hS => ?_)
  have hP : va_P D vwCl [(sg, kO 5 [.ref sg0, .ref sg1, .ref sg2, .int 0]), (sg0, kI k 8 (upd sf0 (Int32.toNatClampNeg 0) q1)), (sg1, kI k 8 sf1), (sg2, kZ k 8 sf2)] H := hP
  have hD : va_D A [(sg, kO 5 [.ref sg0, .ref sg1, .ref sg2, .int 0]), (sg0, kI k 8 (upd sf0 (Int32.toNatClampNeg 0) q1)), (sg1, kI k 8 sf1), (sg2, kZ k 8 sf2)] := hD
  refine lv_aload_n hx hb dX5_add_21 rfl (lv_at hl 0 rfl) ?_
  refine va_get (D := D) (ci := 5) (v := .ref sg1) (C := RX5) (T := TX5) (N := 4) hx hb hts hi5 hown hK hP 0 rfl rfl 1 (by decide) lf15 (fun _ h9 => h9) rfl dX5_add_22 ?_
  refine lv_aload_n hx hb dX5_add_25 rfl (lv_at hl 0 rfl) ?_
  refine va_get (D := D) (ci := 5) (v := .int 0) (C := RX5) (T := TX5) (N := 4) hx hb hts hi5 hown hK hP 0 rfl rfl 3 (by decide) lf22 (fun _ h9 => h9) rfl dX5_add_26 ?_
  refine lv_iload_n hx hb dX5_add_29 rfl (lv_at hl 2 rfl) ?_
  refine va_iast hx hb hK hP hD hS 2 0 rfl rfl (vp_in_iff.mpr (by decide)) dX5_add_30 (fun H locs hP hD hS => ?_)
  have hP : va_P D vwCl [(sg, kO 5 [.ref sg0, .ref sg1, .ref sg2, .int 0]), (sg0, kI k 8 (upd sf0 (Int32.toNatClampNeg 0) q1)), (sg1, kI k 8 (upd sf1 (Int32.toNatClampNeg 0) q2)), (sg2, kZ k 8 sf2)] H := hP
  have hD : va_D A [(sg, kO 5 [.ref sg0, .ref sg1, .ref sg2, .int 0]), (sg0, kI k 8 (upd sf0 (Int32.toNatClampNeg 0) q1)), (sg1, kI k 8 (upd sf1 (Int32.toNatClampNeg 0) q2)), (sg2, kZ k 8 sf2)] := hD
  refine lv_aload_n hx hb dX5_add_31 rfl (lv_at hl 0 rfl) ?_
  refine va_get (D := D) (ci := 5) (v := .ref sg2) (C := RX5) (T := TX5) (N := 4) hx hb hts hi5 hown hK hP 0 rfl rfl 2 (by decide) lf18 (fun _ h9 => h9) rfl dX5_add_32 ?_
  refine lv_aload_n hx hb dX5_add_35 rfl (lv_at hl 0 rfl) ?_
  refine va_get (D := D) (ci := 5) (v := .int 0) (C := RX5) (T := TX5) (N := 4) hx hb hts hi5 hown hK hP 0 rfl rfl 3 (by decide) lf22 (fun _ h9 => h9) rfl dX5_add_36 ?_
  refine lv_iload_n hx hb dX5_add_39 rfl (lv_at hl 3 rfl) ?_
  refine va_zast hx hb hK hP hD hS 3 3 rfl rfl (vp_in_iff.mpr (by decide)) dX5_add_40 (fun H locs hP hD hS => ?_)
  have hP : va_P D vwCl [(sg, kO 5 [.ref sg0, .ref sg1, .ref sg2, .int 0]), (sg0, kI k 8 (upd sf0 (Int32.toNatClampNeg 0) q1)), (sg1, kI k 8 (upd sf1 (Int32.toNatClampNeg 0) q2)), (sg2, kZ k 8 (upd sf2 (Int32.toNatClampNeg 0) (vp_nar .boolean q3)))] H := hP
  have hD : va_D A [(sg, kO 5 [.ref sg0, .ref sg1, .ref sg2, .int 0]), (sg0, kI k 8 (upd sf0 (Int32.toNatClampNeg 0) q1)), (sg1, kI k 8 (upd sf1 (Int32.toNatClampNeg 0) q2)), (sg2, kZ k 8 (upd sf2 (Int32.toNatClampNeg 0) (vp_nar .boolean q3)))] := hD
  refine lv_aload_n hx hb dX5_add_41 rfl (lv_at hl 0 rfl) ?_
  refine lv_dup hx hb dX5_add_42 rfl ?_
  refine va_get (D := D) (ci := 5) (v := .int 0) (C := RX5) (T := TX5) (N := 4) hx hb hts hi5 hown hK hP 0 rfl rfl 3 (by decide) lf22 (fun _ h9 => h9) rfl dX5_add_43 ?_
  refine lv_iconst (v := 1) hx hb dX5_add_46 (by decide) ?_
  refine lv_iadd hx hb dX5_add_47 ?_
  refine lv_topi (fun x2 ex2 => ?_)
  obtain rfl : x2 = 1 := ex2.trans (by decide)
  refine va_put (D := D) (ci := 5) (v := .int 1) (ty := .int) (C := RX5) (T := TX5) (N := 4) hx hb hts hi5 tyX5 tyX5_ok nmX5 hown hK hP hD hS 0 rfl rfl 3 (by decide) lf22 (fun _ h9 => h9) rfl (by decide +kernel) rfl rfl (Nat.le_of_ble_eq_true rfl) dX5_add_48 (fun H locs hP hD hS => ?_)
  have hP : va_P D vwCl [(sg, kO 5 [.ref sg0, .ref sg1, .ref sg2, .int 1]), (sg0, kI k 8 (upd sf0 (Int32.toNatClampNeg 0) q1)), (sg1, kI k 8 (upd sf1 (Int32.toNatClampNeg 0) q2)), (sg2, kZ k 8 (upd sf2 (Int32.toNatClampNeg 0) (vp_nar .boolean q3)))] H := hP
  have hD : va_D A [(sg, kO 5 [.ref sg0, .ref sg1, .ref sg2, .int 1]), (sg0, kI k 8 (upd sf0 (Int32.toNatClampNeg 0) q1)), (sg1, kI k 8 (upd sf1 (Int32.toNatClampNeg 0) q2)), (sg2, kZ k 8 (upd sf2 (Int32.toNatClampNeg 0) (vp_nar .boolean q3)))] := hD
  refine lv_iconst (v := 1) hx hb dX5_add_51 (by decide) ?_
  rw [hQ]
  have hP9 := hP.sub (ws' := []) [] rfl
  have hD9 := hD.sub (ws' := []) [] (by decide) rfl
  exact W.zret (v := 1) hx hb hr rfl (fun zt ht hW => ⟨⟨1, (), rfl, rfl, by rw [ht]; exact hP9, hD9⟩, hS.F ht⟩) hS.2.2 dX5_add_52
theorem dX8_see_0 : decode cX8_see 0 = .ok (.iload_n 1, 1) := by decide +kernel
theorem dX8_see_1 : decode cX8_see 1 = .ok (.iconst 0, 1) := by decide +kernel
theorem dX8_see_2 : decode cX8_see 2 = .ok (.bipush 60, 2) := by decide +kernel
theorem dX8_see_4 : decode cX8_see 4 = .ok (.invokestatic 137, 3) := by decide +kernel
theorem dX8_see_7 : decode cX8_see 7 = .ok (.ifCond .eq 14, 3) := by decide +kernel
theorem dX8_see_10 : decode cX8_see 10 = .ok (.iload_n 2, 1) := by decide +kernel
theorem dX8_see_11 : decode cX8_see 11 = .ok (.iconst 0, 1) := by decide +kernel
theorem dX8_see_12 : decode cX8_see 12 = .ok (.sipush 300, 3) := by decide +kernel
theorem dX8_see_15 : decode cX8_see 15 = .ok (.invokestatic 137, 3) := by decide +kernel
theorem dX8_see_18 : decode cX8_see 18 = .ok (.ifCond .ne 5, 3) := by decide +kernel
theorem dX8_see_21 : decode cX8_see 21 = .ok (.iconst 0, 1) := by decide +kernel
theorem dX8_see_22 : decode cX8_see 22 = .ok (.ireturn, 1) := by decide +kernel
theorem dX8_see_23 : decode cX8_see 23 = .ok (.aload_n 0, 1) := by decide +kernel
theorem dX8_see_24 : decode cX8_see 24 = .ok (.getfield 49, 3) := by decide +kernel
theorem dX8_see_27 : decode cX8_see 27 = .ok (.iload_n 1, 1) := by decide +kernel
theorem dX8_see_28 : decode cX8_see 28 = .ok (.iload_n 2, 1) := by decide +kernel
theorem dX8_see_29 : decode cX8_see 29 = .ok (.iload_n 3, 1) := by decide +kernel
theorem dX8_see_30 : decode cX8_see 30 = .ok (.invokevirtual 240, 3) := by decide +kernel
theorem dX8_see_33 : decode cX8_see 33 = .ok (.ireturn, 1) := by decide +kernel
set_option maxRecDepth 20000 in
theorem ggX8_see_X8_isWithin : GoodIn wsX8_see wsX8_isWithin := goodIn_r _ [5] rfl (by decide +kernel)
set_option maxRecDepth 20000 in
theorem gX8_see_X8_isWithin : GoodIn wsX8_see (va_wsS RX8 137 yX8_isWithin wsX8_isWithin) := goodIn_app (goodIn_of _ (by decide +kernel)) ggX8_see_X8_isWithin
set_option maxRecDepth 20000 in
theorem ggX8_see_X5_add : GoodIn wsX8_see wsX5_add := goodIn_r _ [10, 11, 12, 13, 14, 26, 27, 28, 29] rfl (by decide +kernel)
set_option maxRecDepth 20000 in
theorem gX8_see_X5_add : GoodIn wsX8_see (wsV RX8 240 RX5 yX5_add wsX5_add) := goodIn_app (goodIn_of _ (by decide +kernel)) ggX8_see_X5_add
set_option maxHeartbeats 4000000 in
set_option maxRecDepth 100000 in
theorem mX8_see (l : Launch) (D : va_G) (k : Nat → ClassId) (sz : Nat) (x : Nat) (q1 : Int32) (q2 : Int32) (q3 : Int32) (x_tape : Value) (x_told : Value) (x_draft : Value) (x_lines : Value) (x_draftLines : Value) (x_now : Value) (x_trial : Value) (sg : Nat) (x_past : Value) (x_marks : Value) (x_drawn : Int64) (sg0 : Nat) (sg1 : Nat) (sg2 : Nat) (sf0 : Nat → Int32) (sf1 : Nat → Int32) (sf2 : Nat → Int32) : Met l yX8_see wsX8_see ({ frames := 1, cells := 0, slots := 0, locals := 70 }) (va_Pc [.ref x, .int q1, .int q2, .int q3] (kz_Pre D k [(x, kO 8 [x_tape, x_told, x_draft, x_lines, x_draftLines, x_now, x_trial, .ref sg, x_past, x_marks, .long x_drawn]), (sg, kO 5 [.ref sg0, .ref sg1, .ref sg2, .int 0]), (sg0, kI k 8 sf0), (sg1, kI k 8 sf1), (sg2, kZ k 8 sf2)] sz)) (va_Qi (fun (rr : Int32) (uu : Unit) => rr = aS q1 q2) (fun uu zt => kz_B D (va_A [(x, kO 8 [x_tape, x_told, x_draft, x_lines, x_draftLines, x_now, x_trial, .ref sg, x_past, x_marks, .long x_drawn]), (sg, kO 5 [.ref sg0, .ref sg1, .ref sg2, .int 0]), (sg0, kI k 8 sf0), (sg1, kI k 8 sf1), (sg2, kZ k 8 sf2)] sz) [] zt) (va_A [(x, kO 8 [x_tape, x_told, x_draft, x_lines, x_draftLines, x_now, x_trial, .ref sg, x_past, x_marks, .long x_drawn]), (sg, kO 5 [.ref sg0, .ref sg1, .ref sg2, .int 0]), (sg0, kI k 8 sf0), (sg1, kI k 8 sf1), (sg2, kZ k 8 sf2)] sz)) 0 0 (va_A [(x, kO 8 [x_tape, x_told, x_draft, x_lines, x_draftLines, x_now, x_trial, .ref sg, x_past, x_marks, .long x_drawn]), (sg, kO 5 [.ref sg0, .ref sg1, .ref sg2, .int 0]), (sg0, kI k 8 sf0), (sg1, kI k 8 sf1), (sg2, kZ k 8 sf2)] sz) := by
  refine Met.ofW (cc := cX8_see) (maxL := 4) (ret := (some .boolean)) (by decide) rfl ?_
  intro p e s m args below meth c s₁ B hml hv
  obtain ⟨hav, hsz, hP, hK, hD0, hE⟩ := hv
  have hx := B.exec
  have hb := B.bytes
  have hr := B.returns
  have hts := atoms_spec (ws := wsX8_see) B.pre
  have hown : s.vm.findClass RX8 = some m.cls := findClass_of_methodNamed B.named
  have hlocks := B.notSynchronized
  have hi8 : ∀ w ∈ u_ws RX8 TX8 11, w ∈ wsX8_see := by decide +kernel
  have lf49 := hts (.fieldLink RX8 49 "LastCook" "sights" "LLastCook$Sights;") (by decide +kernel)
  subst hsz
  have hD := hD0.self (sz := s.heap.size)
  generalize hAe : va_A [(x, kO 8 [x_tape, x_told, x_draft, x_lines, x_draftLines, x_now, x_trial, .ref sg, x_past, x_marks, .long x_drawn]), (sg, kO 5 [.ref sg0, .ref sg1, .ref sg2, .int 0]), (sg0, kI k 8 sf0), (sg1, kI k 8 sf1), (sg2, kZ k 8 sf2)] s.heap.size = A at hD ⊢
  have hA : ∀ q : Nat, s.heap.size ≤ q → A q := fun q h => by rw [← hAe]; exact Or.inr h
  have hS : va_S A s.heap s.heap [] := va_S.rf
  have hl := lv_entry ([.ref x, .int q1, .int q2, .int q3]) (n := 4) (Nat.le_of_ble_eq_true rfl)
  rw [show entryFrame m args 4 = entryFrame m ([.ref x, .int q1, .int q2, .int q3] : List Value).toArray 4 by rw [hav], lg_entry_eq]
  generalize (lg_sl ([.ref x, .int q1, .int q2, .int q3]) ++ List.replicate (4 - (lg_sl ([.ref x, .int q1, .int q2, .int q3])).length) Slot.unset).toArray = ls at hl ⊢
  have hl : lv_has ls 4 [(0, .ref x), (1, .int q1), (2, .int q2), (3, .int q3)] := hl
  obtain ⟨R, hR⟩ : ∃ R, R = (headSpec wsX8_see ({ frames := 1, cells := 0, slots := 0, locals := 70 } : Room)).room := ⟨_, rfl⟩
  rw [← hR]
  generalize hQ : MQ below _ args s 0 0 A = Q
  replace hQ := hQ.symm
  obtain ⟨H, hH⟩ : ∃ H, H = s.heap := ⟨_, rfl⟩
  rw [← hH] at hP ⊢
  have hS : va_S A s.heap H [] := by rw [hH]; exact hS
  refine lv_iload_n hx hb dX8_see_0 rfl (lv_at hl 1 rfl) ?_
  refine lv_iconst (v := 0) hx hb dX8_see_1 (by decide) ?_
  refine lv_bipush (v := 60) hx hb dX8_see_2 (by decide) ?_
  refine kz_Si (As := [.int q1, .int 0, .int 60]) (rest := []) (wc := []) (wr := [(x, kO 8 [x_tape, x_told, x_draft, x_lines, x_draftLines, x_now, x_trial, .ref sg, x_past, x_marks, .long x_drawn]), (sg, kO 5 [.ref sg0, .ref sg1, .ref sg2, .int 0]), (sg0, kI k 8 sf0), (sg1, kI k 8 sf1), (sg2, kZ k 8 sf2)]) ⟨hx, hb, hml, hown, hts⟩ hK hE hP hD hS hA (mX8_isWithin l D k H.size q1 0 60) (va_cwS 3 hts gX8_see_X8_isWithin rfl rfl rfl (by decide +kernel) (by rw [hR]; exact ⟨Nat.le_of_ble_eq_true rfl, Nat.le_of_ble_eq_true rfl⟩)) [] [0, 1, 2, 3, 4] rfl rfl (by decide) (by decide) (by decide) rfl hl.1 rfl (Nat.le_of_ble_eq_true rfl) dX8_see_4 (by rw [hR]; exact ⟨Nat.le_of_ble_eq_true rfl, Nat.le_of_ble_eq_true rfl⟩) (fun r1 u1 H locs hw1 hP hD hS => ?_)
  try dsimp only at hw1
  obtain rfl : r1 = bz (0 ≤ q1 ∧ q1 ≤ 60) := hw1
  have hP : va_P D vwCl [(x, kO 8 [x_tape, x_told, x_draft, x_lines, x_draftLines, x_now, x_trial, .ref sg, x_past, x_marks, .long x_drawn]), (sg, kO 5 [.ref sg0, .ref sg1, .ref sg2, .int 0]), (sg0, kI k 8 sf0), (sg1, kI k 8 sf1), (sg2, kZ k 8 sf2)] H := hP
  have hD : va_D A [(x, kO 8 [x_tape, x_told, x_draft, x_lines, x_draftLines, x_now, x_trial, .ref sg, x_past, x_marks, .long x_drawn]), (sg, kO 5 [.ref sg0, .ref sg1, .ref sg2, .int 0]), (sg0, kI k 8 sf0), (sg1, kI k 8 sf1), (sg2, kZ k 8 sf2)] := hD
  refine lv_if_eq (tgt := 21) hx hb dX8_see_7 (by decide) (fun c_2 => ?_) (fun c_2 => ?_)
  · skip
    refine lv_iconst (v := 0) hx hb dX8_see_21 (by decide) ?_
    rw [hQ]
    have hP9 := hP.sub (ws' := []) [] rfl
    have hD9 := hD.sub (ws' := []) [] (by decide) rfl
    exact W.zret (v := 0) hx hb hr rfl (fun zt ht hW => ⟨⟨0, (), rfl, (by unfold aS; rw [if_neg (bz_0 c_2)]), by rw [ht]; exact hP9, hD9⟩, hS.F ht⟩) hS.2.2 dX8_see_22
  · skip
    refine lv_iload_n hx hb dX8_see_10 rfl (lv_at hl 2 rfl) ?_
    refine lv_iconst (v := 0) hx hb dX8_see_11 (by decide) ?_
    refine lv_sipush (v := 300) hx hb dX8_see_12 (by decide) ?_
    refine kz_Si (As := [.int q2, .int 0, .int 300]) (rest := []) (wc := []) (wr := [(x, kO 8 [x_tape, x_told, x_draft, x_lines, x_draftLines, x_now, x_trial, .ref sg, x_past, x_marks, .long x_drawn]), (sg, kO 5 [.ref sg0, .ref sg1, .ref sg2, .int 0]), (sg0, kI k 8 sf0), (sg1, kI k 8 sf1), (sg2, kZ k 8 sf2)]) ⟨hx, hb, hml, hown, hts⟩ hK hE hP hD hS hA (mX8_isWithin l D k H.size q2 0 300) (va_cwS 3 hts gX8_see_X8_isWithin rfl rfl rfl (by decide +kernel) (by rw [hR]; exact ⟨Nat.le_of_ble_eq_true rfl, Nat.le_of_ble_eq_true rfl⟩)) [] [0, 1, 2, 3, 4] rfl rfl (by decide) (by decide) (by decide) rfl hl.1 rfl (Nat.le_of_ble_eq_true rfl) dX8_see_15 (by rw [hR]; exact ⟨Nat.le_of_ble_eq_true rfl, Nat.le_of_ble_eq_true rfl⟩) (fun r3 u3 H locs hw3 hP hD hS => ?_)
    try dsimp only at hw3
    obtain rfl : r3 = bz (0 ≤ q2 ∧ q2 ≤ 300) := hw3
    have hP : va_P D vwCl [(x, kO 8 [x_tape, x_told, x_draft, x_lines, x_draftLines, x_now, x_trial, .ref sg, x_past, x_marks, .long x_drawn]), (sg, kO 5 [.ref sg0, .ref sg1, .ref sg2, .int 0]), (sg0, kI k 8 sf0), (sg1, kI k 8 sf1), (sg2, kZ k 8 sf2)] H := hP
    have hD : va_D A [(x, kO 8 [x_tape, x_told, x_draft, x_lines, x_draftLines, x_now, x_trial, .ref sg, x_past, x_marks, .long x_drawn]), (sg, kO 5 [.ref sg0, .ref sg1, .ref sg2, .int 0]), (sg0, kI k 8 sf0), (sg1, kI k 8 sf1), (sg2, kZ k 8 sf2)] := hD
    refine lv_if_ne (tgt := 23) hx hb dX8_see_18 (by decide) (fun c_4 => ?_) (fun c_4 => ?_)
    · skip
      refine lv_aload_n hx hb dX8_see_23 rfl (lv_at hl 0 rfl) ?_
      refine va_get (D := D) (ci := 8) (v := .ref sg) (C := RX8) (T := TX8) (N := 11) hx hb hts hi8 hown hK hP 0 rfl rfl 7 (by decide) lf49 (fun _ h9 => h9) rfl dX8_see_24 ?_
      refine lv_iload_n hx hb dX8_see_27 rfl (lv_at hl 1 rfl) ?_
      refine lv_iload_n hx hb dX8_see_28 rfl (lv_at hl 2 rfl) ?_
      refine lv_iload_n hx hb dX8_see_29 rfl (lv_at hl 3 rfl) ?_
      refine kz_Vi (As := [.int q1, .int q2, .int q3]) (rest := []) (wc := [(sg, kO 5 [.ref sg0, .ref sg1, .ref sg2, .int 0]), (sg0, kI k 8 sf0), (sg1, kI k 8 sf1), (sg2, kZ k 8 sf2)]) (wr := [(x, kO 8 [x_tape, x_told, x_draft, x_lines, x_draftLines, x_now, x_trial, .ref sg, x_past, x_marks, .long x_drawn])]) ⟨hx, hb, hml, hown, hts⟩ hK hE hP hD hS hA (mX5_add l D k H.size sg q1 q2 q3 sg0 sg1 sg2 sf0 sf1 sf2) (cwV 3 hts gX8_see_X5_add rfl rfl rfl (by decide +kernel) (by rw [hR]; exact ⟨Nat.le_of_ble_eq_true rfl, Nat.le_of_ble_eq_true rfl⟩)) [1, 2, 3, 4] [0] rfl rfl (by decide) (by decide) (by decide) 0 rfl rfl rfl hl.1 rfl (Nat.le_of_ble_eq_true rfl) dX8_see_30 (by rw [hR]; exact ⟨Nat.le_of_ble_eq_true rfl, Nat.le_of_ble_eq_true rfl⟩) (fun r5 u5 H locs hw5 hP hD hS => ?_)
      try dsimp only at hw5
      obtain rfl : r5 = 1 := hw5
      have hP : va_P D vwCl [(x, kO 8 [x_tape, x_told, x_draft, x_lines, x_draftLines, x_now, x_trial, .ref sg, x_past, x_marks, .long x_drawn])] H := hP
      have hD : va_D A [(x, kO 8 [x_tape, x_told, x_draft, x_lines, x_draftLines, x_now, x_trial, .ref sg, x_past, x_marks, .long x_drawn])] := hD
      rw [hQ]
      have hP9 := hP.sub (ws' := []) [] rfl
      have hD9 := hD.sub (ws' := []) [] (by decide) rfl
      exact W.zret (v := 1) hx hb hr rfl (fun zt ht hW => ⟨⟨1, (), rfl, (by unfold aS; rw [if_pos (bz_1 c_2), if_pos (bz_1 c_4)]), by rw [ht]; exact hP9, hD9⟩, hS.F ht⟩) hS.2.2 dX8_see_33
    · skip
      refine lv_iconst (v := 0) hx hb dX8_see_21 (by decide) ?_
      rw [hQ]
      have hP9 := hP.sub (ws' := []) [] rfl
      have hD9 := hD.sub (ws' := []) [] (by decide) rfl
      exact W.zret (v := 0) hx hb hr rfl (fun zt ht hW => ⟨⟨0, (), rfl, (by unfold aS; rw [if_pos (bz_1 c_2), if_neg (bz_0 c_4)]), by rw [ht]; exact hP9, hD9⟩, hS.F ht⟩) hS.2.2 dX8_see_22
theorem dX5_lastMinute_0 : decode cX5_lastMinute 0 = .ok (.iconst (-1), 1) := by decide +kernel
theorem dX5_lastMinute_1 : decode cX5_lastMinute 1 = .ok (.istore_n 1, 1) := by decide +kernel
theorem dX5_lastMinute_2 : decode cX5_lastMinute 2 = .ok (.iconst 0, 1) := by decide +kernel
theorem dX5_lastMinute_3 : decode cX5_lastMinute 3 = .ok (.istore_n 2, 1) := by decide +kernel
theorem dX5_lastMinute_4 : decode cX5_lastMinute 4 = .ok (.iload_n 2, 1) := by decide +kernel
theorem dX5_lastMinute_5 : decode cX5_lastMinute 5 = .ok (.aload_n 0, 1) := by decide +kernel
theorem dX5_lastMinute_6 : decode cX5_lastMinute 6 = .ok (.getfield 22, 3) := by decide +kernel
theorem dX5_lastMinute_9 : decode cX5_lastMinute 9 = .ok (.if_icmp .ge 20, 3) := by decide +kernel
theorem dX5_lastMinute_29 : decode cX5_lastMinute 29 = .ok (.iload_n 1, 1) := by decide +kernel
theorem dX5_lastMinute_30 : decode cX5_lastMinute 30 = .ok (.ireturn, 1) := by decide +kernel
set_option maxHeartbeats 4000000 in
set_option maxRecDepth 100000 in
theorem mX5_lastMinute (l : Launch) (D : va_G) (k : Nat → ClassId) (sz : Nat) (sg : Nat) (sg_minutes : Value) (sg_yards : Value) (sg_near : Value) : Met l yX5_lastMinute wsX5_lastMinute ({ frames := 0, cells := 0, slots := 0, locals := 0 }) (va_Pc [.ref sg] (kz_Pre D k [(sg, kO 5 [sg_minutes, sg_yards, sg_near, .int 0])] sz)) (va_Qi (fun (rr : Int32) (uu : Unit) => rr = (-1)) (fun uu zt => kz_B D (va_A [(sg, kO 5 [sg_minutes, sg_yards, sg_near, .int 0])] sz) [(sg, kO 5 [sg_minutes, sg_yards, sg_near, .int 0])] zt) (va_A [(sg, kO 5 [sg_minutes, sg_yards, sg_near, .int 0])] sz)) 0 0 (va_A [(sg, kO 5 [sg_minutes, sg_yards, sg_near, .int 0])] sz) := by
  refine Met.ofW (cc := cX5_lastMinute) (maxL := 3) (ret := (some .int)) (by decide) rfl ?_
  intro p e s m args below meth c s₁ B hml hv
  obtain ⟨hav, hsz, hP, hK, hD0, hE⟩ := hv
  have hx := B.exec
  have hb := B.bytes
  have hr := B.returns
  have hts := atoms_spec (ws := wsX5_lastMinute) B.pre
  have hown : s.vm.findClass RX5 = some m.cls := findClass_of_methodNamed B.named
  have hlocks := B.notSynchronized
  have hi5 : ∀ w ∈ u_ws RX5 TX5 4, w ∈ wsX5_lastMinute := by decide +kernel
  have lf22 := hts (.fieldLink RX5 22 "LastCook$Sights" "size" "I") (by decide +kernel)
  subst hsz
  have hD := hD0.self (sz := s.heap.size)
  generalize hAe : va_A [(sg, kO 5 [sg_minutes, sg_yards, sg_near, .int 0])] s.heap.size = A at hD ⊢
  have hA : ∀ q : Nat, s.heap.size ≤ q → A q := fun q h => by rw [← hAe]; exact Or.inr h
  have hS : va_S A s.heap s.heap [] := va_S.rf
  have hl := lv_entry ([.ref sg]) (n := 3) (Nat.le_of_ble_eq_true rfl)
  rw [show entryFrame m args 3 = entryFrame m ([.ref sg] : List Value).toArray 3 by rw [hav], lg_entry_eq]
  generalize (lg_sl ([.ref sg]) ++ List.replicate (3 - (lg_sl ([.ref sg])).length) Slot.unset).toArray = ls at hl ⊢
  have hl : lv_has ls 3 [(0, .ref sg)] := hl
  obtain ⟨R, hR⟩ : ∃ R, R = (headSpec wsX5_lastMinute ({ frames := 0, cells := 0, slots := 0, locals := 0 } : Room)).room := ⟨_, rfl⟩
  rw [← hR]
  generalize hQ : MQ below _ args s 0 0 A = Q
  replace hQ := hQ.symm
  obtain ⟨H, hH⟩ : ∃ H, H = s.heap := ⟨_, rfl⟩
  rw [← hH] at hP ⊢
  have hS : va_S A s.heap H [] := by rw [hH]; exact hS
  refine lv_iconst (v := (-1)) hx hb dX5_lastMinute_0 (by decide) ?_
  refine lv_istore_n (lv' := [(1, .int (-1)), (0, .ref sg)]) hx hb dX5_lastMinute_1 rfl hl (by decide) rfl (fun ls hl => ?_)
  refine lv_iconst (v := 0) hx hb dX5_lastMinute_2 (by decide) ?_
  refine lv_istore_n (lv' := [(2, .int 0), (1, .int (-1)), (0, .ref sg)]) hx hb dX5_lastMinute_3 rfl hl (by decide) rfl (fun ls hl => ?_)
  refine lv_iload_n hx hb dX5_lastMinute_4 rfl (lv_at hl 0 rfl) ?_
  refine lv_aload_n hx hb dX5_lastMinute_5 rfl (lv_at hl 2 rfl) ?_
  refine va_get (D := D) (ci := 5) (v := .int 0) (C := RX5) (T := TX5) (N := 4) hx hb hts hi5 hown hK hP 0 rfl rfl 3 (by decide) lf22 (fun _ h9 => h9) rfl dX5_lastMinute_6 ?_
  refine lv_icmp_ge (tgt := 29) hx hb dX5_lastMinute_9 (by decide) (fun c_1 => ?_) (fun c_1 => absurd (by decide) c_1)
  refine lv_iload_n hx hb dX5_lastMinute_29 rfl (lv_at hl 1 rfl) ?_
  rw [hQ]
  have hP9 := hP.sub (ws' := [(sg, kO 5 [sg_minutes, sg_yards, sg_near, .int 0])]) [0] rfl
  have hD9 := hD.sub (ws' := [(sg, kO 5 [sg_minutes, sg_yards, sg_near, .int 0])]) [0] (by decide) rfl
  exact W.iret (v := (-1)) hx hb hr (fun zt ht hW => ⟨⟨(-1), (), rfl, rfl, by rw [ht]; exact hP9, hD9⟩, hS.F ht⟩) hS.2.2 dX5_lastMinute_30
theorem dX8_suspects_0 : decode cX8_suspects 0 = .ok (.aload_n 0, 1) := by decide +kernel
theorem dX8_suspects_1 : decode cX8_suspects 1 = .ok (.getfield 39, 3) := by decide +kernel
theorem dX8_suspects_4 : decode cX8_suspects 4 = .ok (.aload_n 0, 1) := by decide +kernel
theorem dX8_suspects_5 : decode cX8_suspects 5 = .ok (.getfield 19, 3) := by decide +kernel
theorem dX8_suspects_8 : decode cX8_suspects 8 = .ok (.getfield 210, 3) := by decide +kernel
theorem dX8_suspects_11 : decode cX8_suspects 11 = .ok (.sipush 300, 3) := by decide +kernel
theorem dX8_suspects_14 : decode cX8_suspects 14 = .ok (.invokevirtual 216, 3) := by decide +kernel
theorem dX8_suspects_17 : decode cX8_suspects 17 = .ok (.istore_n 1, 1) := by decide +kernel
theorem dX8_suspects_18 : decode cX8_suspects 18 = .ok (.aload_n 0, 1) := by decide +kernel
theorem dX8_suspects_19 : decode cX8_suspects 19 = .ok (.getfield 49, 3) := by decide +kernel
theorem dX8_suspects_22 : decode cX8_suspects 22 = .ok (.invokevirtual 304, 3) := by decide +kernel
theorem dX8_suspects_25 : decode cX8_suspects 25 = .ok (.istore_n 2, 1) := by decide +kernel
theorem dX8_suspects_26 : decode cX8_suspects 26 = .ok (.aload_n 0, 1) := by decide +kernel
theorem dX8_suspects_27 : decode cX8_suspects 27 = .ok (.getfield 43, 3) := by decide +kernel
theorem dX8_suspects_30 : decode cX8_suspects 30 = .ok (.aload_n 0, 1) := by decide +kernel
theorem dX8_suspects_31 : decode cX8_suspects 31 = .ok (.getfield 39, 3) := by decide +kernel
theorem dX8_suspects_34 : decode cX8_suspects 34 = .ok (.invokevirtual 179, 3) := by decide +kernel
theorem dX8_suspects_37 : decode cX8_suspects 37 = .ok (.iconst 0, 1) := by decide +kernel
theorem dX8_suspects_38 : decode cX8_suspects 38 = .ok (.istore_n 3, 1) := by decide +kernel
theorem dX8_suspects_39 : decode cX8_suspects 39 = .ok (.iload_n 3, 1) := by decide +kernel
theorem dX8_suspects_40 : decode cX8_suspects 40 = .ok (.iload_n 2, 1) := by decide +kernel
theorem dX8_suspects_41 : decode cX8_suspects 41 = .ok (.if_icmp .gt 36, 3) := by decide +kernel
theorem dX8_suspects_77 : decode cX8_suspects 77 = .ok (.iload_n 1, 1) := by decide +kernel
theorem dX8_suspects_78 : decode cX8_suspects 78 = .ok (.ireturn, 1) := by decide +kernel
set_option maxRecDepth 20000 in
theorem ggX8_suspects_X4_onRoadWithin : GoodIn wsX8_suspects wsX4_onRoadWithin := goodIn_r _ [10, 11, 12, 13, 14, 9, 15, 156, 157, 158, 159, 160, 161, 162, 163, 164, 165, 166, 167, 168] rfl (by decide +kernel)
set_option maxRecDepth 20000 in
theorem gX8_suspects_X4_onRoadWithin : GoodIn wsX8_suspects (wsV RX8 216 RX4 yX4_onRoadWithin wsX4_onRoadWithin) := goodIn_app (goodIn_of _ (by decide +kernel)) ggX8_suspects_X4_onRoadWithin
set_option maxRecDepth 20000 in
theorem ggX8_suspects_X5_lastMinute : GoodIn wsX8_suspects wsX5_lastMinute := goodIn_r _ [20, 21, 22, 23, 24, 25, 26, 169, 170, 171, 172] rfl (by decide +kernel)
set_option maxRecDepth 20000 in
theorem gX8_suspects_X5_lastMinute : GoodIn wsX8_suspects (wsV RX8 304 RX5 yX5_lastMinute wsX5_lastMinute) := goodIn_app (goodIn_of _ (by decide +kernel)) ggX8_suspects_X5_lastMinute
set_option maxRecDepth 20000 in
theorem ggX8_suspects_X4_copyFrom : GoodIn wsX8_suspects wsX4_copyFrom := goodIn_r _ [30, 11, 31, 32, 33, 34, 35, 36, 37, 38, 39, 40, 41, 42, 43, 44, 45, 156, 157, 158, 159, 160, 161, 162, 163, 164, 165, 166, 167, 168] rfl (by decide +kernel)
set_option maxRecDepth 20000 in
theorem gX8_suspects_X4_copyFrom : GoodIn wsX8_suspects (wsV RX8 179 RX4 yX4_copyFrom wsX4_copyFrom) := goodIn_app (goodIn_of _ (by decide +kernel)) ggX8_suspects_X4_copyFrom
set_option maxHeartbeats 4000000 in
set_option maxRecDepth 100000 in
theorem mX8_suspects (l : Launch) (D : va_G) (k : Nat → ClassId) (sz : Nat) (x : Nat) (x_tape : Value) (td : Nat) (x_draft : Value) (x_lines : Value) (x_draftLines : Value) (nw : Nat) (tr : Nat) (sg : Nat) (x_past : Value) (x_marks : Value) (x_drawn : Int64) (td_names : Value) (td_kinds : Value) (td_yards : Value) (td_paces : Value) (td_skills : Value) (td_snow : Value) (td_law : Value) (td_bend : Int32) (td_hour : Int32) (td_bendTold : Int32) (td_hourTold : Int32) (sg_minutes : Value) (sg_yards : Value) (sg_near : Value) (tr0 : Nat) (tr1 : Nat) (tr2 : Nat) (tr3 : Nat) (tr4 : Nat) (tr5 : Nat) (tr6 : Nat) (tr_inside : Int32) (tr_night : Int32) (tr_minute : Int32) (tr_tasted : Int32) (tr_lastCook : Int32) (tr_stirred : Int32) (trf0 : Nat → Int32) (trf1 : Nat → Int32) (trf2 : Nat → Int32) (trf3 : Nat → Int32) (trf4 : Nat → Int32) (trf5 : Nat → Int32) (trf6 : Nat → Int32) (nw0 : Nat) (nw1 : Nat) (nw2 : Nat) (nw3 : Nat) (nw4 : Nat) (nw5 : Nat) (nw6 : Nat) (nw_inside : Int32) (nw_night : Int32) (nw_minute : Int32) (nw_tasted : Int32) (nw_lastCook : Int32) (nw_stirred : Int32) (nwf0 : Nat → Int32) (nwf1 : Nat → Int32) (nwf2 : Nat → Int32) (nwf3 : Nat → Int32) (nwf4 : Nat → Int32) (nwf5 : Nat → Int32) (nwf6 : Nat → Int32) : Met l yX8_suspects wsX8_suspects ({ frames := 2, cells := 0, slots := 0, locals := 140 }) (va_Pc [.ref x] (kz_Pre D k [(x, kO 8 [x_tape, .ref td, x_draft, x_lines, x_draftLines, .ref nw, .ref tr, .ref sg, x_past, x_marks, .long x_drawn]), (td, kO 7 [td_names, td_kinds, td_yards, td_paces, td_skills, td_snow, td_law, .int 0, .int 0, .int td_bend, .int td_hour, .int td_bendTold, .int td_hourTold]), (sg, kO 5 [sg_minutes, sg_yards, sg_near, .int 0]), (tr, kO 4 [.ref tr0, .ref tr1, .ref tr2, .ref tr3, .ref tr4, .ref tr5, .ref tr6, .int tr_inside, .int tr_night, .int tr_minute, .int tr_tasted, .int tr_lastCook, .int tr_stirred]), (tr0, kI k 6 trf0), (tr1, kI k 6 trf1), (tr2, kI k 6 trf2), (tr3, kI k 6 trf3), (tr4, kI k 6 trf4), (tr5, kI k 6 trf5), (tr6, kI k 6 trf6), (nw, kO 4 [.ref nw0, .ref nw1, .ref nw2, .ref nw3, .ref nw4, .ref nw5, .ref nw6, .int nw_inside, .int nw_night, .int nw_minute, .int nw_tasted, .int nw_lastCook, .int nw_stirred]), (nw0, kI k 6 nwf0), (nw1, kI k 6 nwf1), (nw2, kI k 6 nwf2), (nw3, kI k 6 nwf3), (nw4, kI k 6 nwf4), (nw5, kI k 6 nwf5), (nw6, kI k 6 nwf6)] sz)) (va_Qi (fun (rr : Int32) (uu : Unit) => rr = 0) (fun uu zt => kz_B D (va_A [(x, kO 8 [x_tape, .ref td, x_draft, x_lines, x_draftLines, .ref nw, .ref tr, .ref sg, x_past, x_marks, .long x_drawn]), (td, kO 7 [td_names, td_kinds, td_yards, td_paces, td_skills, td_snow, td_law, .int 0, .int 0, .int td_bend, .int td_hour, .int td_bendTold, .int td_hourTold]), (sg, kO 5 [sg_minutes, sg_yards, sg_near, .int 0]), (tr, kO 4 [.ref tr0, .ref tr1, .ref tr2, .ref tr3, .ref tr4, .ref tr5, .ref tr6, .int tr_inside, .int tr_night, .int tr_minute, .int tr_tasted, .int tr_lastCook, .int tr_stirred]), (tr0, kI k 6 trf0), (tr1, kI k 6 trf1), (tr2, kI k 6 trf2), (tr3, kI k 6 trf3), (tr4, kI k 6 trf4), (tr5, kI k 6 trf5), (tr6, kI k 6 trf6), (nw, kO 4 [.ref nw0, .ref nw1, .ref nw2, .ref nw3, .ref nw4, .ref nw5, .ref nw6, .int nw_inside, .int nw_night, .int nw_minute, .int nw_tasted, .int nw_lastCook, .int nw_stirred]), (nw0, kI k 6 nwf0), (nw1, kI k 6 nwf1), (nw2, kI k 6 nwf2), (nw3, kI k 6 nwf3), (nw4, kI k 6 nwf4), (nw5, kI k 6 nwf5), (nw6, kI k 6 nwf6)] sz) [(x, kO 8 [x_tape, .ref td, x_draft, x_lines, x_draftLines, .ref nw, .ref tr, .ref sg, x_past, x_marks, .long x_drawn]), (td, kO 7 [td_names, td_kinds, td_yards, td_paces, td_skills, td_snow, td_law, .int 0, .int 0, .int td_bend, .int td_hour, .int td_bendTold, .int td_hourTold]), (sg, kO 5 [sg_minutes, sg_yards, sg_near, .int 0]), (tr, kO 4 [.ref tr0, .ref tr1, .ref tr2, .ref tr3, .ref tr4, .ref tr5, .ref tr6, .int nw_inside, .int nw_night, .int nw_minute, .int nw_tasted, .int nw_lastCook, .int tr_stirred]), (tr0, kI k 6 (va_cpy nwf0 trf0 0 0 6)), (tr1, kI k 6 (va_cpy nwf1 trf1 0 0 6)), (tr2, kI k 6 (va_cpy nwf2 trf2 0 0 6)), (tr3, kI k 6 (va_cpy nwf3 trf3 0 0 6)), (tr4, kI k 6 (va_cpy nwf4 trf4 0 0 6)), (tr5, kI k 6 (va_cpy nwf5 trf5 0 0 6)), (tr6, kI k 6 (va_cpy nwf6 trf6 0 0 6)), (nw, kO 4 [.ref nw0, .ref nw1, .ref nw2, .ref nw3, .ref nw4, .ref nw5, .ref nw6, .int nw_inside, .int nw_night, .int nw_minute, .int nw_tasted, .int nw_lastCook, .int nw_stirred]), (nw0, kI k 6 nwf0), (nw1, kI k 6 nwf1), (nw2, kI k 6 nwf2), (nw3, kI k 6 nwf3), (nw4, kI k 6 nwf4), (nw5, kI k 6 nwf5), (nw6, kI k 6 nwf6)] zt) (va_A [(x, kO 8 [x_tape, .ref td, x_draft, x_lines, x_draftLines, .ref nw, .ref tr, .ref sg, x_past, x_marks, .long x_drawn]), (td, kO 7 [td_names, td_kinds, td_yards, td_paces, td_skills, td_snow, td_law, .int 0, .int 0, .int td_bend, .int td_hour, .int td_bendTold, .int td_hourTold]), (sg, kO 5 [sg_minutes, sg_yards, sg_near, .int 0]), (tr, kO 4 [.ref tr0, .ref tr1, .ref tr2, .ref tr3, .ref tr4, .ref tr5, .ref tr6, .int tr_inside, .int tr_night, .int tr_minute, .int tr_tasted, .int tr_lastCook, .int tr_stirred]), (tr0, kI k 6 trf0), (tr1, kI k 6 trf1), (tr2, kI k 6 trf2), (tr3, kI k 6 trf3), (tr4, kI k 6 trf4), (tr5, kI k 6 trf5), (tr6, kI k 6 trf6), (nw, kO 4 [.ref nw0, .ref nw1, .ref nw2, .ref nw3, .ref nw4, .ref nw5, .ref nw6, .int nw_inside, .int nw_night, .int nw_minute, .int nw_tasted, .int nw_lastCook, .int nw_stirred]), (nw0, kI k 6 nwf0), (nw1, kI k 6 nwf1), (nw2, kI k 6 nwf2), (nw3, kI k 6 nwf3), (nw4, kI k 6 nwf4), (nw5, kI k 6 nwf5), (nw6, kI k 6 nwf6)] sz)) 0 0 (va_A [(x, kO 8 [x_tape, .ref td, x_draft, x_lines, x_draftLines, .ref nw, .ref tr, .ref sg, x_past, x_marks, .long x_drawn]), (td, kO 7 [td_names, td_kinds, td_yards, td_paces, td_skills, td_snow, td_law, .int 0, .int 0, .int td_bend, .int td_hour, .int td_bendTold, .int td_hourTold]), (sg, kO 5 [sg_minutes, sg_yards, sg_near, .int 0]), (tr, kO 4 [.ref tr0, .ref tr1, .ref tr2, .ref tr3, .ref tr4, .ref tr5, .ref tr6, .int tr_inside, .int tr_night, .int tr_minute, .int tr_tasted, .int tr_lastCook, .int tr_stirred]), (tr0, kI k 6 trf0), (tr1, kI k 6 trf1), (tr2, kI k 6 trf2), (tr3, kI k 6 trf3), (tr4, kI k 6 trf4), (tr5, kI k 6 trf5), (tr6, kI k 6 trf6), (nw, kO 4 [.ref nw0, .ref nw1, .ref nw2, .ref nw3, .ref nw4, .ref nw5, .ref nw6, .int nw_inside, .int nw_night, .int nw_minute, .int nw_tasted, .int nw_lastCook, .int nw_stirred]), (nw0, kI k 6 nwf0), (nw1, kI k 6 nwf1), (nw2, kI k 6 nwf2), (nw3, kI k 6 nwf3), (nw4, kI k 6 nwf4), (nw5, kI k 6 nwf5), (nw6, kI k 6 nwf6)] sz) := by
  refine Met.ofW (cc := cX8_suspects) (maxL := 4) (ret := (some .int)) (by decide) rfl ?_
  intro p e s m args below meth c s₁ B hml hv
  obtain ⟨hav, hsz, hP, hK, hD0, hE⟩ := hv
  have hx := B.exec
  have hb := B.bytes
  have hr := B.returns
  have hts := atoms_spec (ws := wsX8_suspects) B.pre
  have hown : s.vm.findClass RX8 = some m.cls := findClass_of_methodNamed B.named
  have hlocks := B.notSynchronized
  have hi7 : ∀ w ∈ u_ws RX7 TX7 13, w ∈ wsX8_suspects := by decide +kernel
  have hi8 : ∀ w ∈ u_ws RX8 TX8 11, w ∈ wsX8_suspects := by decide +kernel
  have lf39 := hts (.fieldLink RX8 39 "LastCook" "now" "LLastCook$Road;") (by decide +kernel)
  have lf19 := hts (.fieldLink RX8 19 "LastCook" "told" "LLastCook$Told;") (by decide +kernel)
  have lf210 := hts (.fieldLink RX8 210 "LastCook$Told" "guests" "I") (by decide +kernel)
  have lf49 := hts (.fieldLink RX8 49 "LastCook" "sights" "LLastCook$Sights;") (by decide +kernel)
  have lf43 := hts (.fieldLink RX8 43 "LastCook" "trial" "LLastCook$Road;") (by decide +kernel)
  subst hsz
  have hD := hD0.self (sz := s.heap.size)
  generalize hAe : va_A [(x, kO 8 [x_tape, .ref td, x_draft, x_lines, x_draftLines, .ref nw, .ref tr, .ref sg, x_past, x_marks, .long x_drawn]), (td, kO 7 [td_names, td_kinds, td_yards, td_paces, td_skills, td_snow, td_law, .int 0, .int 0, .int td_bend, .int td_hour, .int td_bendTold, .int td_hourTold]), (sg, kO 5 [sg_minutes, sg_yards, sg_near, .int 0]), (tr, kO 4 [.ref tr0, .ref tr1, .ref tr2, .ref tr3, .ref tr4, .ref tr5, .ref tr6, .int tr_inside, .int tr_night, .int tr_minute, .int tr_tasted, .int tr_lastCook, .int tr_stirred]), (tr0, kI k 6 trf0), (tr1, kI k 6 trf1), (tr2, kI k 6 trf2), (tr3, kI k 6 trf3), (tr4, kI k 6 trf4), (tr5, kI k 6 trf5), (tr6, kI k 6 trf6), (nw, kO 4 [.ref nw0, .ref nw1, .ref nw2, .ref nw3, .ref nw4, .ref nw5, .ref nw6, .int nw_inside, .int nw_night, .int nw_minute, .int nw_tasted, .int nw_lastCook, .int nw_stirred]), (nw0, kI k 6 nwf0), (nw1, kI k 6 nwf1), (nw2, kI k 6 nwf2), (nw3, kI k 6 nwf3), (nw4, kI k 6 nwf4), (nw5, kI k 6 nwf5), (nw6, kI k 6 nwf6)] s.heap.size = A at hD ⊢
  have hA : ∀ q : Nat, s.heap.size ≤ q → A q := fun q h => by rw [← hAe]; exact Or.inr h
  have hS : va_S A s.heap s.heap [] := va_S.rf
  have hl := lv_entry ([.ref x]) (n := 4) (Nat.le_of_ble_eq_true rfl)
  rw [show entryFrame m args 4 = entryFrame m ([.ref x] : List Value).toArray 4 by rw [hav], lg_entry_eq]
  generalize (lg_sl ([.ref x]) ++ List.replicate (4 - (lg_sl ([.ref x])).length) Slot.unset).toArray = ls at hl ⊢
  have hl : lv_has ls 4 [(0, .ref x)] := hl
  obtain ⟨R, hR⟩ : ∃ R, R = (headSpec wsX8_suspects ({ frames := 2, cells := 0, slots := 0, locals := 140 } : Room)).room := ⟨_, rfl⟩
  rw [← hR]
  generalize hQ : MQ below _ args s 0 0 A = Q
  replace hQ := hQ.symm
  obtain ⟨H, hH⟩ : ∃ H, H = s.heap := ⟨_, rfl⟩
  rw [← hH] at hP ⊢
  have hS : va_S A s.heap H [] := by rw [hH]; exact hS
  refine lv_aload_n hx hb dX8_suspects_0 rfl (lv_at hl 0 rfl) ?_
  refine va_get (D := D) (ci := 8) (v := .ref nw) (C := RX8) (T := TX8) (N := 11) hx hb hts hi8 hown hK hP 0 rfl rfl 5 (by decide) lf39 (fun _ h9 => h9) rfl dX8_suspects_1 ?_
  refine lv_aload_n hx hb dX8_suspects_4 rfl (lv_at hl 0 rfl) ?_
  refine va_get (D := D) (ci := 8) (v := .ref td) (C := RX8) (T := TX8) (N := 11) hx hb hts hi8 hown hK hP 0 rfl rfl 1 (by decide) lf19 (fun _ h9 => h9) rfl dX8_suspects_5 ?_
  refine va_get (D := D) (ci := 7) (v := .int 0) (C := RX7) (T := TX7) (N := 13) hx hb hts hi7 hown hK hP 1 rfl rfl 7 (by decide) lf210 (fun _ h9 => h9) rfl dX8_suspects_8 ?_
  refine lv_sipush (v := 300) hx hb dX8_suspects_11 (by decide) ?_
  refine kz_Vi (As := [.int 0, .int 300]) (rest := []) (wc := [(nw, kO 4 [.ref nw0, .ref nw1, .ref nw2, .ref nw3, .ref nw4, .ref nw5, .ref nw6, .int nw_inside, .int nw_night, .int nw_minute, .int nw_tasted, .int nw_lastCook, .int nw_stirred])]) (wr := [(x, kO 8 [x_tape, .ref td, x_draft, x_lines, x_draftLines, .ref nw, .ref tr, .ref sg, x_past, x_marks, .long x_drawn]), (td, kO 7 [td_names, td_kinds, td_yards, td_paces, td_skills, td_snow, td_law, .int 0, .int 0, .int td_bend, .int td_hour, .int td_bendTold, .int td_hourTold]), (sg, kO 5 [sg_minutes, sg_yards, sg_near, .int 0]), (tr, kO 4 [.ref tr0, .ref tr1, .ref tr2, .ref tr3, .ref tr4, .ref tr5, .ref tr6, .int tr_inside, .int tr_night, .int tr_minute, .int tr_tasted, .int tr_lastCook, .int tr_stirred]), (tr0, kI k 6 trf0), (tr1, kI k 6 trf1), (tr2, kI k 6 trf2), (tr3, kI k 6 trf3), (tr4, kI k 6 trf4), (tr5, kI k 6 trf5), (tr6, kI k 6 trf6), (nw0, kI k 6 nwf0), (nw1, kI k 6 nwf1), (nw2, kI k 6 nwf2), (nw3, kI k 6 nwf3), (nw4, kI k 6 nwf4), (nw5, kI k 6 nwf5), (nw6, kI k 6 nwf6)]) ⟨hx, hb, hml, hown, hts⟩ hK hE hP hD hS hA (mX4_onRoadWithin l D k H.size nw 300 (.ref nw0) (.ref nw1) (.ref nw2) (.ref nw3) (.ref nw4) (.ref nw5) (.ref nw6) nw_inside nw_night nw_minute nw_tasted nw_lastCook nw_stirred) (cwV 2 hts gX8_suspects_X4_onRoadWithin rfl rfl rfl (by decide +kernel) (by rw [hR]; exact ⟨Nat.le_of_ble_eq_true rfl, Nat.le_of_ble_eq_true rfl⟩)) [11] [0, 1, 2, 3, 4, 5, 6, 7, 8, 9, 10, 12, 13, 14, 15, 16, 17, 18] rfl rfl (by decide) (by decide) (by decide) 0 rfl rfl rfl hl.1 rfl (Nat.le_of_ble_eq_true rfl) dX8_suspects_14 (by rw [hR]; exact ⟨Nat.le_of_ble_eq_true rfl, Nat.le_of_ble_eq_true rfl⟩) (fun r1 u1 H locs hw1 hP hD hS => ?_)
  try dsimp only at hw1
  obtain rfl : r1 = 0 := hw1
  have hP : va_P D vwCl [(x, kO 8 [x_tape, .ref td, x_draft, x_lines, x_draftLines, .ref nw, .ref tr, .ref sg, x_past, x_marks, .long x_drawn]), (td, kO 7 [td_names, td_kinds, td_yards, td_paces, td_skills, td_snow, td_law, .int 0, .int 0, .int td_bend, .int td_hour, .int td_bendTold, .int td_hourTold]), (sg, kO 5 [sg_minutes, sg_yards, sg_near, .int 0]), (tr, kO 4 [.ref tr0, .ref tr1, .ref tr2, .ref tr3, .ref tr4, .ref tr5, .ref tr6, .int tr_inside, .int tr_night, .int tr_minute, .int tr_tasted, .int tr_lastCook, .int tr_stirred]), (tr0, kI k 6 trf0), (tr1, kI k 6 trf1), (tr2, kI k 6 trf2), (tr3, kI k 6 trf3), (tr4, kI k 6 trf4), (tr5, kI k 6 trf5), (tr6, kI k 6 trf6), (nw0, kI k 6 nwf0), (nw1, kI k 6 nwf1), (nw2, kI k 6 nwf2), (nw3, kI k 6 nwf3), (nw4, kI k 6 nwf4), (nw5, kI k 6 nwf5), (nw6, kI k 6 nwf6), (nw, kO 4 [.ref nw0, .ref nw1, .ref nw2, .ref nw3, .ref nw4, .ref nw5, .ref nw6, .int nw_inside, .int nw_night, .int nw_minute, .int nw_tasted, .int nw_lastCook, .int nw_stirred])] H := hP
  have hD : va_D A [(x, kO 8 [x_tape, .ref td, x_draft, x_lines, x_draftLines, .ref nw, .ref tr, .ref sg, x_past, x_marks, .long x_drawn]), (td, kO 7 [td_names, td_kinds, td_yards, td_paces, td_skills, td_snow, td_law, .int 0, .int 0, .int td_bend, .int td_hour, .int td_bendTold, .int td_hourTold]), (sg, kO 5 [sg_minutes, sg_yards, sg_near, .int 0]), (tr, kO 4 [.ref tr0, .ref tr1, .ref tr2, .ref tr3, .ref tr4, .ref tr5, .ref tr6, .int tr_inside, .int tr_night, .int tr_minute, .int tr_tasted, .int tr_lastCook, .int tr_stirred]), (tr0, kI k 6 trf0), (tr1, kI k 6 trf1), (tr2, kI k 6 trf2), (tr3, kI k 6 trf3), (tr4, kI k 6 trf4), (tr5, kI k 6 trf5), (tr6, kI k 6 trf6), (nw0, kI k 6 nwf0), (nw1, kI k 6 nwf1), (nw2, kI k 6 nwf2), (nw3, kI k 6 nwf3), (nw4, kI k 6 nwf4), (nw5, kI k 6 nwf5), (nw6, kI k 6 nwf6), (nw, kO 4 [.ref nw0, .ref nw1, .ref nw2, .ref nw3, .ref nw4, .ref nw5, .ref nw6, .int nw_inside, .int nw_night, .int nw_minute, .int nw_tasted, .int nw_lastCook, .int nw_stirred])] := hD
  refine lv_istore_n (lv' := [(1, .int 0), (0, .ref x)]) hx hb dX8_suspects_17 rfl hl (by decide) rfl (fun ls hl => ?_)
  refine lv_aload_n hx hb dX8_suspects_18 rfl (lv_at hl 1 rfl) ?_
  refine va_get (D := D) (ci := 8) (v := .ref sg) (C := RX8) (T := TX8) (N := 11) hx hb hts hi8 hown hK hP 0 rfl rfl 7 (by decide) lf49 (fun _ h9 => h9) rfl dX8_suspects_19 ?_
  refine kz_Vi (As := []) (rest := []) (wc := [(sg, kO 5 [sg_minutes, sg_yards, sg_near, .int 0])]) (wr := [(x, kO 8 [x_tape, .ref td, x_draft, x_lines, x_draftLines, .ref nw, .ref tr, .ref sg, x_past, x_marks, .long x_drawn]), (td, kO 7 [td_names, td_kinds, td_yards, td_paces, td_skills, td_snow, td_law, .int 0, .int 0, .int td_bend, .int td_hour, .int td_bendTold, .int td_hourTold]), (tr, kO 4 [.ref tr0, .ref tr1, .ref tr2, .ref tr3, .ref tr4, .ref tr5, .ref tr6, .int tr_inside, .int tr_night, .int tr_minute, .int tr_tasted, .int tr_lastCook, .int tr_stirred]), (tr0, kI k 6 trf0), (tr1, kI k 6 trf1), (tr2, kI k 6 trf2), (tr3, kI k 6 trf3), (tr4, kI k 6 trf4), (tr5, kI k 6 trf5), (tr6, kI k 6 trf6), (nw0, kI k 6 nwf0), (nw1, kI k 6 nwf1), (nw2, kI k 6 nwf2), (nw3, kI k 6 nwf3), (nw4, kI k 6 nwf4), (nw5, kI k 6 nwf5), (nw6, kI k 6 nwf6), (nw, kO 4 [.ref nw0, .ref nw1, .ref nw2, .ref nw3, .ref nw4, .ref nw5, .ref nw6, .int nw_inside, .int nw_night, .int nw_minute, .int nw_tasted, .int nw_lastCook, .int nw_stirred])]) ⟨hx, hb, hml, hown, hts⟩ hK hE hP hD hS hA (mX5_lastMinute l D k H.size sg sg_minutes sg_yards sg_near) (cwV 0 hts gX8_suspects_X5_lastMinute rfl rfl rfl (by decide +kernel) (by rw [hR]; exact ⟨Nat.le_of_ble_eq_true rfl, Nat.le_of_ble_eq_true rfl⟩)) [2] [0, 1, 3, 4, 5, 6, 7, 8, 9, 10, 11, 12, 13, 14, 15, 16, 17, 18] rfl rfl (by decide) (by decide) (by decide) 0 rfl rfl rfl hl.1 rfl (Nat.le_of_ble_eq_true rfl) dX8_suspects_22 (by rw [hR]; exact ⟨Nat.le_of_ble_eq_true rfl, Nat.le_of_ble_eq_true rfl⟩) (fun r2 u2 H locs hw2 hP hD hS => ?_)
  try dsimp only at hw2
  obtain rfl : r2 = (-1) := hw2
  have hP : va_P D vwCl [(x, kO 8 [x_tape, .ref td, x_draft, x_lines, x_draftLines, .ref nw, .ref tr, .ref sg, x_past, x_marks, .long x_drawn]), (td, kO 7 [td_names, td_kinds, td_yards, td_paces, td_skills, td_snow, td_law, .int 0, .int 0, .int td_bend, .int td_hour, .int td_bendTold, .int td_hourTold]), (tr, kO 4 [.ref tr0, .ref tr1, .ref tr2, .ref tr3, .ref tr4, .ref tr5, .ref tr6, .int tr_inside, .int tr_night, .int tr_minute, .int tr_tasted, .int tr_lastCook, .int tr_stirred]), (tr0, kI k 6 trf0), (tr1, kI k 6 trf1), (tr2, kI k 6 trf2), (tr3, kI k 6 trf3), (tr4, kI k 6 trf4), (tr5, kI k 6 trf5), (tr6, kI k 6 trf6), (nw0, kI k 6 nwf0), (nw1, kI k 6 nwf1), (nw2, kI k 6 nwf2), (nw3, kI k 6 nwf3), (nw4, kI k 6 nwf4), (nw5, kI k 6 nwf5), (nw6, kI k 6 nwf6), (nw, kO 4 [.ref nw0, .ref nw1, .ref nw2, .ref nw3, .ref nw4, .ref nw5, .ref nw6, .int nw_inside, .int nw_night, .int nw_minute, .int nw_tasted, .int nw_lastCook, .int nw_stirred]), (sg, kO 5 [sg_minutes, sg_yards, sg_near, .int 0])] H := hP
  have hD : va_D A [(x, kO 8 [x_tape, .ref td, x_draft, x_lines, x_draftLines, .ref nw, .ref tr, .ref sg, x_past, x_marks, .long x_drawn]), (td, kO 7 [td_names, td_kinds, td_yards, td_paces, td_skills, td_snow, td_law, .int 0, .int 0, .int td_bend, .int td_hour, .int td_bendTold, .int td_hourTold]), (tr, kO 4 [.ref tr0, .ref tr1, .ref tr2, .ref tr3, .ref tr4, .ref tr5, .ref tr6, .int tr_inside, .int tr_night, .int tr_minute, .int tr_tasted, .int tr_lastCook, .int tr_stirred]), (tr0, kI k 6 trf0), (tr1, kI k 6 trf1), (tr2, kI k 6 trf2), (tr3, kI k 6 trf3), (tr4, kI k 6 trf4), (tr5, kI k 6 trf5), (tr6, kI k 6 trf6), (nw0, kI k 6 nwf0), (nw1, kI k 6 nwf1), (nw2, kI k 6 nwf2), (nw3, kI k 6 nwf3), (nw4, kI k 6 nwf4), (nw5, kI k 6 nwf5), (nw6, kI k 6 nwf6), (nw, kO 4 [.ref nw0, .ref nw1, .ref nw2, .ref nw3, .ref nw4, .ref nw5, .ref nw6, .int nw_inside, .int nw_night, .int nw_minute, .int nw_tasted, .int nw_lastCook, .int nw_stirred]), (sg, kO 5 [sg_minutes, sg_yards, sg_near, .int 0])] := hD
  refine lv_istore_n (lv' := [(2, .int (-1)), (1, .int 0), (0, .ref x)]) hx hb dX8_suspects_25 rfl hl (by decide) rfl (fun ls hl => ?_)
  refine lv_aload_n hx hb dX8_suspects_26 rfl (lv_at hl 2 rfl) ?_
  refine va_get (D := D) (ci := 8) (v := .ref tr) (C := RX8) (T := TX8) (N := 11) hx hb hts hi8 hown hK hP 0 rfl rfl 6 (by decide) lf43 (fun _ h9 => h9) rfl dX8_suspects_27 ?_
  refine lv_aload_n hx hb dX8_suspects_30 rfl (lv_at hl 2 rfl) ?_
  refine va_get (D := D) (ci := 8) (v := .ref nw) (C := RX8) (T := TX8) (N := 11) hx hb hts hi8 hown hK hP 0 rfl rfl 5 (by decide) lf39 (fun _ h9 => h9) rfl dX8_suspects_31 ?_
  refine kz_Vv (As := [.ref nw]) (rest := []) (wc := [(tr, kO 4 [.ref tr0, .ref tr1, .ref tr2, .ref tr3, .ref tr4, .ref tr5, .ref tr6, .int tr_inside, .int tr_night, .int tr_minute, .int tr_tasted, .int tr_lastCook, .int tr_stirred]), (tr0, kI k 6 trf0), (tr1, kI k 6 trf1), (tr2, kI k 6 trf2), (tr3, kI k 6 trf3), (tr4, kI k 6 trf4), (tr5, kI k 6 trf5), (tr6, kI k 6 trf6), (nw, kO 4 [.ref nw0, .ref nw1, .ref nw2, .ref nw3, .ref nw4, .ref nw5, .ref nw6, .int nw_inside, .int nw_night, .int nw_minute, .int nw_tasted, .int nw_lastCook, .int nw_stirred]), (nw0, kI k 6 nwf0), (nw1, kI k 6 nwf1), (nw2, kI k 6 nwf2), (nw3, kI k 6 nwf3), (nw4, kI k 6 nwf4), (nw5, kI k 6 nwf5), (nw6, kI k 6 nwf6)]) (wr := [(x, kO 8 [x_tape, .ref td, x_draft, x_lines, x_draftLines, .ref nw, .ref tr, .ref sg, x_past, x_marks, .long x_drawn]), (td, kO 7 [td_names, td_kinds, td_yards, td_paces, td_skills, td_snow, td_law, .int 0, .int 0, .int td_bend, .int td_hour, .int td_bendTold, .int td_hourTold]), (sg, kO 5 [sg_minutes, sg_yards, sg_near, .int 0])]) ⟨hx, hb, hml, hown, hts⟩ hK hE hP hD hS hA (mX4_copyFrom l D k H.size tr nw tr0 tr1 tr2 tr3 tr4 tr5 tr6 tr_inside tr_night tr_minute tr_tasted tr_lastCook tr_stirred trf0 trf1 trf2 trf3 trf4 trf5 trf6 nw0 nw1 nw2 nw3 nw4 nw5 nw6 nw_inside nw_night nw_minute nw_tasted nw_lastCook nw_stirred nwf0 nwf1 nwf2 nwf3 nwf4 nwf5 nwf6) (cwV 1 hts gX8_suspects_X4_copyFrom rfl rfl rfl (by decide +kernel) (by rw [hR]; exact ⟨Nat.le_of_ble_eq_true rfl, Nat.le_of_ble_eq_true rfl⟩)) [2, 3, 4, 5, 6, 7, 8, 9, 17, 10, 11, 12, 13, 14, 15, 16] [0, 1, 18] rfl rfl (by decide) (by decide) (by decide) 0 rfl rfl rfl hl.1 rfl (Nat.le_of_ble_eq_true rfl) dX8_suspects_34 (by rw [hR]; exact ⟨Nat.le_of_ble_eq_true rfl, Nat.le_of_ble_eq_true rfl⟩) (fun u3 H locs hw3 hP hD hS => ?_)
  have hP : va_P D vwCl [(x, kO 8 [x_tape, .ref td, x_draft, x_lines, x_draftLines, .ref nw, .ref tr, .ref sg, x_past, x_marks, .long x_drawn]), (td, kO 7 [td_names, td_kinds, td_yards, td_paces, td_skills, td_snow, td_law, .int 0, .int 0, .int td_bend, .int td_hour, .int td_bendTold, .int td_hourTold]), (sg, kO 5 [sg_minutes, sg_yards, sg_near, .int 0]), (tr, kO 4 [.ref tr0, .ref tr1, .ref tr2, .ref tr3, .ref tr4, .ref tr5, .ref tr6, .int nw_inside, .int nw_night, .int nw_minute, .int nw_tasted, .int nw_lastCook, .int tr_stirred]), (tr0, kI k 6 (va_cpy nwf0 trf0 0 0 6)), (tr1, kI k 6 (va_cpy nwf1 trf1 0 0 6)), (tr2, kI k 6 (va_cpy nwf2 trf2 0 0 6)), (tr3, kI k 6 (va_cpy nwf3 trf3 0 0 6)), (tr4, kI k 6 (va_cpy nwf4 trf4 0 0 6)), (tr5, kI k 6 (va_cpy nwf5 trf5 0 0 6)), (tr6, kI k 6 (va_cpy nwf6 trf6 0 0 6)), (nw, kO 4 [.ref nw0, .ref nw1, .ref nw2, .ref nw3, .ref nw4, .ref nw5, .ref nw6, .int nw_inside, .int nw_night, .int nw_minute, .int nw_tasted, .int nw_lastCook, .int nw_stirred]), (nw0, kI k 6 nwf0), (nw1, kI k 6 nwf1), (nw2, kI k 6 nwf2), (nw3, kI k 6 nwf3), (nw4, kI k 6 nwf4), (nw5, kI k 6 nwf5), (nw6, kI k 6 nwf6)] H := hP
  have hD : va_D A [(x, kO 8 [x_tape, .ref td, x_draft, x_lines, x_draftLines, .ref nw, .ref tr, .ref sg, x_past, x_marks, .long x_drawn]), (td, kO 7 [td_names, td_kinds, td_yards, td_paces, td_skills, td_snow, td_law, .int 0, .int 0, .int td_bend, .int td_hour, .int td_bendTold, .int td_hourTold]), (sg, kO 5 [sg_minutes, sg_yards, sg_near, .int 0]), (tr, kO 4 [.ref tr0, .ref tr1, .ref tr2, .ref tr3, .ref tr4, .ref tr5, .ref tr6, .int nw_inside, .int nw_night, .int nw_minute, .int nw_tasted, .int nw_lastCook, .int tr_stirred]), (tr0, kI k 6 (va_cpy nwf0 trf0 0 0 6)), (tr1, kI k 6 (va_cpy nwf1 trf1 0 0 6)), (tr2, kI k 6 (va_cpy nwf2 trf2 0 0 6)), (tr3, kI k 6 (va_cpy nwf3 trf3 0 0 6)), (tr4, kI k 6 (va_cpy nwf4 trf4 0 0 6)), (tr5, kI k 6 (va_cpy nwf5 trf5 0 0 6)), (tr6, kI k 6 (va_cpy nwf6 trf6 0 0 6)), (nw, kO 4 [.ref nw0, .ref nw1, .ref nw2, .ref nw3, .ref nw4, .ref nw5, .ref nw6, .int nw_inside, .int nw_night, .int nw_minute, .int nw_tasted, .int nw_lastCook, .int nw_stirred]), (nw0, kI k 6 nwf0), (nw1, kI k 6 nwf1), (nw2, kI k 6 nwf2), (nw3, kI k 6 nwf3), (nw4, kI k 6 nwf4), (nw5, kI k 6 nwf5), (nw6, kI k 6 nwf6)] := hD
  refine lv_iconst (v := 0) hx hb dX8_suspects_37 (by decide) ?_
  refine lv_istore_n (lv' := [(3, .int 0), (2, .int (-1)), (1, .int 0), (0, .ref x)]) hx hb dX8_suspects_38 rfl hl (by decide) rfl (fun ls hl => ?_)
  refine lv_iload_n hx hb dX8_suspects_39 rfl (lv_at hl 0 rfl) ?_
  refine lv_iload_n hx hb dX8_suspects_40 rfl (lv_at hl 1 rfl) ?_
  refine lv_icmp_gt (tgt := 77) hx hb dX8_suspects_41 (by decide) (fun c_4 => ?_) (fun c_4 => absurd (by decide) c_4)
  refine lv_iload_n hx hb dX8_suspects_77 rfl (lv_at hl 2 rfl) ?_
  rw [hQ]
  have hP9 := hP.sub (ws' := [(x, kO 8 [x_tape, .ref td, x_draft, x_lines, x_draftLines, .ref nw, .ref tr, .ref sg, x_past, x_marks, .long x_drawn]), (td, kO 7 [td_names, td_kinds, td_yards, td_paces, td_skills, td_snow, td_law, .int 0, .int 0, .int td_bend, .int td_hour, .int td_bendTold, .int td_hourTold]), (sg, kO 5 [sg_minutes, sg_yards, sg_near, .int 0]), (tr, kO 4 [.ref tr0, .ref tr1, .ref tr2, .ref tr3, .ref tr4, .ref tr5, .ref tr6, .int nw_inside, .int nw_night, .int nw_minute, .int nw_tasted, .int nw_lastCook, .int tr_stirred]), (tr0, kI k 6 (va_cpy nwf0 trf0 0 0 6)), (tr1, kI k 6 (va_cpy nwf1 trf1 0 0 6)), (tr2, kI k 6 (va_cpy nwf2 trf2 0 0 6)), (tr3, kI k 6 (va_cpy nwf3 trf3 0 0 6)), (tr4, kI k 6 (va_cpy nwf4 trf4 0 0 6)), (tr5, kI k 6 (va_cpy nwf5 trf5 0 0 6)), (tr6, kI k 6 (va_cpy nwf6 trf6 0 0 6)), (nw, kO 4 [.ref nw0, .ref nw1, .ref nw2, .ref nw3, .ref nw4, .ref nw5, .ref nw6, .int nw_inside, .int nw_night, .int nw_minute, .int nw_tasted, .int nw_lastCook, .int nw_stirred]), (nw0, kI k 6 nwf0), (nw1, kI k 6 nwf1), (nw2, kI k 6 nwf2), (nw3, kI k 6 nwf3), (nw4, kI k 6 nwf4), (nw5, kI k 6 nwf5), (nw6, kI k 6 nwf6)]) [0, 1, 2, 3, 4, 5, 6, 7, 8, 9, 10, 11, 12, 13, 14, 15, 16, 17, 18] rfl
  have hD9 := hD.sub (ws' := [(x, kO 8 [x_tape, .ref td, x_draft, x_lines, x_draftLines, .ref nw, .ref tr, .ref sg, x_past, x_marks, .long x_drawn]), (td, kO 7 [td_names, td_kinds, td_yards, td_paces, td_skills, td_snow, td_law, .int 0, .int 0, .int td_bend, .int td_hour, .int td_bendTold, .int td_hourTold]), (sg, kO 5 [sg_minutes, sg_yards, sg_near, .int 0]), (tr, kO 4 [.ref tr0, .ref tr1, .ref tr2, .ref tr3, .ref tr4, .ref tr5, .ref tr6, .int nw_inside, .int nw_night, .int nw_minute, .int nw_tasted, .int nw_lastCook, .int tr_stirred]), (tr0, kI k 6 (va_cpy nwf0 trf0 0 0 6)), (tr1, kI k 6 (va_cpy nwf1 trf1 0 0 6)), (tr2, kI k 6 (va_cpy nwf2 trf2 0 0 6)), (tr3, kI k 6 (va_cpy nwf3 trf3 0 0 6)), (tr4, kI k 6 (va_cpy nwf4 trf4 0 0 6)), (tr5, kI k 6 (va_cpy nwf5 trf5 0 0 6)), (tr6, kI k 6 (va_cpy nwf6 trf6 0 0 6)), (nw, kO 4 [.ref nw0, .ref nw1, .ref nw2, .ref nw3, .ref nw4, .ref nw5, .ref nw6, .int nw_inside, .int nw_night, .int nw_minute, .int nw_tasted, .int nw_lastCook, .int nw_stirred]), (nw0, kI k 6 nwf0), (nw1, kI k 6 nwf1), (nw2, kI k 6 nwf2), (nw3, kI k 6 nwf3), (nw4, kI k 6 nwf4), (nw5, kI k 6 nwf5), (nw6, kI k 6 nwf6)]) [0, 1, 2, 3, 4, 5, 6, 7, 8, 9, 10, 11, 12, 13, 14, 15, 16, 17, 18] (by decide) rfl
  exact W.iret (v := 0) hx hb hr (fun zt ht hW => ⟨⟨0, (), rfl, rfl, by rw [ht]; exact hP9, hD9⟩, hS.F ht⟩) hS.2.2 dX8_suspects_78
