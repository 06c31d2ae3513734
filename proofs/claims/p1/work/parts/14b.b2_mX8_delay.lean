theorem dX8_delay_0 : decode cX8_delay 0 = .ok (.aload_n 0, 1) := by decide +kernel
theorem dX8_delay_1 : decode cX8_delay 1 = .ok (.iload_n 1, 1) := by decide +kernel
theorem dX8_delay_2 : decode cX8_delay 2 = .ok (.invokevirtual 134, 3) := by decide +kernel
theorem dX8_delay_5 : decode cX8_delay 5 = .ok (.ifCond .ne 5, 3) := by decide +kernel
theorem dX8_delay_8 : decode cX8_delay 8 = .ok (.iconst (-1), 1) := by decide +kernel
theorem dX8_delay_9 : decode cX8_delay 9 = .ok (.ireturn, 1) := by decide +kernel
set_option maxRecDepth 20000 in
theorem ggX8_delay_X8_isGuestOnRoad : GoodIn wsX8_delay wsX8_isGuestOnRoad := goodIn_r _ [7, 2, 8, 9, 10, 6, 11, 12, 13, 14, 15, 16, 17, 18, 19, 131, 132, 133, 134, 135, 136, 137, 138, 139, 140, 141, 142, 143, 144, 145, 146, 147, 148, 149, 150, 151, 152, 153, 154, 155, 156, 157, 158, 159, 160, 161, 162, 163, 164, 165, 166, 167] rfl (by decide +kernel)
set_option maxRecDepth 20000 in
theorem gX8_delay_X8_isGuestOnRoad : GoodIn wsX8_delay (wsV RX8 134 RX8 yX8_isGuestOnRoad wsX8_isGuestOnRoad) := goodIn_app (goodIn_of _ (by decide +kernel)) ggX8_delay_X8_isGuestOnRoad
set_option maxHeartbeats 4000000 in
set_option maxRecDepth 100000 in
theorem mX8_delay (l : Launch) (D : va_G) (k : Nat → ClassId) (sz : Nat) (x : Nat) (q1 : Int32) (x_tape : Value) (td : Nat) (x_draft : Value) (x_lines : Value) (x_draftLines : Value) (x_now : Value) (x_trial : Value) (x_sights : Value) (x_past : Value) (x_marks : Value) (x_drawn : Int64) (td_names : Value) (td_kinds : Value) (td_yards : Value) (td_paces : Value) (td_skills : Value) (td_snow : Value) (td_law : Value) (td_bend : Int32) (td_hour : Int32) (td_bendTold : Int32) (td_hourTold : Int32) : Met l yX8_delay wsX8_delay ({ frames := 2, cells := 0, slots := 0, locals := 140 }) (va_Pc [.ref x, .int q1] (kz_Pre D k [(x, kO 8 [x_tape, .ref td, x_draft, x_lines, x_draftLines, x_now, x_trial, x_sights, x_past, x_marks, .long x_drawn]), (td, kO 7 [td_names, td_kinds, td_yards, td_paces, td_skills, td_snow, td_law, .int 0, .int 0, .int td_bend, .int td_hour, .int td_bendTold, .int td_hourTold])] sz)) (va_Qi (fun (rr : Int32) (uu : Unit) => rr = (-1)) (fun uu zt => kz_B D (va_A [(x, kO 8 [x_tape, .ref td, x_draft, x_lines, x_draftLines, x_now, x_trial, x_sights, x_past, x_marks, .long x_drawn]), (td, kO 7 [td_names, td_kinds, td_yards, td_paces, td_skills, td_snow, td_law, .int 0, .int 0, .int td_bend, .int td_hour, .int td_bendTold, .int td_hourTold])] sz) [(x, kO 8 [x_tape, .ref td, x_draft, x_lines, x_draftLines, x_now, x_trial, x_sights, x_past, x_marks, .long x_drawn]), (td, kO 7 [td_names, td_kinds, td_yards, td_paces, td_skills, td_snow, td_law, .int 0, .int 0, .int td_bend, .int td_hour, .int td_bendTold, .int td_hourTold])] zt) (va_A [(x, kO 8 [x_tape, .ref td, x_draft, x_lines, x_draftLines, x_now, x_trial, x_sights, x_past, x_marks, .long x_drawn]), (td, kO 7 [td_names, td_kinds, td_yards, td_paces, td_skills, td_snow, td_law, .int 0, .int 0, .int td_bend, .int td_hour, .int td_bendTold, .int td_hourTold])] sz)) 0 0 (va_A [(x, kO 8 [x_tape, .ref td, x_draft, x_lines, x_draftLines, x_now, x_trial, x_sights, x_past, x_marks, .long x_drawn]), (td, kO 7 [td_names, td_kinds, td_yards, td_paces, td_skills, td_snow, td_law, .int 0, .int 0, .int td_bend, .int td_hour, .int td_bendTold, .int td_hourTold])] sz) := by
  refine Met.ofW (cc := cX8_delay) (maxL := 3) (ret := (some .int)) (by decide) rfl ?_
  intro p e s m args below meth c s₁ B hml hv
  obtain ⟨hav, hsz, hP, hK, hD0, hE⟩ := hv
  have hx := B.exec
  have hb := B.bytes
  have hr := B.returns
  have hts := atoms_spec (ws := wsX8_delay) B.pre
  have hown : s.vm.findClass RX8 = some m.cls := findClass_of_methodNamed B.named
  have hlocks := B.notSynchronized
  subst hsz
  have hD := hD0.self (sz := s.heap.size)
  generalize hAe : va_A [(x, kO 8 [x_tape, .ref td, x_draft, x_lines, x_draftLines, x_now, x_trial, x_sights, x_past, x_marks, .long x_drawn]), (td, kO 7 [td_names, td_kinds, td_yards, td_paces, td_skills, td_snow, td_law, .int 0, .int 0, .int td_bend, .int td_hour, .int td_bendTold, .int td_hourTold])] s.heap.size = A at hD ⊢
  have hA : ∀ q : Nat, s.heap.size ≤ q → A q := fun q h => by rw [← hAe]; exact Or.inr h
  have hS : va_S A s.heap s.heap [] := va_S.rf
  have hl := lv_entry ([.ref x, .int q1]) (n := 3) (Nat.le_of_ble_eq_true rfl)
  rw [show entryFrame m args 3 = entryFrame m ([.ref x, .int q1] : List Value).toArray 3 by rw [hav], lg_entry_eq]
  generalize (lg_sl ([.ref x, .int q1]) ++ List.replicate (3 - (lg_sl ([.ref x, .int q1])).length) Slot.unset).toArray = ls at hl ⊢
  have hl : lv_has ls 3 [(0, .ref x), (1, .int q1)] := hl
  obtain ⟨R, hR⟩ : ∃ R, R = (headSpec wsX8_delay ({ frames := 2, cells := 0, slots := 0, locals := 140 } : Room)).room := ⟨_, rfl⟩
  rw [← hR]
  generalize hQ : MQ below _ args s 0 0 A = Q
  replace hQ := hQ.symm
  obtain ⟨H, hH⟩ : ∃ H, H = s.heap := ⟨_, rfl⟩
  rw [← hH] at hP ⊢
  have hS : va_S A s.heap H [] := by rw [hH]; exact hS
  refine lv_aload_n hx hb dX8_delay_0 rfl (lv_at hl 0 rfl) ?_
  refine lv_iload_n hx hb dX8_delay_1 rfl (lv_at hl 1 rfl) ?_
  refine kz_Vi (As := [.int q1]) (rest := []) (wc := [(x, kO 8 [x_tape, .ref td, x_draft, x_lines, x_draftLines, x_now, x_trial, x_sights, x_past, x_marks, .long x_drawn]), (td, kO 7 [td_names, td_kinds, td_yards, td_paces, td_skills, td_snow, td_law, .int 0, .int 0, .int td_bend, .int td_hour, .int td_bendTold, .int td_hourTold])]) (wr := []) ⟨hx, hb, hml, hown, hts⟩ hK hE hP hD hS hA (mX8_isGuestOnRoad l D k H.size x q1 x_tape td x_draft x_lines x_draftLines x_now x_trial x_sights x_past x_marks x_drawn td_names td_kinds td_yards td_paces td_skills td_snow td_law td_bend td_hour td_bendTold td_hourTold) (cwV 1 hts gX8_delay_X8_isGuestOnRoad rfl rfl rfl (by decide +kernel) (by rw [hR]; exact ⟨Nat.le_of_ble_eq_true rfl, Nat.le_of_ble_eq_true rfl⟩)) [0, 1] [] rfl rfl (by decide) (by decide) (by decide) 0 rfl rfl rfl hl.1 rfl (Nat.le_of_ble_eq_true rfl) dX8_delay_2 (by rw [hR]; exact ⟨Nat.le_of_ble_eq_true rfl, Nat.le_of_ble_eq_true rfl⟩) (fun r1 u1 H locs hw1 hP hD hS => ?_)
  try dsimp only at hw1
  obtain rfl : r1 = 0 := hw1
  have hP : va_P D vwCl [(x, kO 8 [x_tape, .ref td, x_draft, x_lines, x_draftLines, x_now, x_trial, x_sights, x_past, x_marks, .long x_drawn]), (td, kO 7 [td_names, td_kinds, td_yards, td_paces, td_skills, td_snow, td_law, .int 0, .int 0, .int td_bend, .int td_hour, .int td_bendTold, .int td_hourTold])] H := hP
  have hD : va_D A [(x, kO 8 [x_tape, .ref td, x_draft, x_lines, x_draftLines, x_now, x_trial, x_sights, x_past, x_marks, .long x_drawn]), (td, kO 7 [td_names, td_kinds, td_yards, td_paces, td_skills, td_snow, td_law, .int 0, .int 0, .int td_bend, .int td_hour, .int td_bendTold, .int td_hourTold])] := hD
  refine lv_if_ne (tgt := 10) hx hb dX8_delay_5 (by decide) (fun c_2 => absurd (by decide) c_2) (fun c_2 => ?_)
  refine lv_iconst (v := (-1)) hx hb dX8_delay_8 (by decide) ?_
  rw [hQ]
  have hP9 := hP.sub (ws' := [(x, kO 8 [x_tape, .ref td, x_draft, x_lines, x_draftLines, x_now, x_trial, x_sights, x_past, x_marks, .long x_drawn]), (td, kO 7 [td_names, td_kinds, td_yards, td_paces, td_skills, td_snow, td_law, .int 0, .int 0, .int td_bend, .int td_hour, .int td_bendTold, .int td_hourTold])]) [0, 1] rfl
  have hD9 := hD.sub (ws' := [(x, kO 8 [x_tape, .ref td, x_draft, x_lines, x_draftLines, x_now, x_trial, x_sights, x_past, x_marks, .long x_drawn]), (td, kO 7 [td_names, td_kinds, td_yards, td_paces, td_skills, td_snow, td_law, .int 0, .int 0, .int td_bend, .int td_hour, .int td_bendTold, .int td_hourTold])]) [0, 1] (by decide) rfl
  exact W.iret (v := (-1)) hx hb hr (fun zt ht hW => ⟨⟨(-1), (), rfl, rfl, by rw [ht]; exact hP9, hD9⟩, hS.F ht⟩) hS.2.2 dX8_delay_9
theorem dX8_spare_0 : decode cX8_spare 0 = .ok (.aload_n 0, 1) := by decide +kernel
theorem dX8_spare_1 : decode cX8_spare 1 = .ok (.iload_n 1, 1) := by decide +kernel
theorem dX8_spare_2 : decode cX8_spare 2 = .ok (.invokevirtual 134, 3) := by decide +kernel
theorem dX8_spare_5 : decode cX8_spare 5 = .ok (.ifCond .ne 5, 3) := by decide +kernel
theorem dX8_spare_8 : decode cX8_spare 8 = .ok (.iconst (-1), 1) := by decide +kernel
theorem dX8_spare_9 : decode cX8_spare 9 = .ok (.ireturn, 1) := by decide +kernel
set_option maxRecDepth 20000 in
theorem ggX8_spare_X8_isGuestOnRoad : GoodIn wsX8_spare wsX8_isGuestOnRoad := goodIn_r _ [7, 2, 8, 9, 10, 6, 11, 12, 13, 14, 15, 16, 17, 18, 19, 131, 132, 133, 134, 135, 136, 137, 138, 139, 140, 141, 142, 143, 144, 145, 146, 147, 148, 149, 150, 151, 152, 153, 154, 155, 156, 157, 158, 159, 160, 161, 162, 163, 164, 165, 166, 167] rfl (by decide +kernel)
set_option maxRecDepth 20000 in
theorem gX8_spare_X8_isGuestOnRoad : GoodIn wsX8_spare (wsV RX8 134 RX8 yX8_isGuestOnRoad wsX8_isGuestOnRoad) := goodIn_app (goodIn_of _ (by decide +kernel)) ggX8_spare_X8_isGuestOnRoad
set_option maxHeartbeats 4000000 in
set_option maxRecDepth 100000 in
theorem mX8_spare (l : Launch) (D : va_G) (k : Nat → ClassId) (sz : Nat) (x : Nat) (q1 : Int32) (x_tape : Value) (td : Nat) (x_draft : Value) (x_lines : Value) (x_draftLines : Value) (x_now : Value) (x_trial : Value) (x_sights : Value) (x_past : Value) (x_marks : Value) (x_drawn : Int64) (td_names : Value) (td_kinds : Value) (td_yards : Value) (td_paces : Value) (td_skills : Value) (td_snow : Value) (td_law : Value) (td_bend : Int32) (td_hour : Int32) (td_bendTold : Int32) (td_hourTold : Int32) : Met l yX8_spare wsX8_spare ({ frames := 2, cells := 0, slots := 0, locals := 140 }) (va_Pc [.ref x, .int q1] (kz_Pre D k [(x, kO 8 [x_tape, .ref td, x_draft, x_lines, x_draftLines, x_now, x_trial, x_sights, x_past, x_marks, .long x_drawn]), (td, kO 7 [td_names, td_kinds, td_yards, td_paces, td_skills, td_snow, td_law, .int 0, .int 0, .int td_bend, .int td_hour, .int td_bendTold, .int td_hourTold])] sz)) (va_Qi (fun (rr : Int32) (uu : Unit) => rr = (-1)) (fun uu zt => kz_B D (va_A [(x, kO 8 [x_tape, .ref td, x_draft, x_lines, x_draftLines, x_now, x_trial, x_sights, x_past, x_marks, .long x_drawn]), (td, kO 7 [td_names, td_kinds, td_yards, td_paces, td_skills, td_snow, td_law, .int 0, .int 0, .int td_bend, .int td_hour, .int td_bendTold, .int td_hourTold])] sz) [(x, kO 8 [x_tape, .ref td, x_draft, x_lines, x_draftLines, x_now, x_trial, x_sights, x_past, x_marks, .long x_drawn]), (td, kO 7 [td_names, td_kinds, td_yards, td_paces, td_skills, td_snow, td_law, .int 0, .int 0, .int td_bend, .int td_hour, .int td_bendTold, .int td_hourTold])] zt) (va_A [(x, kO 8 [x_tape, .ref td, x_draft, x_lines, x_draftLines, x_now, x_trial, x_sights, x_past, x_marks, .long x_drawn]), (td, kO 7 [td_names, td_kinds, td_yards, td_paces, td_skills, td_snow, td_law, .int 0, .int 0, .int td_bend, .int td_hour, .int td_bendTold, .int td_hourTold])] sz)) 0 0 (va_A [(x, kO 8 [x_tape, .ref td, x_draft, x_lines, x_draftLines, x_now, x_trial, x_sights, x_past, x_marks, .long x_drawn]), (td, kO 7 [td_names, td_kinds, td_yards, td_paces, td_skills, td_snow, td_law, .int 0, .int 0, .int td_bend, .int td_hour, .int td_bendTold, .int td_hourTold])] sz) := by
  refine Met.ofW (cc := cX8_spare) (maxL := 4) (ret := (some .int)) (by decide) rfl ?_
  intro p e s m args below meth c s₁ B hml hv
  obtain ⟨hav, hsz, hP, hK, hD0, hE⟩ := hv
  have hx := B.exec
  have hb := B.bytes
  have hr := B.returns
  have hts := atoms_spec (ws := wsX8_spare) B.pre
  have hown : s.vm.findClass RX8 = some m.cls := findClass_of_methodNamed B.named
  have hlocks := B.notSynchronized
  subst hsz
  have hD := hD0.self (sz := s.heap.size)
  generalize hAe : va_A [(x, kO 8 [x_tape, .ref td, x_draft, x_lines, x_draftLines, x_now, x_trial, x_sights, x_past, x_marks, .long x_drawn]), (td, kO 7 [td_names, td_kinds, td_yards, td_paces, td_skills, td_snow, td_law, .int 0, .int 0, .int td_bend, .int td_hour, .int td_bendTold, .int td_hourTold])] s.heap.size = A at hD ⊢
  have hA : ∀ q : Nat, s.heap.size ≤ q → A q := fun q h => by rw [← hAe]; exact Or.inr h
  have hS : va_S A s.heap s.heap [] := va_S.rf
  have hl := lv_entry ([.ref x, .int q1]) (n := 4) (Nat.le_of_ble_eq_true rfl)
  rw [show entryFrame m args 4 = entryFrame m ([.ref x, .int q1] : List Value).toArray 4 by rw [hav], lg_entry_eq]
  generalize (lg_sl ([.ref x, .int q1]) ++ List.replicate (4 - (lg_sl ([.ref x, .int q1])).length) Slot.unset).toArray = ls at hl ⊢
  have hl : lv_has ls 4 [(0, .ref x), (1, .int q1)] := hl
  obtain ⟨R, hR⟩ : ∃ R, R = (headSpec wsX8_spare ({ frames := 2, cells := 0, slots := 0, locals := 140 } : Room)).room := ⟨_, rfl⟩
  rw [← hR]
  generalize hQ : MQ below _ args s 0 0 A = Q
  replace hQ := hQ.symm
  obtain ⟨H, hH⟩ : ∃ H, H = s.heap := ⟨_, rfl⟩
  rw [← hH] at hP ⊢
  have hS : va_S A s.heap H [] := by rw [hH]; exact hS
  refine lv_aload_n hx hb dX8_spare_0 rfl (lv_at hl 0 rfl) ?_
  refine lv_iload_n hx hb dX8_spare_1 rfl (lv_at hl 1 rfl) ?_
  refine kz_Vi (As := [.int q1]) (rest := []) (wc := [(x, kO 8 [x_tape, .ref td, x_draft, x_lines, x_draftLines, x_now, x_trial, x_sights, x_past, x_marks, .long x_drawn]), (td, kO 7 [td_names, td_kinds, td_yards, td_paces, td_skills, td_snow, td_law, .int 0, .int 0, .int td_bend, .int td_hour, .int td_bendTold, .int td_hourTold])]) (wr := []) ⟨hx, hb, hml, hown, hts⟩ hK hE hP hD hS hA (mX8_isGuestOnRoad l D k H.size x q1 x_tape td x_draft x_lines x_draftLines x_now x_trial x_sights x_past x_marks x_drawn td_names td_kinds td_yards td_paces td_skills td_snow td_law td_bend td_hour td_bendTold td_hourTold) (cwV 1 hts gX8_spare_X8_isGuestOnRoad rfl rfl rfl (by decide +kernel) (by rw [hR]; exact ⟨Nat.le_of_ble_eq_true rfl, Nat.le_of_ble_eq_true rfl⟩)) [0, 1] [] rfl rfl (by decide) (by decide) (by decide) 0 rfl rfl rfl hl.1 rfl (Nat.le_of_ble_eq_true rfl) dX8_spare_2 (by rw [hR]; exact ⟨Nat.le_of_ble_eq_true rfl, Nat.le_of_ble_eq_true rfl⟩) (fun r1 u1 H locs hw1 hP hD hS => ?_)
  try dsimp only at hw1
  obtain rfl : r1 = 0 := hw1
  have hP : va_P D vwCl [(x, kO 8 [x_tape, .ref td, x_draft, x_lines, x_draftLines, x_now, x_trial, x_sights, x_past, x_marks, .long x_drawn]), (td, kO 7 [td_names, td_kinds, td_yards, td_paces, td_skills, td_snow, td_law, .int 0, .int 0, .int td_bend, .int td_hour, .int td_bendTold, .int td_hourTold])] H := hP
  have hD : va_D A [(x, kO 8 [x_tape, .ref td, x_draft, x_lines, x_draftLines, x_now, x_trial, x_sights, x_past, x_marks, .long x_drawn]), (td, kO 7 [td_names, td_kinds, td_yards, td_paces, td_skills, td_snow, td_law, .int 0, .int 0, .int td_bend, .int td_hour, .int td_bendTold, .int td_hourTold])] := hD
  refine lv_if_ne (tgt := 10) hx hb dX8_spare_5 (by decide) (fun c_2 => absurd (by decide) c_2) (fun c_2 => ?_)
  refine lv_iconst (v := (-1)) hx hb dX8_spare_8 (by decide) ?_
  rw [hQ]
  have hP9 := hP.sub (ws' := [(x, kO 8 [x_tape, .ref td, x_draft, x_lines, x_draftLines, x_now, x_trial, x_sights, x_past, x_marks, .long x_drawn]), (td, kO 7 [td_names, td_kinds, td_yards, td_paces, td_skills, td_snow, td_law, .int 0, .int 0, .int td_bend, .int td_hour, .int td_bendTold, .int td_hourTold])]) [0, 1] rfl
  have hD9 := hD.sub (ws' := [(x, kO 8 [x_tape, .ref td, x_draft, x_lines, x_draftLines, x_now, x_trial, x_sights, x_past, x_marks, .long x_drawn]), (td, kO 7 [td_names, td_kinds, td_yards, td_paces, td_skills, td_snow, td_law, .int 0, .int 0, .int td_bend, .int td_hour, .int td_bendTold, .int td_hourTold])]) [0, 1] (by decide) rfl
  exact W.iret (v := (-1)) hx hb hr (fun zt ht hW => ⟨⟨(-1), (), rfl, rfl, by rw [ht]; exact hP9, hD9⟩, hS.F ht⟩) hS.2.2 dX8_spare_9
theorem dX8_excuse_0 : decode cX8_excuse 0 = .ok (.aload_n 0, 1) := by decide +kernel
theorem dX8_excuse_1 : decode cX8_excuse 1 = .ok (.iload_n 1, 1) := by decide +kernel
theorem dX8_excuse_2 : decode cX8_excuse 2 = .ok (.invokevirtual 105, 3) := by decide +kernel
theorem dX8_excuse_5 : decode cX8_excuse 5 = .ok (.ifCond .ne 5, 3) := by decide +kernel
theorem dX8_excuse_8 : decode cX8_excuse 8 = .ok (.iconst (-1), 1) := by decide +kernel
theorem dX8_excuse_9 : decode cX8_excuse 9 = .ok (.ireturn, 1) := by decide +kernel
set_option maxRecDepth 20000 in
theorem ggX8_excuse_X8_isGuest : GoodIn wsX8_excuse wsX8_isGuest := goodIn_r _ [9, 3, 4, 126, 127, 128, 129, 130, 131, 132, 133, 134, 135, 136, 137, 138, 139, 140, 141, 142, 143, 144, 145, 146, 147, 148, 149] rfl (by decide +kernel)
set_option maxRecDepth 20000 in
theorem gX8_excuse_X8_isGuest : GoodIn wsX8_excuse (wsV RX8 105 RX8 yX8_isGuest wsX8_isGuest) := goodIn_app (goodIn_of _ (by decide +kernel)) ggX8_excuse_X8_isGuest
set_option maxHeartbeats 4000000 in
set_option maxRecDepth 100000 in
theorem mX8_excuse (l : Launch) (D : va_G) (k : Nat → ClassId) (sz : Nat) (x : Nat) (q1 : Int32) (x_tape : Value) (td : Nat) (x_draft : Value) (x_lines : Value) (x_draftLines : Value) (x_now : Value) (x_trial : Value) (x_sights : Value) (x_past : Value) (x_marks : Value) (x_drawn : Int64) (td_names : Value) (td_kinds : Value) (td_yards : Value) (td_paces : Value) (td_skills : Value) (td_snow : Value) (td_law : Value) (td_bend : Int32) (td_hour : Int32) (td_bendTold : Int32) (td_hourTold : Int32) : Met l yX8_excuse wsX8_excuse ({ frames := 1, cells := 0, slots := 0, locals := 70 }) (va_Pc [.ref x, .int q1] (kz_Pre D k [(x, kO 8 [x_tape, .ref td, x_draft, x_lines, x_draftLines, x_now, x_trial, x_sights, x_past, x_marks, .long x_drawn]), (td, kO 7 [td_names, td_kinds, td_yards, td_paces, td_skills, td_snow, td_law, .int 0, .int 0, .int td_bend, .int td_hour, .int td_bendTold, .int td_hourTold])] sz)) (va_Qi (fun (rr : Int32) (uu : Unit) => rr = (-1)) (fun uu zt => kz_B D (va_A [(x, kO 8 [x_tape, .ref td, x_draft, x_lines, x_draftLines, x_now, x_trial, x_sights, x_past, x_marks, .long x_drawn]), (td, kO 7 [td_names, td_kinds, td_yards, td_paces, td_skills, td_snow, td_law, .int 0, .int 0, .int td_bend, .int td_hour, .int td_bendTold, .int td_hourTold])] sz) [(x, kO 8 [x_tape, .ref td, x_draft, x_lines, x_draftLines, x_now, x_trial, x_sights, x_past, x_marks, .long x_drawn]), (td, kO 7 [td_names, td_kinds, td_yards, td_paces, td_skills, td_snow, td_law, .int 0, .int 0, .int td_bend, .int td_hour, .int td_bendTold, .int td_hourTold])] zt) (va_A [(x, kO 8 [x_tape, .ref td, x_draft, x_lines, x_draftLines, x_now, x_trial, x_sights, x_past, x_marks, .long x_drawn]), (td, kO 7 [td_names, td_kinds, td_yards, td_paces, td_skills, td_snow, td_law, .int 0, .int 0, .int td_bend, .int td_hour, .int td_bendTold, .int td_hourTold])] sz)) 0 0 (va_A [(x, kO 8 [x_tape, .ref td, x_draft, x_lines, x_draftLines, x_now, x_trial, x_sights, x_past, x_marks, .long x_drawn]), (td, kO 7 [td_names, td_kinds, td_yards, td_paces, td_skills, td_snow, td_law, .int 0, .int 0, .int td_bend, .int td_hour, .int td_bendTold, .int td_hourTold])] sz) := by
  refine Met.ofW (cc := cX8_excuse) (maxL := 4) (ret := (some .int)) (by decide) rfl ?_
  intro p e s m args below meth c s₁ B hml hv
  obtain ⟨hav, hsz, hP, hK, hD0, hE⟩ := hv
  have hx := B.exec
  have hb := B.bytes
  have hr := B.returns
  have hts := atoms_spec (ws := wsX8_excuse) B.pre
  have hown : s.vm.findClass RX8 = some m.cls := findClass_of_methodNamed B.named
  have hlocks := B.notSynchronized
  subst hsz
  have hD := hD0.self (sz := s.heap.size)
  generalize hAe : va_A [(x, kO 8 [x_tape, .ref td, x_draft, x_lines, x_draftLines, x_now, x_trial, x_sights, x_past, x_marks, .long x_drawn]), (td, kO 7 [td_names, td_kinds, td_yards, td_paces, td_skills, td_snow, td_law, .int 0, .int 0, .int td_bend, .int td_hour, .int td_bendTold, .int td_hourTold])] s.heap.size = A at hD ⊢
  have hA : ∀ q : Nat, s.heap.size ≤ q → A q := fun q h => by rw [← hAe]; exact Or.inr h
  have hS : va_S A s.heap s.heap [] := va_S.rf
  have hl := lv_entry ([.ref x, .int q1]) (n := 4) (Nat.le_of_ble_eq_true rfl)
  rw [show entryFrame m args 4 = entryFrame m ([.ref x, .int q1] : List Value).toArray 4 by rw [hav], lg_entry_eq]
  generalize (lg_sl ([.ref x, .int q1]) ++ List.replicate (4 - (lg_sl ([.ref x, .int q1])).length) Slot.unset).toArray = ls at hl ⊢
  have hl : lv_has ls 4 [(0, .ref x), (1, .int q1)] := hl
  obtain ⟨R, hR⟩ : ∃ R, R = (headSpec wsX8_excuse ({ frames := 1, cells := 0, slots := 0, locals := 70 } : Room)).room := ⟨_, rfl⟩
  rw [← hR]
  generalize hQ : MQ below _ args s 0 0 A = Q
  replace hQ := hQ.symm
  obtain ⟨H, hH⟩ : ∃ H, H = s.heap := ⟨_, rfl⟩
  rw [← hH] at hP ⊢
  have hS : va_S A s.heap H [] := by rw [hH]; exact hS
  refine lv_aload_n hx hb dX8_excuse_0 rfl (lv_at hl 0 rfl) ?_
  refine lv_iload_n hx hb dX8_excuse_1 rfl (lv_at hl 1 rfl) ?_
  refine kz_Vi (As := [.int q1]) (rest := []) (wc := [(x, kO 8 [x_tape, .ref td, x_draft, x_lines, x_draftLines, x_now, x_trial, x_sights, x_past, x_marks, .long x_drawn]), (td, kO 7 [td_names, td_kinds, td_yards, td_paces, td_skills, td_snow, td_law, .int 0, .int 0, .int td_bend, .int td_hour, .int td_bendTold, .int td_hourTold])]) (wr := []) ⟨hx, hb, hml, hown, hts⟩ hK hE hP hD hS hA (mX8_isGuest l D k H.size x q1 x_tape td x_draft x_lines x_draftLines x_now x_trial x_sights x_past x_marks x_drawn td_names td_kinds td_yards td_paces td_skills td_snow td_law td_bend td_hour td_bendTold td_hourTold) (cwV 1 hts gX8_excuse_X8_isGuest rfl rfl rfl (by decide +kernel) (by rw [hR]; exact ⟨Nat.le_of_ble_eq_true rfl, Nat.le_of_ble_eq_true rfl⟩)) [0, 1] [] rfl rfl (by decide) (by decide) (by decide) 0 rfl rfl rfl hl.1 rfl (Nat.le_of_ble_eq_true rfl) dX8_excuse_2 (by rw [hR]; exact ⟨Nat.le_of_ble_eq_true rfl, Nat.le_of_ble_eq_true rfl⟩) (fun r1 u1 H locs hw1 hP hD hS => ?_)
  try dsimp only at hw1
  obtain rfl : r1 = 0 := hw1
  have hP : va_P D vwCl [(x, kO 8 [x_tape, .ref td, x_draft, x_lines, x_draftLines, x_now, x_trial, x_sights, x_past, x_marks, .long x_drawn]), (td, kO 7 [td_names, td_kinds, td_yards, td_paces, td_skills, td_snow, td_law, .int 0, .int 0, .int td_bend, .int td_hour, .int td_bendTold, .int td_hourTold])] H := hP
  have hD : va_D A [(x, kO 8 [x_tape, .ref td, x_draft, x_lines, x_draftLines, x_now, x_trial, x_sights, x_past, x_marks, .long x_drawn]), (td, kO 7 [td_names, td_kinds, td_yards, td_paces, td_skills, td_snow, td_law, .int 0, .int 0, .int td_bend, .int td_hour, .int td_bendTold, .int td_hourTold])] := hD
  refine lv_if_ne (tgt := 10) hx hb dX8_excuse_5 (by decide) (fun c_2 => absurd (by decide) c_2) (fun c_2 => ?_)
  refine lv_iconst (v := (-1)) hx hb dX8_excuse_8 (by decide) ?_
  rw [hQ]
  have hP9 := hP.sub (ws' := [(x, kO 8 [x_tape, .ref td, x_draft, x_lines, x_draftLines, x_now, x_trial, x_sights, x_past, x_marks, .long x_drawn]), (td, kO 7 [td_names, td_kinds, td_yards, td_paces, td_skills, td_snow, td_law, .int 0, .int 0, .int td_bend, .int td_hour, .int td_bendTold, .int td_hourTold])]) [0, 1] rfl
  have hD9 := hD.sub (ws' := [(x, kO 8 [x_tape, .ref td, x_draft, x_lines, x_draftLines, x_now, x_trial, x_sights, x_past, x_marks, .long x_drawn]), (td, kO 7 [td_names, td_kinds, td_yards, td_paces, td_skills, td_snow, td_law, .int 0, .int 0, .int td_bend, .int td_hour, .int td_bendTold, .int td_hourTold])]) [0, 1] (by decide) rfl
  exact W.iret (v := (-1)) hx hb hr (fun zt ht hW => ⟨⟨(-1), (), rfl, rfl, by rw [ht]; exact hP9, hD9⟩, hS.F ht⟩) hS.2.2 dX8_excuse_9
theorem dX8_with_0 : decode cX8_with 0 = .ok (.aload_n 0, 1) := by decide +kernel
theorem dX8_with_1 : decode cX8_with 1 = .ok (.iload_n 1, 1) := by decide +kernel
theorem dX8_with_2 : decode cX8_with 2 = .ok (.invokevirtual 105, 3) := by decide +kernel
theorem dX8_with_5 : decode cX8_with 5 = .ok (.ifCond .ne 5, 3) := by decide +kernel
theorem dX8_with_8 : decode cX8_with 8 = .ok (.iconst (-1), 1) := by decide +kernel
theorem dX8_with_9 : decode cX8_with 9 = .ok (.ireturn, 1) := by decide +kernel
set_option maxRecDepth 20000 in
theorem ggX8_with_X8_isGuest : GoodIn wsX8_with wsX8_isGuest := goodIn_r _ [9, 3, 10, 75, 76, 77, 78, 79, 80, 81, 82, 83, 84, 85, 99, 100, 101, 102, 103, 104, 105, 106, 107, 108, 109, 110, 111] rfl (by decide +kernel)
set_option maxRecDepth 20000 in
theorem gX8_with_X8_isGuest : GoodIn wsX8_with (wsV RX8 105 RX8 yX8_isGuest wsX8_isGuest) := goodIn_app (goodIn_of _ (by decide +kernel)) ggX8_with_X8_isGuest
set_option maxHeartbeats 4000000 in
set_option maxRecDepth 100000 in
theorem mX8_with (l : Launch) (D : va_G) (k : Nat → ClassId) (sz : Nat) (x : Nat) (q1 : Int32) (x_tape : Value) (td : Nat) (x_draft : Value) (x_lines : Value) (x_draftLines : Value) (x_now : Value) (x_trial : Value) (x_sights : Value) (x_past : Value) (x_marks : Value) (x_drawn : Int64) (td_names : Value) (td_kinds : Value) (td_yards : Value) (td_paces : Value) (td_skills : Value) (td_snow : Value) (td_law : Value) (td_bend : Int32) (td_hour : Int32) (td_bendTold : Int32) (td_hourTold : Int32) : Met l yX8_with wsX8_with ({ frames := 1, cells := 0, slots := 0, locals := 70 }) (va_Pc [.ref x, .int q1] (kz_Pre D k [(x, kO 8 [x_tape, .ref td, x_draft, x_lines, x_draftLines, x_now, x_trial, x_sights, x_past, x_marks, .long x_drawn]), (td, kO 7 [td_names, td_kinds, td_yards, td_paces, td_skills, td_snow, td_law, .int 0, .int 0, .int td_bend, .int td_hour, .int td_bendTold, .int td_hourTold])] sz)) (va_Qi (fun (rr : Int32) (uu : Unit) => rr = (-1)) (fun uu zt => kz_B D (va_A [(x, kO 8 [x_tape, .ref td, x_draft, x_lines, x_draftLines, x_now, x_trial, x_sights, x_past, x_marks, .long x_drawn]), (td, kO 7 [td_names, td_kinds, td_yards, td_paces, td_skills, td_snow, td_law, .int 0, .int 0, .int td_bend, .int td_hour, .int td_bendTold, .int td_hourTold])] sz) [(x, kO 8 [x_tape, .ref td, x_draft, x_lines, x_draftLines, x_now, x_trial, x_sights, x_past, x_marks, .long x_drawn]), (td, kO 7 [td_names, td_kinds, td_yards, td_paces, td_skills, td_snow, td_law, .int 0, .int 0, .int td_bend, .int td_hour, .int td_bendTold, .int td_hourTold])] zt) (va_A [(x, kO 8 [x_tape, .ref td, x_draft, x_lines, x_draftLines, x_now, x_trial, x_sights, x_past, x_marks, .long x_drawn]), (td, kO 7 [td_names, td_kinds, td_yards, td_paces, td_skills, td_snow, td_law, .int 0, .int 0, .int td_bend, .int td_hour, .int td_bendTold, .int td_hourTold])] sz)) 0 0 (va_A [(x, kO 8 [x_tape, .ref td, x_draft, x_lines, x_draftLines, x_now, x_trial, x_sights, x_past, x_marks, .long x_drawn]), (td, kO 7 [td_names, td_kinds, td_yards, td_paces, td_skills, td_snow, td_law, .int 0, .int 0, .int td_bend, .int td_hour, .int td_bendTold, .int td_hourTold])] sz) := by
  refine Met.ofW (cc := cX8_with) (maxL := 3) (ret := (some .int)) (by decide) rfl ?_
  intro p e s m args below meth c s₁ B hml hv
  obtain ⟨hav, hsz, hP, hK, hD0, hE⟩ := hv
  have hx := B.exec
  have hb := B.bytes
  have hr := B.returns
  have hts := atoms_spec (ws := wsX8_with) B.pre
  have hown : s.vm.findClass RX8 = some m.cls := findClass_of_methodNamed B.named
  have hlocks := B.notSynchronized
  subst hsz
  have hD := hD0.self (sz := s.heap.size)
  generalize hAe : va_A [(x, kO 8 [x_tape, .ref td, x_draft, x_lines, x_draftLines, x_now, x_trial, x_sights, x_past, x_marks, .long x_drawn]), (td, kO 7 [td_names, td_kinds, td_yards, td_paces, td_skills, td_snow, td_law, .int 0, .int 0, .int td_bend, .int td_hour, .int td_bendTold, .int td_hourTold])] s.heap.size = A at hD ⊢
  have hA : ∀ q : Nat, s.heap.size ≤ q → A q := fun q h => by rw [← hAe]; exact Or.inr h
  have hS : va_S A s.heap s.heap [] := va_S.rf
  have hl := lv_entry ([.ref x, .int q1]) (n := 3) (Nat.le_of_ble_eq_true rfl)
  rw [show entryFrame m args 3 = entryFrame m ([.ref x, .int q1] : List Value).toArray 3 by rw [hav], lg_entry_eq]
  generalize (lg_sl ([.ref x, .int q1]) ++ List.replicate (3 - (lg_sl ([.ref x, .int q1])).length) Slot.unset).toArray = ls at hl ⊢
  have hl : lv_has ls 3 [(0, .ref x), (1, .int q1)] := hl
  obtain ⟨R, hR⟩ : ∃ R, R = (headSpec wsX8_with ({ frames := 1, cells := 0, slots := 0, locals := 70 } : Room)).room := ⟨_, rfl⟩
  rw [← hR]
  generalize hQ : MQ below _ args s 0 0 A = Q
  replace hQ := hQ.symm
  obtain ⟨H, hH⟩ : ∃ H, H = s.heap := ⟨_, rfl⟩
  rw [← hH] at hP ⊢
  have hS : va_S A s.heap H [] := by rw [hH]; exact hS
  refine lv_aload_n hx hb dX8_with_0 rfl (lv_at hl 0 rfl) ?_
  refine lv_iload_n hx hb dX8_with_1 rfl (lv_at hl 1 rfl) ?_
  refine kz_Vi (As := [.int q1]) (rest := []) (wc := [(x, kO 8 [x_tape, .ref td, x_draft, x_lines, x_draftLines, x_now, x_trial, x_sights, x_past, x_marks, .long x_drawn]), (td, kO 7 [td_names, td_kinds, td_yards, td_paces, td_skills, td_snow, td_law, .int 0, .int 0, .int td_bend, .int td_hour, .int td_bendTold, .int td_hourTold])]) (wr := []) ⟨hx, hb, hml, hown, hts⟩ hK hE hP hD hS hA (mX8_isGuest l D k H.size x q1 x_tape td x_draft x_lines x_draftLines x_now x_trial x_sights x_past x_marks x_drawn td_names td_kinds td_yards td_paces td_skills td_snow td_law td_bend td_hour td_bendTold td_hourTold) (cwV 1 hts gX8_with_X8_isGuest rfl rfl rfl (by decide +kernel) (by rw [hR]; exact ⟨Nat.le_of_ble_eq_true rfl, Nat.le_of_ble_eq_true rfl⟩)) [0, 1] [] rfl rfl (by decide) (by decide) (by decide) 0 rfl rfl rfl hl.1 rfl (Nat.le_of_ble_eq_true rfl) dX8_with_2 (by rw [hR]; exact ⟨Nat.le_of_ble_eq_true rfl, Nat.le_of_ble_eq_true rfl⟩) (fun r1 u1 H locs hw1 hP hD hS => ?_)
  try dsimp only at hw1
  obtain rfl : r1 = 0 := hw1
  have hP : va_P D vwCl [(x, kO 8 [x_tape, .ref td, x_draft, x_lines, x_draftLines, x_now, x_trial, x_sights, x_past, x_marks, .long x_drawn]), (td, kO 7 [td_names, td_kinds, td_yards, td_paces, td_skills, td_snow, td_law, .int 0, .int 0, .int td_bend, .int td_hour, .int td_bendTold, .int td_hourTold])] H := hP
  have hD : va_D A [(x, kO 8 [x_tape, .ref td, x_draft, x_lines, x_draftLines, x_now, x_trial, x_sights, x_past, x_marks, .long x_drawn]), (td, kO 7 [td_names, td_kinds, td_yards, td_paces, td_skills, td_snow, td_law, .int 0, .int 0, .int td_bend, .int td_hour, .int td_bendTold, .int td_hourTold])] := hD
  refine lv_if_ne (tgt := 10) hx hb dX8_with_5 (by decide) (fun c_2 => absurd (by decide) c_2) (fun c_2 => ?_)
  refine lv_iconst (v := (-1)) hx hb dX8_with_8 (by decide) ?_
  rw [hQ]
  have hP9 := hP.sub (ws' := [(x, kO 8 [x_tape, .ref td, x_draft, x_lines, x_draftLines, x_now, x_trial, x_sights, x_past, x_marks, .long x_drawn]), (td, kO 7 [td_names, td_kinds, td_yards, td_paces, td_skills, td_snow, td_law, .int 0, .int 0, .int td_bend, .int td_hour, .int td_bendTold, .int td_hourTold])]) [0, 1] rfl
  have hD9 := hD.sub (ws' := [(x, kO 8 [x_tape, .ref td, x_draft, x_lines, x_draftLines, x_now, x_trial, x_sights, x_past, x_marks, .long x_drawn]), (td, kO 7 [td_names, td_kinds, td_yards, td_paces, td_skills, td_snow, td_law, .int 0, .int 0, .int td_bend, .int td_hour, .int td_bendTold, .int td_hourTold])]) [0, 1] (by decide) rfl
  exact W.iret (v := (-1)) hx hb hr (fun zt ht hW => ⟨⟨(-1), (), rfl, rfl, by rw [ht]; exact hP9, hD9⟩, hS.F ht⟩) hS.2.2 dX8_with_9
theorem dX8_chance_0 : decode cX8_chance 0 = .ok (.aload_n 0, 1) := by decide +kernel
theorem dX8_chance_1 : decode cX8_chance 1 = .ok (.iload_n 1, 1) := by decide +kernel
theorem dX8_chance_2 : decode cX8_chance 2 = .ok (.invokevirtual 134, 3) := by decide +kernel
theorem dX8_chance_5 : decode cX8_chance 5 = .ok (.ifCond .eq 23, 3) := by decide +kernel
theorem dX8_chance_28 : decode cX8_chance 28 = .ok (.iconst (-1), 1) := by decide +kernel
theorem dX8_chance_29 : decode cX8_chance 29 = .ok (.ireturn, 1) := by decide +kernel
set_option maxRecDepth 20000 in
theorem ggX8_chance_X8_isGuestOnRoad : GoodIn wsX8_chance wsX8_isGuestOnRoad := goodIn_r _ [5, 6, 7, 8, 9, 4, 10, 11, 12, 13, 14, 15, 16, 17, 18, 128, 129, 130, 131, 132, 133, 134, 135, 136, 137, 138, 139, 140, 141, 142, 143, 144, 145, 146, 147, 148, 149, 150, 151, 152, 153, 154, 155, 156, 157, 158, 159, 160, 161, 162, 163, 164] rfl (by decide +kernel)
set_option maxRecDepth 20000 in
theorem gX8_chance_X8_isGuestOnRoad : GoodIn wsX8_chance (wsV RX8 134 RX8 yX8_isGuestOnRoad wsX8_isGuestOnRoad) := goodIn_app (goodIn_of _ (by decide +kernel)) ggX8_chance_X8_isGuestOnRoad
set_option maxHeartbeats 4000000 in
set_option maxRecDepth 100000 in
theorem mX8_chance (l : Launch) (D : va_G) (k : Nat → ClassId) (sz : Nat) (x : Nat) (q1 : Int32) (q2 : Int32) (q3 : Int32) (x_tape : Value) (td : Nat) (x_draft : Value) (x_lines : Value) (x_draftLines : Value) (x_now : Value) (x_trial : Value) (x_sights : Value) (x_past : Value) (x_marks : Value) (x_drawn : Int64) (td_names : Value) (td_kinds : Value) (td_yards : Value) (td_paces : Value) (td_skills : Value) (td_snow : Value) (td_law : Value) (td_bend : Int32) (td_hour : Int32) (td_bendTold : Int32) (td_hourTold : Int32) : Met l yX8_chance wsX8_chance ({ frames := 2, cells := 0, slots := 0, locals := 140 }) (va_Pc [.ref x, .int q1, .int q2, .int q3] (kz_Pre D k [(x, kO 8 [x_tape, .ref td, x_draft, x_lines, x_draftLines, x_now, x_trial, x_sights, x_past, x_marks, .long x_drawn]), (td, kO 7 [td_names, td_kinds, td_yards, td_paces, td_skills, td_snow, td_law, .int 0, .int 0, .int td_bend, .int td_hour, .int td_bendTold, .int td_hourTold])] sz)) (va_Qi (fun (rr : Int32) (uu : Unit) => rr = (-1)) (fun uu zt => kz_B D (va_A [(x, kO 8 [x_tape, .ref td, x_draft, x_lines, x_draftLines, x_now, x_trial, x_sights, x_past, x_marks, .long x_drawn]), (td, kO 7 [td_names, td_kinds, td_yards, td_paces, td_skills, td_snow, td_law, .int 0, .int 0, .int td_bend, .int td_hour, .int td_bendTold, .int td_hourTold])] sz) [(x, kO 8 [x_tape, .ref td, x_draft, x_lines, x_draftLines, x_now, x_trial, x_sights, x_past, x_marks, .long x_drawn]), (td, kO 7 [td_names, td_kinds, td_yards, td_paces, td_skills, td_snow, td_law, .int 0, .int 0, .int td_bend, .int td_hour, .int td_bendTold, .int td_hourTold])] zt) (va_A [(x, kO 8 [x_tape, .ref td, x_draft, x_lines, x_draftLines, x_now, x_trial, x_sights, x_past, x_marks, .long x_drawn]), (td, kO 7 [td_names, td_kinds, td_yards, td_paces, td_skills, td_snow, td_law, .int 0, .int 0, .int td_bend, .int td_hour, .int td_bendTold, .int td_hourTold])] sz)) 0 0 (va_A [(x, kO 8 [x_tape, .ref td, x_draft, x_lines, x_draftLines, x_now, x_trial, x_sights, x_past, x_marks, .long x_drawn]), (td, kO 7 [td_names, td_kinds, td_yards, td_paces, td_skills, td_snow, td_law, .int 0, .int 0, .int td_bend, .int td_hour, .int td_bendTold, .int td_hourTold])] sz) := by
  refine Met.ofW (cc := cX8_chance) (maxL := 7) (ret := (some .int)) (by decide) rfl ?_
  intro p e s m args below meth c s₁ B hml hv
  obtain ⟨hav, hsz, hP, hK, hD0, hE⟩ := hv
  have hx := B.exec
  have hb := B.bytes
  have hr := B.returns
  have hts := atoms_spec (ws := wsX8_chance) B.pre
  have hown : s.vm.findClass RX8 = some m.cls := findClass_of_methodNamed B.named
  have hlocks := B.notSynchronized
  subst hsz
  have hD := hD0.self (sz := s.heap.size)
  generalize hAe : va_A [(x, kO 8 [x_tape, .ref td, x_draft, x_lines, x_draftLines, x_now, x_trial, x_sights, x_past, x_marks, .long x_drawn]), (td, kO 7 [td_names, td_kinds, td_yards, td_paces, td_skills, td_snow, td_law, .int 0, .int 0, .int td_bend, .int td_hour, .int td_bendTold, .int td_hourTold])] s.heap.size = A at hD ⊢
  have hA : ∀ q : Nat, s.heap.size ≤ q → A q := fun q h => by rw [← hAe]; exact Or.inr h
  have hS : va_S A s.heap s.heap [] := va_S.rf
  have hl := lv_entry ([.ref x, .int q1, .int q2, .int q3]) (n := 7) (Nat.le_of_ble_eq_true rfl)
  rw [show entryFrame m args 7 = entryFrame m ([.ref x, .int q1, .int q2, .int q3] : List Value).toArray 7 by rw [hav], lg_entry_eq]
  generalize (lg_sl ([.ref x, .int q1, .int q2, .int q3]) ++ List.replicate (7 - (lg_sl ([.ref x, .int q1, .int q2, .int q3])).length) Slot.unset).toArray = ls at hl ⊢
  have hl : lv_has ls 7 [(0, .ref x), (1, .int q1), (2, .int q2), (3, .int q3)] := hl
  obtain ⟨R, hR⟩ : ∃ R, R = (headSpec wsX8_chance ({ frames := 2, cells := 0, slots := 0, locals := 140 } : Room)).room := ⟨_, rfl⟩
  rw [← hR]
  generalize hQ : MQ below _ args s 0 0 A = Q
  replace hQ := hQ.symm
  obtain ⟨H, hH⟩ : ∃ H, H = s.heap := ⟨_, rfl⟩
  rw [← hH] at hP ⊢
  have hS : va_S A s.heap H [] := by rw [hH]; exact hS
  refine lv_aload_n hx hb dX8_chance_0 rfl (lv_at hl 0 rfl) ?_
  refine lv_iload_n hx hb dX8_chance_1 rfl (lv_at hl 1 rfl) ?_
  refine kz_Vi (As := [.int q1]) (rest := []) (wc := [(x, kO 8 [x_tape, .ref td, x_draft, x_lines, x_draftLines, x_now, x_trial, x_sights, x_past, x_marks, .long x_drawn]), (td, kO 7 [td_names, td_kinds, td_yards, td_paces, td_skills, td_snow, td_law, .int 0, .int 0, .int td_bend, .int td_hour, .int td_bendTold, .int td_hourTold])]) (wr := []) ⟨hx, hb, hml, hown, hts⟩ hK hE hP hD hS hA (mX8_isGuestOnRoad l D k H.size x q1 x_tape td x_draft x_lines x_draftLines x_now x_trial x_sights x_past x_marks x_drawn td_names td_kinds td_yards td_paces td_skills td_snow td_law td_bend td_hour td_bendTold td_hourTold) (cwV 1 hts gX8_chance_X8_isGuestOnRoad rfl rfl rfl (by decide +kernel) (by rw [hR]; exact ⟨Nat.le_of_ble_eq_true rfl, Nat.le_of_ble_eq_true rfl⟩)) [0, 1] [] rfl rfl (by decide) (by decide) (by decide) 0 rfl rfl rfl hl.1 rfl (Nat.le_of_ble_eq_true rfl) dX8_chance_2 (by rw [hR]; exact ⟨Nat.le_of_ble_eq_true rfl, Nat.le_of_ble_eq_true rfl⟩) (fun r1 u1 H locs hw1 hP hD hS => ?_)
  try dsimp only at hw1
  obtain rfl : r1 = 0 := hw1
  have hP : va_P D vwCl [(x, kO 8 [x_tape, .ref td, x_draft, x_lines, x_draftLines, x_now, x_trial, x_sights, x_past, x_marks, .long x_drawn]), (td, kO 7 [td_names, td_kinds, td_yards, td_paces, td_skills, td_snow, td_law, .int 0, .int 0, .int td_bend, .int td_hour, .int td_bendTold, .int td_hourTold])] H := hP
  have hD : va_D A [(x, kO 8 [x_tape, .ref td, x_draft, x_lines, x_draftLines, x_now, x_trial, x_sights, x_past, x_marks, .long x_drawn]), (td, kO 7 [td_names, td_kinds, td_yards, td_paces, td_skills, td_snow, td_law, .int 0, .int 0, .int td_bend, .int td_hour, .int td_bendTold, .int td_hourTold])] := hD
  refine lv_if_eq (tgt := 28) hx hb dX8_chance_5 (by decide) (fun c_2 => ?_) (fun c_2 => absurd (by decide) c_2)
  refine lv_iconst (v := (-1)) hx hb dX8_chance_28 (by decide) ?_
  rw [hQ]
  have hP9 := hP.sub (ws' := [(x, kO 8 [x_tape, .ref td, x_draft, x_lines, x_draftLines, x_now, x_trial, x_sights, x_past, x_marks, .long x_drawn]), (td, kO 7 [td_names, td_kinds, td_yards, td_paces, td_skills, td_snow, td_law, .int 0, .int 0, .int td_bend, .int td_hour, .int td_bendTold, .int td_hourTold])]) [0, 1] rfl
  have hD9 := hD.sub (ws' := [(x, kO 8 [x_tape, .ref td, x_draft, x_lines, x_draftLines, x_now, x_trial, x_sights, x_past, x_marks, .long x_drawn]), (td, kO 7 [td_names, td_kinds, td_yards, td_paces, td_skills, td_snow, td_law, .int 0, .int 0, .int td_bend, .int td_hour, .int td_bendTold, .int td_hourTold])]) [0, 1] (by decide) rfl
  exact W.iret (v := (-1)) hx hb hr (fun zt ht hW => ⟨⟨(-1), (), rfl, rfl, by rw [ht]; exact hP9, hD9⟩, hS.F ht⟩) hS.2.2 dX8_chance_29
theorem dX8_hire_0 : decode cX8_hire 0 = .ok (.aload_n 0, 1) := by decide +kernel
theorem dX8_hire_1 : decode cX8_hire 1 = .ok (.getfield 39, 3) := by decide +kernel
theorem dX8_hire_4 : decode cX8_hire 4 = .ok (.iload_n 1, 1) := by decide +kernel
theorem dX8_hire_5 : decode cX8_hire 5 = .ok (.iload_n 2, 1) := by decide +kernel
theorem dX8_hire_6 : decode cX8_hire 6 = .ok (.invokevirtual 152, 3) := by decide +kernel
theorem dX8_hire_9 : decode cX8_hire 9 = .ok (.ifCond .ne 5, 3) := by decide +kernel
theorem dX8_hire_12 : decode cX8_hire 12 = .ok (.iconst 0, 1) := by decide +kernel
theorem dX8_hire_13 : decode cX8_hire 13 = .ok (.ireturn, 1) := by decide +kernel
set_option maxRecDepth 20000 in
theorem ggX8_hire_X4_canEngage : GoodIn wsX8_hire wsX4_canEngage := goodIn_r _ [7, 8, 9, 10, 11, 6, 12, 13, 56, 57, 58, 59, 60, 61, 62, 63, 64, 65, 66, 67, 68] rfl (by decide +kernel)
set_option maxRecDepth 20000 in
theorem gX8_hire_X4_canEngage : GoodIn wsX8_hire (wsV RX8 152 RX4 yX4_canEngage wsX4_canEngage) := goodIn_app (goodIn_of _ (by decide +kernel)) ggX8_hire_X4_canEngage
set_option maxHeartbeats 4000000 in
set_option maxRecDepth 100000 in
theorem mX8_hire (l : Launch) (D : va_G) (k : Nat → ClassId) (sz : Nat) (x : Nat) (q1 : Int32) (q2 : Int32) (x_tape : Value) (x_told : Value) (x_draft : Value) (x_lines : Value) (x_draftLines : Value) (nw : Nat) (x_trial : Value) (x_sights : Value) (x_past : Value) (x_marks : Value) (x_drawn : Int64) (nw0 : Nat) (nw_paces : Value) (nw_stuck : Value) (nw_hirers : Value) (nw_places : Value) (nw_cameAt : Value) (nw_cooked : Value) (nw_inside : Int32) (nw_night : Int32) (nw_minute : Int32) (nw_tasted : Int32) (nw_lastCook : Int32) (nw_stirred : Int32) : Met l yX8_hire wsX8_hire ({ frames := 2, cells := 0, slots := 0, locals := 140 }) (va_Pc [.ref x, .int q1, .int q2] (kz_Pre D k [(x, kO 8 [x_tape, x_told, x_draft, x_lines, x_draftLines, .ref nw, x_trial, x_sights, x_past, x_marks, .long x_drawn]), (nw, kO 4 [.ref nw0, nw_paces, nw_stuck, nw_hirers, nw_places, nw_cameAt, nw_cooked, .int nw_inside, .int nw_night, .int nw_minute, .int nw_tasted, .int nw_lastCook, .int nw_stirred]), (nw0, kI k 6 (fun _ => 0))] sz)) (va_Qi (fun (rr : Int32) (uu : Unit) => rr = 0) (fun uu zt => kz_B D (va_A [(x, kO 8 [x_tape, x_told, x_draft, x_lines, x_draftLines, .ref nw, x_trial, x_sights, x_past, x_marks, .long x_drawn]), (nw, kO 4 [.ref nw0, nw_paces, nw_stuck, nw_hirers, nw_places, nw_cameAt, nw_cooked, .int nw_inside, .int nw_night, .int nw_minute, .int nw_tasted, .int nw_lastCook, .int nw_stirred]), (nw0, kI k 6 (fun _ => 0))] sz) [(x, kO 8 [x_tape, x_told, x_draft, x_lines, x_draftLines, .ref nw, x_trial, x_sights, x_past, x_marks, .long x_drawn]), (nw, kO 4 [.ref nw0, nw_paces, nw_stuck, nw_hirers, nw_places, nw_cameAt, nw_cooked, .int nw_inside, .int nw_night, .int nw_minute, .int nw_tasted, .int nw_lastCook, .int nw_stirred]), (nw0, kI k 6 (fun _ => 0))] zt) (va_A [(x, kO 8 [x_tape, x_told, x_draft, x_lines, x_draftLines, .ref nw, x_trial, x_sights, x_past, x_marks, .long x_drawn]), (nw, kO 4 [.ref nw0, nw_paces, nw_stuck, nw_hirers, nw_places, nw_cameAt, nw_cooked, .int nw_inside, .int nw_night, .int nw_minute, .int nw_tasted, .int nw_lastCook, .int nw_stirred]), (nw0, kI k 6 (fun _ => 0))] sz)) 0 0 (va_A [(x, kO 8 [x_tape, x_told, x_draft, x_lines, x_draftLines, .ref nw, x_trial, x_sights, x_past, x_marks, .long x_drawn]), (nw, kO 4 [.ref nw0, nw_paces, nw_stuck, nw_hirers, nw_places, nw_cameAt, nw_cooked, .int nw_inside, .int nw_night, .int nw_minute, .int nw_tasted, .int nw_lastCook, .int nw_stirred]), (nw0, kI k 6 (fun _ => 0))] sz) := by
  refine Met.ofW (cc := cX8_hire) (maxL := 3) (ret := (some .boolean)) (by decide) rfl ?_
  intro p e s m args below meth c s₁ B hml hv
  obtain ⟨hav, hsz, hP, hK, hD0, hE⟩ := hv
  have hx := B.exec
  have hb := B.bytes
  have hr := B.returns
  have hts := atoms_spec (ws := wsX8_hire) B.pre
  have hown : s.vm.findClass RX8 = some m.cls := findClass_of_methodNamed B.named
  have hlocks := B.notSynchronized
  have hi8 : ∀ w ∈ u_ws RX8 TX8 11, w ∈ wsX8_hire := by decide +kernel
  have lf39 := hts (.fieldLink RX8 39 "LastCook" "now" "LLastCook$Road;") (by decide +kernel)
  subst hsz
  have hD := hD0.self (sz := s.heap.size)
  generalize hAe : va_A [(x, kO 8 [x_tape, x_told, x_draft, x_lines, x_draftLines, .ref nw, x_trial, x_sights, x_past, x_marks, .long x_drawn]), (nw, kO 4 [.ref nw0, nw_paces, nw_stuck, nw_hirers, nw_places, nw_cameAt, nw_cooked, .int nw_inside, .int nw_night, .int nw_minute, .int nw_tasted, .int nw_lastCook, .int nw_stirred]), (nw0, kI k 6 (fun _ => 0))] s.heap.size = A at hD ⊢
  have hA : ∀ q : Nat, s.heap.size ≤ q → A q := fun q h => by rw [← hAe]; exact Or.inr h
  have hS : va_S A s.heap s.heap [] := va_S.rf
  have hl := lv_entry ([.ref x, .int q1, .int q2]) (n := 3) (Nat.le_of_ble_eq_true rfl)
  rw [show entryFrame m args 3 = entryFrame m ([.ref x, .int q1, .int q2] : List Value).toArray 3 by rw [hav], lg_entry_eq]
  generalize (lg_sl ([.ref x, .int q1, .int q2]) ++ List.replicate (3 - (lg_sl ([.ref x, .int q1, .int q2])).length) Slot.unset).toArray = ls at hl ⊢
  have hl : lv_has ls 3 [(0, .ref x), (1, .int q1), (2, .int q2)] := hl
  obtain ⟨R, hR⟩ : ∃ R, R = (headSpec wsX8_hire ({ frames := 2, cells := 0, slots := 0, locals := 140 } : Room)).room := ⟨_, rfl⟩
  rw [← hR]
  generalize hQ : MQ below _ args s 0 0 A = Q
  replace hQ := hQ.symm
  obtain ⟨H, hH⟩ : ∃ H, H = s.heap := ⟨_, rfl⟩
  rw [← hH] at hP ⊢
  have hS : va_S A s.heap H [] := by rw [hH]; exact hS
  refine lv_aload_n hx hb dX8_hire_0 rfl (lv_at hl 0 rfl) ?_
  refine va_get (D := D) (ci := 8) (v := .ref nw) (C := RX8) (T := TX8) (N := 11) hx hb hts hi8 hown hK hP 0 rfl rfl 5 (by decide) lf39 (fun _ h9 => h9) rfl dX8_hire_1 ?_
  refine lv_iload_n hx hb dX8_hire_4 rfl (lv_at hl 1 rfl) ?_
  refine lv_iload_n hx hb dX8_hire_5 rfl (lv_at hl 2 rfl) ?_
  refine kz_Vi (As := [.int q1, .int q2]) (rest := []) (wc := [(nw, kO 4 [.ref nw0, nw_paces, nw_stuck, nw_hirers, nw_places, nw_cameAt, nw_cooked, .int nw_inside, .int nw_night, .int nw_minute, .int nw_tasted, .int nw_lastCook, .int nw_stirred]), (nw0, kI k 6 (fun _ => 0))]) (wr := [(x, kO 8 [x_tape, x_told, x_draft, x_lines, x_draftLines, .ref nw, x_trial, x_sights, x_past, x_marks, .long x_drawn])]) ⟨hx, hb, hml, hown, hts⟩ hK hE hP hD hS hA (mX4_canEngage l D k H.size nw q1 q2 nw0 nw_paces nw_stuck nw_hirers nw_places nw_cameAt nw_cooked nw_inside nw_night nw_minute nw_tasted nw_lastCook nw_stirred) (cwV 2 hts gX8_hire_X4_canEngage rfl rfl rfl (by decide +kernel) (by rw [hR]; exact ⟨Nat.le_of_ble_eq_true rfl, Nat.le_of_ble_eq_true rfl⟩)) [1, 2] [0] rfl rfl (by decide) (by decide) (by decide) 0 rfl rfl rfl hl.1 rfl (Nat.le_of_ble_eq_true rfl) dX8_hire_6 (by rw [hR]; exact ⟨Nat.le_of_ble_eq_true rfl, Nat.le_of_ble_eq_true rfl⟩) (fun r1 u1 H locs hw1 hP hD hS => ?_)
  try dsimp only at hw1
  obtain rfl : r1 = 0 := hw1
  have hP : va_P D vwCl [(x, kO 8 [x_tape, x_told, x_draft, x_lines, x_draftLines, .ref nw, x_trial, x_sights, x_past, x_marks, .long x_drawn]), (nw, kO 4 [.ref nw0, nw_paces, nw_stuck, nw_hirers, nw_places, nw_cameAt, nw_cooked, .int nw_inside, .int nw_night, .int nw_minute, .int nw_tasted, .int nw_lastCook, .int nw_stirred]), (nw0, kI k 6 (fun _ => 0))] H := hP
  have hD : va_D A [(x, kO 8 [x_tape, x_told, x_draft, x_lines, x_draftLines, .ref nw, x_trial, x_sights, x_past, x_marks, .long x_drawn]), (nw, kO 4 [.ref nw0, nw_paces, nw_stuck, nw_hirers, nw_places, nw_cameAt, nw_cooked, .int nw_inside, .int nw_night, .int nw_minute, .int nw_tasted, .int nw_lastCook, .int nw_stirred]), (nw0, kI k 6 (fun _ => 0))] := hD
  refine lv_if_ne (tgt := 14) hx hb dX8_hire_9 (by decide) (fun c_2 => absurd (by decide) c_2) (fun c_2 => ?_)
  refine lv_iconst (v := 0) hx hb dX8_hire_12 (by decide) ?_
  rw [hQ]
  have hP9 := hP.sub (ws' := [(x, kO 8 [x_tape, x_told, x_draft, x_lines, x_draftLines, .ref nw, x_trial, x_sights, x_past, x_marks, .long x_drawn]), (nw, kO 4 [.ref nw0, nw_paces, nw_stuck, nw_hirers, nw_places, nw_cameAt, nw_cooked, .int nw_inside, .int nw_night, .int nw_minute, .int nw_tasted, .int nw_lastCook, .int nw_stirred]), (nw0, kI k 6 (fun _ => 0))]) [0, 1, 2] rfl
  have hD9 := hD.sub (ws' := [(x, kO 8 [x_tape, x_told, x_draft, x_lines, x_draftLines, .ref nw, x_trial, x_sights, x_past, x_marks, .long x_drawn]), (nw, kO 4 [.ref nw0, nw_paces, nw_stuck, nw_hirers, nw_places, nw_cameAt, nw_cooked, .int nw_inside, .int nw_night, .int nw_minute, .int nw_tasted, .int nw_lastCook, .int nw_stirred]), (nw0, kI k 6 (fun _ => 0))]) [0, 1, 2] (by decide) rfl
  exact W.zret (v := 0) hx hb hr rfl (fun zt ht hW => ⟨⟨0, (), rfl, rfl, by rw [ht]; exact hP9, hD9⟩, hS.F ht⟩) hS.2.2 dX8_hire_13
set_option maxHeartbeats 4000000 in
set_option maxRecDepth 100000 in
theorem mX4_goOn1 (l : Launch) (D : va_G) (k : Nat → ClassId) (sz : Nat) (r : Nat) (td : Nat) (mo : Int32) (r_yards : Value) (r_paces : Value) (r_stuck : Value) (r_hirers : Value) (r_places : Value) (r_cameAt : Value) (r_cooked : Value) (r_inside : Int32) (r_night : Int32) (r_minute : Int32) (r_tasted : Int32) (r_lastCook : Int32) (r_stirred : Int32) (td_names : Value) (td_kinds : Value) (td_yards : Value) (td_paces : Value) (td_skills : Value) (td_snow : Value) (td_law : Value) (td_bend : Int32) (td_hour : Int32) (td_bendTold : Int32) (td_hourTold : Int32) (hmo : ¬ mo < 1) : Met l yX4_goOn wsX4_goOn ({ frames := 4, cells := 0, slots := 0, locals := 280 }) (va_Pc [.ref r, .ref td, .int mo] (kz_Pre D k [(r, kO 4 [r_yards, r_paces, r_stuck, r_hirers, r_places, r_cameAt, r_cooked, .int r_inside, .int r_night, .int r_minute, .int r_tasted, .int r_lastCook, .int r_stirred]), (td, kO 7 [td_names, td_kinds, td_yards, td_paces, td_skills, td_snow, td_law, .int 0, .int 0, .int td_bend, .int td_hour, .int td_bendTold, .int td_hourTold])] sz)) (va_Qi (fun (rr : Int32) (uu : Unit) => rr = (-1)) (fun uu zt => kz_B D (va_A [(r, kO 4 [r_yards, r_paces, r_stuck, r_hirers, r_places, r_cameAt, r_cooked, .int r_inside, .int r_night, .int r_minute, .int r_tasted, .int r_lastCook, .int r_stirred]), (td, kO 7 [td_names, td_kinds, td_yards, td_paces, td_skills, td_snow, td_law, .int 0, .int 0, .int td_bend, .int td_hour, .int td_bendTold, .int td_hourTold])] sz) [(r, kO 4 [r_yards, r_paces, r_stuck, r_hirers, r_places, r_cameAt, r_cooked, .int r_inside, .int r_night, .int (r_minute + 1), .int r_tasted, .int r_lastCook, .int 0]), (td, kO 7 [td_names, td_kinds, td_yards, td_paces, td_skills, td_snow, td_law, .int 0, .int 0, .int td_bend, .int td_hour, .int td_bendTold, .int td_hourTold])] zt) (va_A [(r, kO 4 [r_yards, r_paces, r_stuck, r_hirers, r_places, r_cameAt, r_cooked, .int r_inside, .int r_night, .int r_minute, .int r_tasted, .int r_lastCook, .int r_stirred]), (td, kO 7 [td_names, td_kinds, td_yards, td_paces, td_skills, td_snow, td_law, .int 0, .int 0, .int td_bend, .int td_hour, .int td_bendTold, .int td_hourTold])] sz)) 0 0 (va_A [(r, kO 4 [r_yards, r_paces, r_stuck, r_hirers, r_places, r_cameAt, r_cooked, .int r_inside, .int r_night, .int r_minute, .int r_tasted, .int r_lastCook, .int r_stirred]), (td, kO 7 [td_names, td_kinds, td_yards, td_paces, td_skills, td_snow, td_law, .int 0, .int 0, .int td_bend, .int td_hour, .int td_bendTold, .int td_hourTold])] sz) := by
  refine Met.ofW (cc := cX4_goOn) (maxL := 4) (ret := (some .int)) (by decide) rfl ?_
  intro p e s m args below meth c s₁ B hml hv
  obtain ⟨hav, hsz, hP, hK, hD0, hE⟩ := hv
  have hx := B.exec
  have hb := B.bytes
  have hr := B.returns
  have hts := atoms_spec (ws := wsX4_goOn) B.pre
  have hown : s.vm.findClass RX4 = some m.cls := findClass_of_methodNamed B.named
  have hlocks := B.notSynchronized
  have hi4 : ∀ w ∈ u_ws RX4 TX4 13, w ∈ wsX4_goOn := by decide +kernel
  have lf47 := hts (.fieldLink RX4 47 "LastCook$Road" "minute" "I") (by decide +kernel)
  have lf91 := hts (.fieldLink RX4 91 "LastCook$Road" "stirred" "Z") (by decide +kernel)
  subst hsz
  have hD := hD0.self (sz := s.heap.size)
  generalize hAe : va_A [(r, kO 4 [r_yards, r_paces, r_stuck, r_hirers, r_places, r_cameAt, r_cooked, .int r_inside, .int r_night, .int r_minute, .int r_tasted, .int r_lastCook, .int r_stirred]), (td, kO 7 [td_names, td_kinds, td_yards, td_paces, td_skills, td_snow, td_law, .int 0, .int 0, .int td_bend, .int td_hour, .int td_bendTold, .int td_hourTold])] s.heap.size = A at hD ⊢
  have hA : ∀ q : Nat, s.heap.size ≤ q → A q := fun q h => by rw [← hAe]; exact Or.inr h
  have hS : va_S A s.heap s.heap [] := va_S.rf
  have hl := lv_entry ([.ref r, .ref td, .int mo]) (n := 4) (Nat.le_of_ble_eq_true rfl)
  rw [show entryFrame m args 4 = entryFrame m ([.ref r, .ref td, .int mo] : List Value).toArray 4 by rw [hav], lg_entry_eq]
  generalize (lg_sl ([.ref r, .ref td, .int mo]) ++ List.replicate (4 - (lg_sl ([.ref r, .ref td, .int mo])).length) Slot.unset).toArray = ls at hl ⊢
  have hl : lv_has ls 4 [(0, .ref r), (1, .ref td), (2, .int mo)] := hl
  obtain ⟨R, hR⟩ : ∃ R, R = (headSpec wsX4_goOn ({ frames := 4, cells := 0, slots := 0, locals := 280 } : Room)).room := ⟨_, rfl⟩
  rw [← hR]
  generalize hQ : MQ below _ args s 0 0 A = Q
  replace hQ := hQ.symm
  obtain ⟨H, hH⟩ : ∃ H, H = s.heap := ⟨_, rfl⟩
  rw [← hH] at hP ⊢
  have hS : va_S A s.heap H [] := by rw [hH]; exact hS
  refine lv_iconst (v := 1) hx hb dX4_goOn_0 (by decide) ?_
  refine lv_istore_n (lv' := [(3, .int 1), (0, .ref r), (1, .ref td), (2, .int mo)]) hx hb dX4_goOn_1 rfl hl (by decide) rfl (fun ls hl => ?_)
  refine lv_iload_n hx hb dX4_goOn_2 rfl (lv_at hl 0 rfl) ?_
  refine lv_iload_n hx hb dX4_goOn_3 rfl (lv_at hl 3 rfl) ?_
  refine lv_icmp_gt (tgt := 41) hx hb dX4_goOn_4 (by decide) (fun c_1 => absurd c_1 hmo) (fun c_1 => ?_)
  refine lv_aload_n hx hb dX4_goOn_7 rfl (lv_at hl 1 rfl) ?_
  refine lv_aload_n hx hb dX4_goOn_8 rfl (lv_at hl 2 rfl) ?_
  refine lv_aload_n hx hb dX4_goOn_9 rfl (lv_at hl 2 rfl) ?_
  refine lv_aload_n hx hb dX4_goOn_10 rfl (lv_at hl 1 rfl) ?_
  refine va_get (D := D) (ci := 4) (v := .int r_minute) (C := RX4) (T := TX4) (N := 13) hx hb hts hi4 hown hK hP 0 rfl rfl 9 (by decide) lf47 (fun _ h9 => h9) rfl dX4_goOn_11 ?_
  refine kz_Vi (As := [.int r_minute]) (rest := [.ref td, .ref r]) (wc := [(td, kO 7 [td_names, td_kinds, td_yards, td_paces, td_skills, td_snow, td_law, .int 0, .int 0, .int td_bend, .int td_hour, .int td_bendTold, .int td_hourTold])]) (wr := [(r, kO 4 [r_yards, r_paces, r_stuck, r_hirers, r_places, r_cameAt, r_cooked, .int r_inside, .int r_night, .int r_minute, .int r_tasted, .int r_lastCook, .int r_stirred])]) ⟨hx, hb, hml, hown, hts⟩ hK hE hP hD hS hA (mX7_snowAt l D k H.size td r_minute td_names td_kinds td_yards td_paces td_skills td_snow td_law 0 td_bend td_hour td_bendTold td_hourTold) (cwV 1 hts gX4_goOn_X7_snowAt rfl rfl rfl (by decide +kernel) (by rw [hR]; exact ⟨Nat.le_of_ble_eq_true rfl, Nat.le_of_ble_eq_true rfl⟩)) [1] [0] rfl rfl (by decide) (by decide) (by decide) 0 rfl rfl rfl hl.1 rfl (Nat.le_of_ble_eq_true rfl) dX4_goOn_14 (by rw [hR]; exact ⟨Nat.le_of_ble_eq_true rfl, Nat.le_of_ble_eq_true rfl⟩) (fun r2 u2 H locs hw2 hP hD hS => ?_)
  try dsimp only at hw2
  obtain rfl : r2 = 0 := hw2
  have hP : va_P D vwCl [(r, kO 4 [r_yards, r_paces, r_stuck, r_hirers, r_places, r_cameAt, r_cooked, .int r_inside, .int r_night, .int r_minute, .int r_tasted, .int r_lastCook, .int r_stirred]), (td, kO 7 [td_names, td_kinds, td_yards, td_paces, td_skills, td_snow, td_law, .int 0, .int 0, .int td_bend, .int td_hour, .int td_bendTold, .int td_hourTold])] H := hP
  have hD : va_D A [(r, kO 4 [r_yards, r_paces, r_stuck, r_hirers, r_places, r_cameAt, r_cooked, .int r_inside, .int r_night, .int r_minute, .int r_tasted, .int r_lastCook, .int r_stirred]), (td, kO 7 [td_names, td_kinds, td_yards, td_paces, td_skills, td_snow, td_law, .int 0, .int 0, .int td_bend, .int td_hour, .int td_bendTold, .int td_hourTold])] := hD
  refine kz_Vi (As := [.ref td, .int 0]) (rest := []) (wc := [(r, kO 4 [r_yards, r_paces, r_stuck, r_hirers, r_places, r_cameAt, r_cooked, .int r_inside, .int r_night, .int r_minute, .int r_tasted, .int r_lastCook, .int r_stirred]), (td, kO 7 [td_names, td_kinds, td_yards, td_paces, td_skills, td_snow, td_law, .int 0, .int 0, .int td_bend, .int td_hour, .int td_bendTold, .int td_hourTold])]) (wr := []) ⟨hx, hb, hml, hown, hts⟩ hK hE hP hD hS hA (mX4_passBySnow l D k H.size r td 0 r_yards r_paces r_stuck r_hirers r_places r_cameAt r_cooked r_inside r_night r_minute r_tasted r_lastCook r_stirred td_names td_kinds td_yards td_paces td_skills td_snow td_law td_bend td_hour td_bendTold td_hourTold) (cwV 2 hts gX4_goOn_X4_passBySnow rfl rfl rfl (by decide +kernel) (by rw [hR]; exact ⟨Nat.le_of_ble_eq_true rfl, Nat.le_of_ble_eq_true rfl⟩)) [0, 1] [] rfl rfl (by decide) (by decide) (by decide) 0 rfl rfl rfl hl.1 rfl (Nat.le_of_ble_eq_true rfl) dX4_goOn_17 (by rw [hR]; exact ⟨Nat.le_of_ble_eq_true rfl, Nat.le_of_ble_eq_true rfl⟩) (fun r3 u3 H locs hw3 hP hD hS => ?_)
  try dsimp only at hw3
  obtain rfl : r3 = (-1) := hw3
  have hP : va_P D vwCl [(r, kO 4 [r_yards, r_paces, r_stuck, r_hirers, r_places, r_cameAt, r_cooked, .int r_inside, .int r_night, .int (r_minute + 1), .int r_tasted, .int r_lastCook, .int 0]), (td, kO 7 [td_names, td_kinds, td_yards, td_paces, td_skills, td_snow, td_law, .int 0, .int 0, .int td_bend, .int td_hour, .int td_bendTold, .int td_hourTold])] H := hP
  have hD : va_D A [(r, kO 4 [r_yards, r_paces, r_stuck, r_hirers, r_places, r_cameAt, r_cooked, .int r_inside, .int r_night, .int (r_minute + 1), .int r_tasted, .int r_lastCook, .int 0]), (td, kO 7 [td_names, td_kinds, td_yards, td_paces, td_skills, td_snow, td_law, .int 0, .int 0, .int td_bend, .int td_hour, .int td_bendTold, .int td_hourTold])] := hD
  refine lv_iconst (v := (-1)) hx hb dX4_goOn_20 (by decide) ?_
  refine lv_icmp_eq (tgt := 26) hx hb dX4_goOn_21 (by decide) (fun c_4 => ?_) (fun c_4 => absurd (by decide) c_4)
  refine lv_aload_n hx hb dX4_goOn_26 rfl (lv_at hl 1 rfl) ?_
  refine va_get (D := D) (ci := 4) (v := .int 0) (C := RX4) (T := TX4) (N := 13) hx hb hts hi4 hown hK hP 0 rfl rfl 12 (by decide) lf91 (fun _ h9 => h9) rfl dX4_goOn_27 ?_
  refine lv_if_ne (tgt := 35) hx hb dX4_goOn_30 (by decide) (fun c_5 => absurd (by decide) c_5) (fun c_5 => ?_)
  refine lv_iconst (v := (-1)) hx hb dX4_goOn_33 (by decide) ?_
  rw [hQ]
  have hP9 := hP.sub (ws' := [(r, kO 4 [r_yards, r_paces, r_stuck, r_hirers, r_places, r_cameAt, r_cooked, .int r_inside, .int r_night, .int (r_minute + 1), .int r_tasted, .int r_lastCook, .int 0]), (td, kO 7 [td_names, td_kinds, td_yards, td_paces, td_skills, td_snow, td_law, .int 0, .int 0, .int td_bend, .int td_hour, .int td_bendTold, .int td_hourTold])]) [0, 1] rfl
  have hD9 := hD.sub (ws' := [(r, kO 4 [r_yards, r_paces, r_stuck, r_hirers, r_places, r_cameAt, r_cooked, .int r_inside, .int r_night, .int (r_minute + 1), .int r_tasted, .int r_lastCook, .int 0]), (td, kO 7 [td_names, td_kinds, td_yards, td_paces, td_skills, td_snow, td_law, .int 0, .int 0, .int td_bend, .int td_hour, .int td_bendTold, .int td_hourTold])]) [0, 1] (by decide) rfl
  exact W.iret (v := (-1)) hx hb hr (fun zt ht hW => ⟨⟨(-1), (), rfl, rfl, by rw [ht]; exact hP9, hD9⟩, hS.F ht⟩) hS.2.2 dX4_goOn_34
theorem dX3_keep_0 : decode cX3_keep 0 = .ok (.aload_n 0, 1) := by decide +kernel
theorem dX3_keep_1 : decode cX3_keep 1 = .ok (.getfield 16, 3) := by decide +kernel
theorem dX3_keep_4 : decode cX3_keep 4 = .ok (.bipush 16, 2) := by decide +kernel
theorem dX3_keep_6 : decode cX3_keep 6 = .ok (.if_icmp .ne 26, 3) := by decide +kernel
theorem dX3_keep_32 : decode cX3_keep 32 = .ok (.aload_n 0, 1) := by decide +kernel
theorem dX3_keep_33 : decode cX3_keep 33 = .ok (.getfield 11, 3) := by decide +kernel
theorem dX3_keep_36 : decode cX3_keep 36 = .ok (.aload_n 0, 1) := by decide +kernel
theorem dX3_keep_37 : decode cX3_keep 37 = .ok (.getfield 20, 3) := by decide +kernel
theorem dX3_keep_40 : decode cX3_keep 40 = .ok (.aload_n 0, 1) := by decide +kernel
theorem dX3_keep_41 : decode cX3_keep 41 = .ok (.getfield 16, 3) := by decide +kernel
theorem dX3_keep_44 : decode cX3_keep 44 = .ok (.iadd, 1) := by decide +kernel
theorem dX3_keep_45 : decode cX3_keep 45 = .ok (.bipush 16, 2) := by decide +kernel
theorem dX3_keep_47 : decode cX3_keep 47 = .ok (.irem, 1) := by decide +kernel
theorem dX3_keep_48 : decode cX3_keep 48 = .ok (.aaload, 1) := by decide +kernel
theorem dX3_keep_49 : decode cX3_keep 49 = .ok (.aload_n 1, 1) := by decide +kernel
theorem dX3_keep_50 : decode cX3_keep 50 = .ok (.invokevirtual 23, 3) := by decide +kernel
theorem dX3_keep_53 : decode cX3_keep 53 = .ok (.aload_n 0, 1) := by decide +kernel
theorem dX3_keep_54 : decode cX3_keep 54 = .ok (.dup, 1) := by decide +kernel
theorem dX3_keep_55 : decode cX3_keep 55 = .ok (.getfield 16, 3) := by decide +kernel
theorem dX3_keep_58 : decode cX3_keep 58 = .ok (.iconst 1, 1) := by decide +kernel
theorem dX3_keep_59 : decode cX3_keep 59 = .ok (.iadd, 1) := by decide +kernel
theorem dX3_keep_60 : decode cX3_keep 60 = .ok (.putfield 16, 3) := by decide +kernel
theorem dX3_keep_63 : decode cX3_keep 63 = .ok (.return_, 1) := by decide +kernel
set_option maxRecDepth 20000 in
theorem ggX3_keep_X4_copyFrom : GoodIn wsX3_keep wsX4_copyFrom := goodIn_r _ [8, 9, 10, 11, 12, 13, 14, 15, 16, 17, 18, 19, 20, 21, 22, 23, 24, 28, 29, 30, 31, 32, 33, 34, 35, 36, 37, 38, 39, 40] rfl (by decide +kernel)
set_option maxRecDepth 20000 in
theorem gX3_keep_X4_copyFrom : GoodIn wsX3_keep (wsV RX3 23 RX4 yX4_copyFrom wsX4_copyFrom) := goodIn_app (goodIn_of _ (by decide +kernel)) ggX3_keep_X4_copyFrom
set_option maxHeartbeats 4000000 in
set_option maxRecDepth 100000 in
theorem mX3_keep (l : Launch) (D : va_G) (k : Nat → ClassId) (sz : Nat) (pa : Nat) (nw : Nat) (kp : Nat) (kf : Nat → Option Nat) (kr : Nat) (kr0 : Nat) (kr1 : Nat) (kr2 : Nat) (kr3 : Nat) (kr4 : Nat) (kr5 : Nat) (kr6 : Nat) (kr_inside : Int32) (kr_night : Int32) (kr_minute : Int32) (kr_tasted : Int32) (kr_lastCook : Int32) (kr_stirred : Int32) (krf0 : Nat → Int32) (krf1 : Nat → Int32) (krf2 : Nat → Int32) (krf3 : Nat → Int32) (krf4 : Nat → Int32) (krf5 : Nat → Int32) (krf6 : Nat → Int32) (nw0 : Nat) (nw1 : Nat) (nw2 : Nat) (nw3 : Nat) (nw4 : Nat) (nw5 : Nat) (nw6 : Nat) (nw_inside : Int32) (nw_night : Int32) (nw_minute : Int32) (nw_tasted : Int32) (nw_lastCook : Int32) (nw_stirred : Int32) (nwf0 : Nat → Int32) (nwf1 : Nat → Int32) (nwf2 : Nat → Int32) (nwf3 : Nat → Int32) (nwf4 : Nat → Int32) (nwf5 : Nat → Int32) (nwf6 : Nat → Int32) (hkf : kf 0 = some kr) : Met l yX3_keep wsX3_keep ({ frames := 2, cells := 0, slots := 0, locals := 140 }) (va_Pc [.ref pa, .ref nw] (kz_Pre D k [(pa, kO 3 [.ref kp, .int 0, .int 0]), (kp, kR k 16 kf), (kr, kO 4 [.ref kr0, .ref kr1, .ref kr2, .ref kr3, .ref kr4, .ref kr5, .ref kr6, .int kr_inside, .int kr_night, .int kr_minute, .int kr_tasted, .int kr_lastCook, .int kr_stirred]), (kr0, kI k 6 krf0), (kr1, kI k 6 krf1), (kr2, kI k 6 krf2), (kr3, kI k 6 krf3), (kr4, kI k 6 krf4), (kr5, kI k 6 krf5), (kr6, kI k 6 krf6), (nw, kO 4 [.ref nw0, .ref nw1, .ref nw2, .ref nw3, .ref nw4, .ref nw5, .ref nw6, .int nw_inside, .int nw_night, .int nw_minute, .int nw_tasted, .int nw_lastCook, .int nw_stirred]), (nw0, kI k 6 nwf0), (nw1, kI k 6 nwf1), (nw2, kI k 6 nwf2), (nw3, kI k 6 nwf3), (nw4, kI k 6 nwf4), (nw5, kI k 6 nwf5), (nw6, kI k 6 nwf6)] sz)) (va_Qv (fun (uu : Unit) => True) (fun uu zt => kz_B D (va_A [(pa, kO 3 [.ref kp, .int 0, .int 0]), (kp, kR k 16 kf), (kr, kO 4 [.ref kr0, .ref kr1, .ref kr2, .ref kr3, .ref kr4, .ref kr5, .ref kr6, .int kr_inside, .int kr_night, .int kr_minute, .int kr_tasted, .int kr_lastCook, .int kr_stirred]), (kr0, kI k 6 krf0), (kr1, kI k 6 krf1), (kr2, kI k 6 krf2), (kr3, kI k 6 krf3), (kr4, kI k 6 krf4), (kr5, kI k 6 krf5), (kr6, kI k 6 krf6), (nw, kO 4 [.ref nw0, .ref nw1, .ref nw2, .ref nw3, .ref nw4, .ref nw5, .ref nw6, .int nw_inside, .int nw_night, .int nw_minute, .int nw_tasted, .int nw_lastCook, .int nw_stirred]), (nw0, kI k 6 nwf0), (nw1, kI k 6 nwf1), (nw2, kI k 6 nwf2), (nw3, kI k 6 nwf3), (nw4, kI k 6 nwf4), (nw5, kI k 6 nwf5), (nw6, kI k 6 nwf6)] sz) [(pa, kO 3 [.ref kp, .int 0, .int 1]), (kp, kR k 16 kf), (kr, kO 4 [.ref kr0, .ref kr1, .ref kr2, .ref kr3, .ref kr4, .ref kr5, .ref kr6, .int nw_inside, .int nw_night, .int nw_minute, .int nw_tasted, .int nw_lastCook, .int kr_stirred]), (kr0, kI k 6 (va_cpy nwf0 krf0 0 0 6)), (kr1, kI k 6 (va_cpy nwf1 krf1 0 0 6)), (kr2, kI k 6 (va_cpy nwf2 krf2 0 0 6)), (kr3, kI k 6 (va_cpy nwf3 krf3 0 0 6)), (kr4, kI k 6 (va_cpy nwf4 krf4 0 0 6)), (kr5, kI k 6 (va_cpy nwf5 krf5 0 0 6)), (kr6, kI k 6 (va_cpy nwf6 krf6 0 0 6)), (nw, kO 4 [.ref nw0, .ref nw1, .ref nw2, .ref nw3, .ref nw4, .ref nw5, .ref nw6, .int nw_inside, .int nw_night, .int nw_minute, .int nw_tasted, .int nw_lastCook, .int nw_stirred]), (nw0, kI k 6 nwf0), (nw1, kI k 6 nwf1), (nw2, kI k 6 nwf2), (nw3, kI k 6 nwf3), (nw4, kI k 6 nwf4), (nw5, kI k 6 nwf5), (nw6, kI k 6 nwf6)] zt) (va_A [(pa, kO 3 [.ref kp, .int 0, .int 0]), (kp, kR k 16 kf), (kr, kO 4 [.ref kr0, .ref kr1, .ref kr2, .ref kr3, .ref kr4, .ref kr5, .ref kr6, .int kr_inside, .int kr_night, .int kr_minute, .int kr_tasted, .int kr_lastCook, .int kr_stirred]), (kr0, kI k 6 krf0), (kr1, kI k 6 krf1), (kr2, kI k 6 krf2), (kr3, kI k 6 krf3), (kr4, kI k 6 krf4), (kr5, kI k 6 krf5), (kr6, kI k 6 krf6), (nw, kO 4 [.ref nw0, .ref nw1, .ref nw2, .ref nw3, .ref nw4, .ref nw5, .ref nw6, .int nw_inside, .int nw_night, .int nw_minute, .int nw_tasted, .int nw_lastCook, .int nw_stirred]), (nw0, kI k 6 nwf0), (nw1, kI k 6 nwf1), (nw2, kI k 6 nwf2), (nw3, kI k 6 nwf3), (nw4, kI k 6 nwf4), (nw5, kI k 6 nwf5), (nw6, kI k 6 nwf6)] sz)) 0 0 (va_A [(pa, kO 3 [.ref kp, .int 0, .int 0]), (kp, kR k 16 kf), (kr, kO 4 [.ref kr0, .ref kr1, .ref kr2, .ref kr3, .ref kr4, .ref kr5, .ref kr6, .int kr_inside, .int kr_night, .int kr_minute, .int kr_tasted, .int kr_lastCook, .int kr_stirred]), (kr0, kI k 6 krf0), (kr1, kI k 6 krf1), (kr2, kI k 6 krf2), (kr3, kI k 6 krf3), (kr4, kI k 6 krf4), (kr5, kI k 6 krf5), (kr6, kI k 6 krf6), (nw, kO 4 [.ref nw0, .ref nw1, .ref nw2, .ref nw3, .ref nw4, .ref nw5, .ref nw6, .int nw_inside, .int nw_night, .int nw_minute, .int nw_tasted, .int nw_lastCook, .int nw_stirred]), (nw0, kI k 6 nwf0), (nw1, kI k 6 nwf1), (nw2, kI k 6 nwf2), (nw3, kI k 6 nwf3), (nw4, kI k 6 nwf4), (nw5, kI k 6 nwf5), (nw6, kI k 6 nwf6)] sz) := by
  refine Met.ofW (cc := cX3_keep) (maxL := 2) (ret := none) (by decide) rfl ?_
  intro p e s m args below meth c s₁ B hml hv
  obtain ⟨hav, hsz, hP, hK, hD0, hE⟩ := hv
  have hx := B.exec
  have hb := B.bytes
  have hr := B.returns
  have hts := atoms_spec (ws := wsX3_keep) B.pre
  have hown : s.vm.findClass RX3 = some m.cls := findClass_of_methodNamed B.named
  have hlocks := B.notSynchronized
  have hi3 : ∀ w ∈ u_ws RX3 TX3 3, w ∈ wsX3_keep := by decide +kernel
  have lf16 := hts (.fieldLink RX3 16 "LastCook$Past" "size" "I") (by decide +kernel)
  have lf11 := hts (.fieldLink RX3 11 "LastCook$Past" "kept" "[LLastCook$Road;") (by decide +kernel)
  have lf20 := hts (.fieldLink RX3 20 "LastCook$Past" "first" "I") (by decide +kernel)
  subst hsz
  have hD := hD0.self (sz := s.heap.size)
  generalize hAe : va_A [(pa, kO 3 [.ref kp, .int 0, .int 0]), (kp, kR k 16 kf), (kr, kO 4 [.ref kr0, .ref kr1, .ref kr2, .ref kr3, .ref kr4, .ref kr5, .ref kr6, .int kr_inside, .int kr_night, .int kr_minute, .int kr_tasted, .int kr_lastCook, .int kr_stirred]), (kr0, kI k 6 krf0), (kr1, kI k 6 krf1), (kr2, kI k 6 krf2), (kr3, kI k 6 krf3), (kr4, kI k 6 krf4), (kr5, kI k 6 krf5), (kr6, kI k 6 krf6), (nw, kO 4 [.ref nw0, .ref nw1, .ref nw2, .ref nw3, .ref nw4, .ref nw5, .ref nw6, .int nw_inside, .int nw_night, .int nw_minute, .int nw_tasted, .int nw_lastCook, .int nw_stirred]), (nw0, kI k 6 nwf0), (nw1, kI k 6 nwf1), (nw2, kI k 6 nwf2), (nw3, kI k 6 nwf3), (nw4, kI k 6 nwf4), (nw5, kI k 6 nwf5), (nw6, kI k 6 nwf6)] s.heap.size = A at hD ⊢
  have hA : ∀ q : Nat, s.heap.size ≤ q → A q := fun q h => by rw [← hAe]; exact Or.inr h
  have hS : va_S A s.heap s.heap [] := va_S.rf
  have hl := lv_entry ([.ref pa, .ref nw]) (n := 2) (Nat.le_of_ble_eq_true rfl)
  rw [show entryFrame m args 2 = entryFrame m ([.ref pa, .ref nw] : List Value).toArray 2 by rw [hav], lg_entry_eq]
  generalize (lg_sl ([.ref pa, .ref nw]) ++ List.replicate (2 - (lg_sl ([.ref pa, .ref nw])).length) Slot.unset).toArray = ls at hl ⊢
  have hl : lv_has ls 2 [(0, .ref pa), (1, .ref nw)] := hl
  obtain ⟨R, hR⟩ : ∃ R, R = (headSpec wsX3_keep ({ frames := 2, cells := 0, slots := 0, locals := 140 } : Room)).room := ⟨_, rfl⟩
  rw [← hR]
  generalize hQ : MQ below _ args s 0 0 A = Q
  replace hQ := hQ.symm
  obtain ⟨H, hH⟩ : ∃ H, H = s.heap := ⟨_, rfl⟩
  rw [← hH] at hP ⊢
  have hS : va_S A s.heap H [] := by rw [hH]; exact hS
  refine lv_aload_n hx hb dX3_keep_0 rfl (lv_at hl 0 rfl) ?_
  refine va_get (D := D) (ci := 3) (v := .int 0) (C := RX3) (T := TX3) (N := 3) hx hb hts hi3 hown hK hP 0 rfl rfl 2 (by decide) lf16 (fun _ h9 => h9) rfl dX3_keep_1 ?_
  refine lv_bipush (v := 16) hx hb dX3_keep_4 (by decide) ?_
  refine lv_icmp_ne (tgt := 32) hx hb dX3_keep_6 (by decide) (fun c_1 => ?_) (fun c_1 => absurd c_1 (by decide))
  refine lv_aload_n hx hb dX3_keep_32 rfl (lv_at hl 0 rfl) ?_
  refine va_get (D := D) (ci := 3) (v := .ref kp) (C := RX3) (T := TX3) (N := 3) hx hb hts hi3 hown hK hP 0 rfl rfl 0 (by decide) lf11 (fun _ h9 => h9) rfl dX3_keep_33 ?_
  refine lv_aload_n hx hb dX3_keep_36 rfl (lv_at hl 0 rfl) ?_
  refine va_get (D := D) (ci := 3) (v := .int 0) (C := RX3) (T := TX3) (N := 3) hx hb hts hi3 hown hK hP 0 rfl rfl 1 (by decide) lf20 (fun _ h9 => h9) rfl dX3_keep_37 ?_
  refine lv_aload_n hx hb dX3_keep_40 rfl (lv_at hl 0 rfl) ?_
  refine va_get (D := D) (ci := 3) (v := .int 0) (C := RX3) (T := TX3) (N := 3) hx hb hts hi3 hown hK hP 0 rfl rfl 2 (by decide) lf16 (fun _ h9 => h9) rfl dX3_keep_41 ?_
  refine lv_iadd hx hb dX3_keep_44 ?_
  refine lv_topi (fun x2 ex2 => ?_)
  obtain rfl : x2 = 0 := ex2.trans (by decide)
  refine lv_bipush (v := 16) hx hb dX3_keep_45 (by decide) ?_
  refine lv_irem hx hb dX3_keep_47 (by decide) ?_
  refine lv_topi (fun x3 ex3 => ?_)
  obtain rfl : x3 = 0 := ex3.trans (by decide)
  refine va_aldq hx hb hK hP 1 5 rfl rfl (vp_in_iff.mpr (by decide)) dX3_keep_48 ?_
  refine kz_top (w := .ref kr) (by rw [show Int32.toNatClampNeg 0 = 0 from rfl, hkf]; rfl) ?_
  refine lv_aload_n hx hb dX3_keep_49 rfl (lv_at hl 1 rfl) ?_
  refine kz_Vv (As := [.ref nw]) (rest := []) (wc := [(kr, kO 4 [.ref kr0, .ref kr1, .ref kr2, .ref kr3, .ref kr4, .ref kr5, .ref kr6, .int kr_inside, .int kr_night, .int kr_minute, .int kr_tasted, .int kr_lastCook, .int kr_stirred]), (kr0, kI k 6 krf0), (kr1, kI k 6 krf1), (kr2, kI k 6 krf2), (kr3, kI k 6 krf3), (kr4, kI k 6 krf4), (kr5, kI k 6 krf5), (kr6, kI k 6 krf6), (nw, kO 4 [.ref nw0, .ref nw1, .ref nw2, .ref nw3, .ref nw4, .ref nw5, .ref nw6, .int nw_inside, .int nw_night, .int nw_minute, .int nw_tasted, .int nw_lastCook, .int nw_stirred]), (nw0, kI k 6 nwf0), (nw1, kI k 6 nwf1), (nw2, kI k 6 nwf2), (nw3, kI k 6 nwf3), (nw4, kI k 6 nwf4), (nw5, kI k 6 nwf5), (nw6, kI k 6 nwf6)]) (wr := [(pa, kO 3 [.ref kp, .int 0, .int 0]), (kp, kR k 16 kf)]) ⟨hx, hb, hml, hown, hts⟩ hK hE hP hD hS hA (mX4_copyFrom l D k H.size kr nw kr0 kr1 kr2 kr3 kr4 kr5 kr6 kr_inside kr_night kr_minute kr_tasted kr_lastCook kr_stirred krf0 krf1 krf2 krf3 krf4 krf5 krf6 nw0 nw1 nw2 nw3 nw4 nw5 nw6 nw_inside nw_night nw_minute nw_tasted nw_lastCook nw_stirred nwf0 nwf1 nwf2 nwf3 nwf4 nwf5 nwf6) (cwV 1 hts gX3_keep_X4_copyFrom rfl rfl rfl (by decide +kernel) (by rw [hR]; exact ⟨Nat.le_of_ble_eq_true rfl, Nat.le_of_ble_eq_true rfl⟩)) [2, 3, 4, 5, 6, 7, 8, 9, 10, 11, 12, 13, 14, 15, 16, 17] [0, 1] rfl rfl (by decide) (by decide) (by decide) 0 rfl rfl rfl hl.1 rfl (Nat.le_of_ble_eq_true rfl) dX3_keep_50 (by rw [hR]; exact ⟨Nat.le_of_ble_eq_true rfl, Nat.le_of_ble_eq_true rfl⟩) (fun u5 H locs hw5 hP hD hS => ?_)
  have hP : va_P D vwCl [(pa, kO 3 [.ref kp, .int 0, .int 0]), (kp, kR k 16 kf), (kr, kO 4 [.ref kr0, .ref kr1, .ref kr2, .ref kr3, .ref kr4, .ref kr5, .ref kr6, .int nw_inside, .int nw_night, .int nw_minute, .int nw_tasted, .int nw_lastCook, .int kr_stirred]), (kr0, kI k 6 (va_cpy nwf0 krf0 0 0 6)), (kr1, kI k 6 (va_cpy nwf1 krf1 0 0 6)), (kr2, kI k 6 (va_cpy nwf2 krf2 0 0 6)), (kr3, kI k 6 (va_cpy nwf3 krf3 0 0 6)), (kr4, kI k 6 (va_cpy nwf4 krf4 0 0 6)), (kr5, kI k 6 (va_cpy nwf5 krf5 0 0 6)), (kr6, kI k 6 (va_cpy nwf6 krf6 0 0 6)), (nw, kO 4 [.ref nw0, .ref nw1, .ref nw2, .ref nw3, .ref nw4, .ref nw5, .ref nw6, .int nw_inside, .int nw_night, .int nw_minute, .int nw_tasted, .int nw_lastCook, .int nw_stirred]), (nw0, kI k 6 nwf0), (nw1, kI k 6 nwf1), (nw2, kI k 6 nwf2), (nw3, kI k 6 nwf3), (nw4, kI k 6 nwf4), (nw5, kI k 6 nwf5), (nw6, kI k 6 nwf6)] H := hP
  have hD : va_D A [(pa, kO 3 [.ref kp, .int 0, .int 0]), (kp, kR k 16 kf), (kr, kO 4 [.ref kr0, .ref kr1, .ref kr2, .ref kr3, .ref kr4, .ref kr5, .ref kr6, .int nw_inside, .int nw_night, .int nw_minute, .int nw_tasted, .int nw_lastCook, .int kr_stirred]), (kr0, kI k 6 (va_cpy nwf0 krf0 0 0 6)), (kr1, kI k 6 (va_cpy nwf1 krf1 0 0 6)), (kr2, kI k 6 (va_cpy nwf2 krf2 0 0 6)), (kr3, kI k 6 (va_cpy nwf3 krf3 0 0 6)), (kr4, kI k 6 (va_cpy nwf4 krf4 0 0 6)), (kr5, kI k 6 (va_cpy nwf5 krf5 0 0 6)), (kr6, kI k 6 (va_cpy nwf6 krf6 0 0 6)), (nw, kO 4 [.ref nw0, .ref nw1, .ref nw2, .ref nw3, .ref nw4, .ref nw5, .ref nw6, .int nw_inside, .int nw_night, .int nw_minute, .int nw_tasted, .int nw_lastCook, .int nw_stirred]), (nw0, kI k 6 nwf0), (nw1, kI k 6 nwf1), (nw2, kI k 6 nwf2), (nw3, kI k 6 nwf3), (nw4, kI k 6 nwf4), (nw5, kI k 6 nwf5), (nw6, kI k 6 nwf6)] := hD
  refine lv_aload_n hx hb dX3_keep_53 rfl (lv_at hl 0 rfl) ?_
  refine lv_dup hx hb dX3_keep_54 rfl ?_
  refine va_get (D := D) (ci := 3) (v := .int 0) (C := RX3) (T := TX3) (N := 3) hx hb hts hi3 hown hK hP 0 rfl rfl 2 (by decide) lf16 (fun _ h9 => h9) rfl dX3_keep_55 ?_
  refine lv_iconst (v := 1) hx hb dX3_keep_58 (by decide) ?_
  refine lv_iadd hx hb dX3_keep_59 ?_
  refine lv_topi (fun x6 ex6 => ?_)
  obtain rfl : x6 = 1 := ex6.trans (by decide)
  refine va_put (D := D) (ci := 3) (v := .int 1) (ty := .int) (C := RX3) (T := TX3) (N := 3) hx hb hts hi3 tyX3 tyX3_ok nmX3 hown hK hP hD hS 0 rfl rfl 2 (by decide) lf16 (fun _ h9 => h9) rfl (by decide +kernel) rfl rfl (Nat.le_of_ble_eq_true rfl) dX3_keep_60 (fun H locs hP hD hS => ?_)
  have hP : va_P D vwCl [(pa, kO 3 [.ref kp, .int 0, .int 1]), (kp, kR k 16 kf), (kr, kO 4 [.ref kr0, .ref kr1, .ref kr2, .ref kr3, .ref kr4, .ref kr5, .ref kr6, .int nw_inside, .int nw_night, .int nw_minute, .int nw_tasted, .int nw_lastCook, .int kr_stirred]), (kr0, kI k 6 (va_cpy nwf0 krf0 0 0 6)), (kr1, kI k 6 (va_cpy nwf1 krf1 0 0 6)), (kr2, kI k 6 (va_cpy nwf2 krf2 0 0 6)), (kr3, kI k 6 (va_cpy nwf3 krf3 0 0 6)), (kr4, kI k 6 (va_cpy nwf4 krf4 0 0 6)), (kr5, kI k 6 (va_cpy nwf5 krf5 0 0 6)), (kr6, kI k 6 (va_cpy nwf6 krf6 0 0 6)), (nw, kO 4 [.ref nw0, .ref nw1, .ref nw2, .ref nw3, .ref nw4, .ref nw5, .ref nw6, .int nw_inside, .int nw_night, .int nw_minute, .int nw_tasted, .int nw_lastCook, .int nw_stirred]), (nw0, kI k 6 nwf0), (nw1, kI k 6 nwf1), (nw2, kI k 6 nwf2), (nw3, kI k 6 nwf3), (nw4, kI k 6 nwf4), (nw5, kI k 6 nwf5), (nw6, kI k 6 nwf6)] H := hP
  have hD : va_D A [(pa, kO 3 [.ref kp, .int 0, .int 1]), (kp, kR k 16 kf), (kr, kO 4 [.ref kr0, .ref kr1, .ref kr2, .ref kr3, .ref kr4, .ref kr5, .ref kr6, .int nw_inside, .int nw_night, .int nw_minute, .int nw_tasted, .int nw_lastCook, .int kr_stirred]), (kr0, kI k 6 (va_cpy nwf0 krf0 0 0 6)), (kr1, kI k 6 (va_cpy nwf1 krf1 0 0 6)), (kr2, kI k 6 (va_cpy nwf2 krf2 0 0 6)), (kr3, kI k 6 (va_cpy nwf3 krf3 0 0 6)), (kr4, kI k 6 (va_cpy nwf4 krf4 0 0 6)), (kr5, kI k 6 (va_cpy nwf5 krf5 0 0 6)), (kr6, kI k 6 (va_cpy nwf6 krf6 0 0 6)), (nw, kO 4 [.ref nw0, .ref nw1, .ref nw2, .ref nw3, .ref nw4, .ref nw5, .ref nw6, .int nw_inside, .int nw_night, .int nw_minute, .int nw_tasted, .int nw_lastCook, .int nw_stirred]), (nw0, kI k 6 nwf0), (nw1, kI k 6 nwf1), (nw2, kI k 6 nwf2), (nw3, kI k 6 nwf3), (nw4, kI k 6 nwf4), (nw5, kI k 6 nwf5), (nw6, kI k 6 nwf6)] := hD
  rw [hQ]
  have hP9 := hP.sub (ws' := [(pa, kO 3 [.ref kp, .int 0, .int 1]), (kp, kR k 16 kf), (kr, kO 4 [.ref kr0, .ref kr1, .ref kr2, .ref kr3, .ref kr4, .ref kr5, .ref kr6, .int nw_inside, .int nw_night, .int nw_minute, .int nw_tasted, .int nw_lastCook, .int kr_stirred]), (kr0, kI k 6 (va_cpy nwf0 krf0 0 0 6)), (kr1, kI k 6 (va_cpy nwf1 krf1 0 0 6)), (kr2, kI k 6 (va_cpy nwf2 krf2 0 0 6)), (kr3, kI k 6 (va_cpy nwf3 krf3 0 0 6)), (kr4, kI k 6 (va_cpy nwf4 krf4 0 0 6)), (kr5, kI k 6 (va_cpy nwf5 krf5 0 0 6)), (kr6, kI k 6 (va_cpy nwf6 krf6 0 0 6)), (nw, kO 4 [.ref nw0, .ref nw1, .ref nw2, .ref nw3, .ref nw4, .ref nw5, .ref nw6, .int nw_inside, .int nw_night, .int nw_minute, .int nw_tasted, .int nw_lastCook, .int nw_stirred]), (nw0, kI k 6 nwf0), (nw1, kI k 6 nwf1), (nw2, kI k 6 nwf2), (nw3, kI k 6 nwf3), (nw4, kI k 6 nwf4), (nw5, kI k 6 nwf5), (nw6, kI k 6 nwf6)]) [0, 1, 2, 3, 4, 5, 6, 7, 8, 9, 10, 11, 12, 13, 14, 15, 16, 17] rfl
  have hD9 := hD.sub (ws' := [(pa, kO 3 [.ref kp, .int 0, .int 1]), (kp, kR k 16 kf), (kr, kO 4 [.ref kr0, .ref kr1, .ref kr2, .ref kr3, .ref kr4, .ref kr5, .ref kr6, .int nw_inside, .int nw_night, .int nw_minute, .int nw_tasted, .int nw_lastCook, .int kr_stirred]), (kr0, kI k 6 (va_cpy nwf0 krf0 0 0 6)), (kr1, kI k 6 (va_cpy nwf1 krf1 0 0 6)), (kr2, kI k 6 (va_cpy nwf2 krf2 0 0 6)), (kr3, kI k 6 (va_cpy nwf3 krf3 0 0 6)), (kr4, kI k 6 (va_cpy nwf4 krf4 0 0 6)), (kr5, kI k 6 (va_cpy nwf5 krf5 0 0 6)), (kr6, kI k 6 (va_cpy nwf6 krf6 0 0 6)), (nw, kO 4 [.ref nw0, .ref nw1, .ref nw2, .ref nw3, .ref nw4, .ref nw5, .ref nw6, .int nw_inside, .int nw_night, .int nw_minute, .int nw_tasted, .int nw_lastCook, .int nw_stirred]), (nw0, kI k 6 nwf0), (nw1, kI k 6 nwf1), (nw2, kI k 6 nwf2), (nw3, kI k 6 nwf3), (nw4, kI k 6 nwf4), (nw5, kI k 6 nwf5), (nw6, kI k 6 nwf6)]) [0, 1, 2, 3, 4, 5, 6, 7, 8, 9, 10, 11, 12, 13, 14, 15, 16, 17] (by decide) rfl
  exact W.vret hx hb hr (fun zt ht hW => ⟨⟨(), rfl, trivial, by rw [ht]; exact hP9, hD9⟩, hS.F ht⟩) hS.2.2 dX3_keep_63
