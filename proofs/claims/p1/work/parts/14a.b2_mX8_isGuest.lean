theorem dX8_isGuest_0 : decode cX8_isGuest 0 = .ok (.iload_n 1, 1) := by decide +kernel
theorem dX8_isGuest_1 : decode cX8_isGuest 1 = .ok (.ifCond .lt 18, 3) := by decide +kernel
theorem dX8_isGuest_4 : decode cX8_isGuest 4 = .ok (.iload_n 1, 1) := by decide +kernel
theorem dX8_isGuest_5 : decode cX8_isGuest 5 = .ok (.aload_n 0, 1) := by decide +kernel
theorem dX8_isGuest_6 : decode cX8_isGuest 6 = .ok (.getfield 19, 3) := by decide +kernel
theorem dX8_isGuest_9 : decode cX8_isGuest 9 = .ok (.getfield 210, 3) := by decide +kernel
theorem dX8_isGuest_12 : decode cX8_isGuest 12 = .ok (.if_icmp .ge 7, 3) := by decide +kernel
theorem dX8_isGuest_19 : decode cX8_isGuest 19 = .ok (.iconst 0, 1) := by decide +kernel
theorem dX8_isGuest_20 : decode cX8_isGuest 20 = .ok (.ireturn, 1) := by decide +kernel
set_option maxHeartbeats 4000000 in
set_option maxRecDepth 100000 in
theorem mX8_isGuest (l : Launch) (D : va_G) (k : Nat → ClassId) (sz : Nat) (x : Nat) (q : Int32) (x_tape : Value) (td : Nat) (x_draft : Value) (x_lines : Value) (x_draftLines : Value) (x_now : Value) (x_trial : Value) (x_sights : Value) (x_past : Value) (x_marks : Value) (x_drawn : Int64) (td_names : Value) (td_kinds : Value) (td_yards : Value) (td_paces : Value) (td_skills : Value) (td_snow : Value) (td_law : Value) (td_bend : Int32) (td_hour : Int32) (td_bendTold : Int32) (td_hourTold : Int32) : Met l yX8_isGuest wsX8_isGuest ({ frames := 0, cells := 0, slots := 0, locals := 0 }) (va_Pc [.ref x, .int q] (kz_Pre D k [(x, kO 8 [x_tape, .ref td, x_draft, x_lines, x_draftLines, x_now, x_trial, x_sights, x_past, x_marks, .long x_drawn]), (td, kO 7 [td_names, td_kinds, td_yards, td_paces, td_skills, td_snow, td_law, .int 0, .int 0, .int td_bend, .int td_hour, .int td_bendTold, .int td_hourTold])] sz)) (va_Qi (fun (rr : Int32) (uu : Unit) => rr = 0) (fun uu zt => kz_B D (va_A [(x, kO 8 [x_tape, .ref td, x_draft, x_lines, x_draftLines, x_now, x_trial, x_sights, x_past, x_marks, .long x_drawn]), (td, kO 7 [td_names, td_kinds, td_yards, td_paces, td_skills, td_snow, td_law, .int 0, .int 0, .int td_bend, .int td_hour, .int td_bendTold, .int td_hourTold])] sz) [(x, kO 8 [x_tape, .ref td, x_draft, x_lines, x_draftLines, x_now, x_trial, x_sights, x_past, x_marks, .long x_drawn]), (td, kO 7 [td_names, td_kinds, td_yards, td_paces, td_skills, td_snow, td_law, .int 0, .int 0, .int td_bend, .int td_hour, .int td_bendTold, .int td_hourTold])] zt) (va_A [(x, kO 8 [x_tape, .ref td, x_draft, x_lines, x_draftLines, x_now, x_trial, x_sights, x_past, x_marks, .long x_drawn]), (td, kO 7 [td_names, td_kinds, td_yards, td_paces, td_skills, td_snow, td_law, .int 0, .int 0, .int td_bend, .int td_hour, .int td_bendTold, .int td_hourTold])] sz)) 0 0 (va_A [(x, kO 8 [x_tape, .ref td, x_draft, x_lines, x_draftLines, x_now, x_trial, x_sights, x_past, x_marks, .long x_drawn]), (td, kO 7 [td_names, td_kinds, td_yards, td_paces, td_skills, td_snow, td_law, .int 0, .int 0, .int td_bend, .int td_hour, .int td_bendTold, .int td_hourTold])] sz) := by
  refine Met.ofW (cc := cX8_isGuest) (maxL := 2) (ret := (some .boolean)) (by decide) rfl ?_
  intro p e s m args below meth c s₁ B hml hv
  obtain ⟨hav, hsz, hP, hK, hD0, hE⟩ := hv
  have hx := B.exec
  have hb := B.bytes
  have hr := B.returns
  have hts := atoms_spec (ws := wsX8_isGuest) B.pre
  have hown : s.vm.findClass RX8 = some m.cls := findClass_of_methodNamed B.named
  have hlocks := B.notSynchronized
  have hi7 : ∀ w ∈ u_ws RX7 TX7 13, w ∈ wsX8_isGuest := by decide +kernel
  have hi8 : ∀ w ∈ u_ws RX8 TX8 11, w ∈ wsX8_isGuest := by decide +kernel
  have lf19 := hts (.fieldLink RX8 19 "LastCook" "told" "LLastCook$Told;") (by decide +kernel)
  have lf210 := hts (.fieldLink RX8 210 "LastCook$Told" "guests" "I") (by decide +kernel)
  subst hsz
  have hD := hD0.self (sz := s.heap.size)
  generalize hAe : va_A [(x, kO 8 [x_tape, .ref td, x_draft, x_lines, x_draftLines, x_now, x_trial, x_sights, x_past, x_marks, .long x_drawn]), (td, kO 7 [td_names, td_kinds, td_yards, td_paces, td_skills, td_snow, td_law, .int 0, .int 0, .int td_bend, .int td_hour, .int td_bendTold, .int td_hourTold])] s.heap.size = A at hD ⊢
  have hA : ∀ q : Nat, s.heap.size ≤ q → A q := fun q h => by rw [← hAe]; exact Or.inr h
  have hS : va_S A s.heap s.heap [] := va_S.rf
  have hl := lv_entry ([.ref x, .int q]) (n := 2) (Nat.le_of_ble_eq_true rfl)
  rw [show entryFrame m args 2 = entryFrame m ([.ref x, .int q] : List Value).toArray 2 by rw [hav], lg_entry_eq]
  generalize (lg_sl ([.ref x, .int q]) ++ List.replicate (2 - (lg_sl ([.ref x, .int q])).length) Slot.unset).toArray = ls at hl ⊢
  have hl : lv_has ls 2 [(0, .ref x), (1, .int q)] := hl
  obtain ⟨R, hR⟩ : ∃ R, R = (headSpec wsX8_isGuest ({ frames := 0, cells := 0, slots := 0, locals := 0 } : Room)).room := ⟨_, rfl⟩
  rw [← hR]
  generalize hQ : MQ below _ args s 0 0 A = Q
  replace hQ := hQ.symm
  obtain ⟨H, hH⟩ : ∃ H, H = s.heap := ⟨_, rfl⟩
  rw [← hH] at hP ⊢
  have hS : va_S A s.heap H [] := by rw [hH]; exact hS
  refine lv_iload_n hx hb dX8_isGuest_0 rfl (lv_at hl 1 rfl) ?_
  refine lv_if_lt (tgt := 19) hx hb dX8_isGuest_1 (by decide) (fun c_1 => ?_) (fun c_1 => ?_)
  · skip
    refine lv_iconst (v := 0) hx hb dX8_isGuest_19 (by decide) ?_
    rw [hQ]
    have hP9 := hP.sub (ws' := [(x, kO 8 [x_tape, .ref td, x_draft, x_lines, x_draftLines, x_now, x_trial, x_sights, x_past, x_marks, .long x_drawn]), (td, kO 7 [td_names, td_kinds, td_yards, td_paces, td_skills, td_snow, td_law, .int 0, .int 0, .int td_bend, .int td_hour, .int td_bendTold, .int td_hourTold])]) [0, 1] rfl
    have hD9 := hD.sub (ws' := [(x, kO 8 [x_tape, .ref td, x_draft, x_lines, x_draftLines, x_now, x_trial, x_sights, x_past, x_marks, .long x_drawn]), (td, kO 7 [td_names, td_kinds, td_yards, td_paces, td_skills, td_snow, td_law, .int 0, .int 0, .int td_bend, .int td_hour, .int td_bendTold, .int td_hourTold])]) [0, 1] (by decide) rfl
    exact W.zret (v := 0) hx hb hr rfl (fun zt ht hW => ⟨⟨0, (), rfl, rfl, by rw [ht]; exact hP9, hD9⟩, hS.F ht⟩) hS.2.2 dX8_isGuest_20
  · skip
    refine lv_iload_n hx hb dX8_isGuest_4 rfl (lv_at hl 1 rfl) ?_
    refine lv_aload_n hx hb dX8_isGuest_5 rfl (lv_at hl 0 rfl) ?_
    refine va_get (D := D) (ci := 8) (v := .ref td) (C := RX8) (T := TX8) (N := 11) hx hb hts hi8 hown hK hP 0 rfl rfl 1 (by decide) lf19 (fun _ h9 => h9) rfl dX8_isGuest_6 ?_
    refine va_get (D := D) (ci := 7) (v := .int 0) (C := RX7) (T := TX7) (N := 13) hx hb hts hi7 hown hK hP 1 rfl rfl 7 (by decide) lf210 (fun _ h9 => h9) rfl dX8_isGuest_9 ?_
    refine lv_icmp_ge (tgt := 19) hx hb dX8_isGuest_12 (by decide) (fun c_2 => ?_) (fun c_2 => absurd (Int32.not_lt.mp c_1) c_2)
    refine lv_iconst (v := 0) hx hb dX8_isGuest_19 (by decide) ?_
    rw [hQ]
    have hP9 := hP.sub (ws' := [(x, kO 8 [x_tape, .ref td, x_draft, x_lines, x_draftLines, x_now, x_trial, x_sights, x_past, x_marks, .long x_drawn]), (td, kO 7 [td_names, td_kinds, td_yards, td_paces, td_skills, td_snow, td_law, .int 0, .int 0, .int td_bend, .int td_hour, .int td_bendTold, .int td_hourTold])]) [0, 1] rfl
    have hD9 := hD.sub (ws' := [(x, kO 8 [x_tape, .ref td, x_draft, x_lines, x_draftLines, x_now, x_trial, x_sights, x_past, x_marks, .long x_drawn]), (td, kO 7 [td_names, td_kinds, td_yards, td_paces, td_skills, td_snow, td_law, .int 0, .int 0, .int td_bend, .int td_hour, .int td_bendTold, .int td_hourTold])]) [0, 1] (by decide) rfl
    exact W.zret (v := 0) hx hb hr rfl (fun zt ht hW => ⟨⟨0, (), rfl, rfl, by rw [ht]; exact hP9, hD9⟩, hS.F ht⟩) hS.2.2 dX8_isGuest_20
theorem dX8_isGuestOnRoad_0 : decode cX8_isGuestOnRoad 0 = .ok (.aload_n 0, 1) := by decide +kernel
theorem dX8_isGuestOnRoad_1 : decode cX8_isGuestOnRoad 1 = .ok (.iload_n 1, 1) := by decide +kernel
theorem dX8_isGuestOnRoad_2 : decode cX8_isGuestOnRoad 2 = .ok (.invokevirtual 105, 3) := by decide +kernel
theorem dX8_isGuestOnRoad_5 : decode cX8_isGuestOnRoad 5 = .ok (.ifCond .eq 18, 3) := by decide +kernel
theorem dX8_isGuestOnRoad_23 : decode cX8_isGuestOnRoad 23 = .ok (.iconst 0, 1) := by decide +kernel
theorem dX8_isGuestOnRoad_24 : decode cX8_isGuestOnRoad 24 = .ok (.ireturn, 1) := by decide +kernel
set_option maxRecDepth 20000 in
theorem ggX8_isGuestOnRoad_X8_isGuest : GoodIn wsX8_isGuestOnRoad wsX8_isGuest := goodIn_r _ [6, 7, 8, 15, 16, 17, 18, 19, 20, 21, 22, 23, 24, 25, 26, 27, 28, 29, 30, 31, 32, 33, 34, 35, 36, 37, 38] rfl (by decide +kernel)
set_option maxRecDepth 20000 in
theorem gX8_isGuestOnRoad_X8_isGuest : GoodIn wsX8_isGuestOnRoad (wsV RX8 105 RX8 yX8_isGuest wsX8_isGuest) := goodIn_app (goodIn_of _ (by decide +kernel)) ggX8_isGuestOnRoad_X8_isGuest
set_option maxHeartbeats 4000000 in
set_option maxRecDepth 100000 in
theorem mX8_isGuestOnRoad (l : Launch) (D : va_G) (k : Nat → ClassId) (sz : Nat) (x : Nat) (q : Int32) (x_tape : Value) (td : Nat) (x_draft : Value) (x_lines : Value) (x_draftLines : Value) (x_now : Value) (x_trial : Value) (x_sights : Value) (x_past : Value) (x_marks : Value) (x_drawn : Int64) (td_names : Value) (td_kinds : Value) (td_yards : Value) (td_paces : Value) (td_skills : Value) (td_snow : Value) (td_law : Value) (td_bend : Int32) (td_hour : Int32) (td_bendTold : Int32) (td_hourTold : Int32) : Met l yX8_isGuestOnRoad wsX8_isGuestOnRoad ({ frames := 1, cells := 0, slots := 0, locals := 70 }) (va_Pc [.ref x, .int q] (kz_Pre D k [(x, kO 8 [x_tape, .ref td, x_draft, x_lines, x_draftLines, x_now, x_trial, x_sights, x_past, x_marks, .long x_drawn]), (td, kO 7 [td_names, td_kinds, td_yards, td_paces, td_skills, td_snow, td_law, .int 0, .int 0, .int td_bend, .int td_hour, .int td_bendTold, .int td_hourTold])] sz)) (va_Qi (fun (rr : Int32) (uu : Unit) => rr = 0) (fun uu zt => kz_B D (va_A [(x, kO 8 [x_tape, .ref td, x_draft, x_lines, x_draftLines, x_now, x_trial, x_sights, x_past, x_marks, .long x_drawn]), (td, kO 7 [td_names, td_kinds, td_yards, td_paces, td_skills, td_snow, td_law, .int 0, .int 0, .int td_bend, .int td_hour, .int td_bendTold, .int td_hourTold])] sz) [(x, kO 8 [x_tape, .ref td, x_draft, x_lines, x_draftLines, x_now, x_trial, x_sights, x_past, x_marks, .long x_drawn]), (td, kO 7 [td_names, td_kinds, td_yards, td_paces, td_skills, td_snow, td_law, .int 0, .int 0, .int td_bend, .int td_hour, .int td_bendTold, .int td_hourTold])] zt) (va_A [(x, kO 8 [x_tape, .ref td, x_draft, x_lines, x_draftLines, x_now, x_trial, x_sights, x_past, x_marks, .long x_drawn]), (td, kO 7 [td_names, td_kinds, td_yards, td_paces, td_skills, td_snow, td_law, .int 0, .int 0, .int td_bend, .int td_hour, .int td_bendTold, .int td_hourTold])] sz)) 0 0 (va_A [(x, kO 8 [x_tape, .ref td, x_draft, x_lines, x_draftLines, x_now, x_trial, x_sights, x_past, x_marks, .long x_drawn]), (td, kO 7 [td_names, td_kinds, td_yards, td_paces, td_skills, td_snow, td_law, .int 0, .int 0, .int td_bend, .int td_hour, .int td_bendTold, .int td_hourTold])] sz) := by
  refine Met.ofW (cc := cX8_isGuestOnRoad) (maxL := 2) (ret := (some .boolean)) (by decide) rfl ?_
  intro p e s m args below meth c s₁ B hml hv
  obtain ⟨hav, hsz, hP, hK, hD0, hE⟩ := hv
  have hx := B.exec
  have hb := B.bytes
  have hr := B.returns
  have hts := atoms_spec (ws := wsX8_isGuestOnRoad) B.pre
  have hown : s.vm.findClass RX8 = some m.cls := findClass_of_methodNamed B.named
  have hlocks := B.notSynchronized
  subst hsz
  have hD := hD0.self (sz := s.heap.size)
  generalize hAe : va_A [(x, kO 8 [x_tape, .ref td, x_draft, x_lines, x_draftLines, x_now, x_trial, x_sights, x_past, x_marks, .long x_drawn]), (td, kO 7 [td_names, td_kinds, td_yards, td_paces, td_skills, td_snow, td_law, .int 0, .int 0, .int td_bend, .int td_hour, .int td_bendTold, .int td_hourTold])] s.heap.size = A at hD ⊢
  have hA : ∀ q : Nat, s.heap.size ≤ q → A q := fun q h => by rw [← hAe]; exact Or.inr h
  have hS : va_S A s.heap s.heap [] := va_S.rf
  have hl := lv_entry ([.ref x, .int q]) (n := 2) (Nat.le_of_ble_eq_true rfl)
  rw [show entryFrame m args 2 = entryFrame m ([.ref x, .int q] : List Value).toArray 2 by rw [hav], lg_entry_eq]
  generalize (lg_sl ([.ref x, .int q]) ++ List.replicate (2 - (lg_sl ([.ref x, .int q])).length) Slot.unset).toArray = ls at hl ⊢
  have hl : lv_has ls 2 [(0, .ref x), (1, .int q)] := hl
  obtain ⟨R, hR⟩ : ∃ R, R = (headSpec wsX8_isGuestOnRoad ({ frames := 1, cells := 0, slots := 0, locals := 70 } : Room)).room := ⟨_, rfl⟩
  rw [← hR]
  generalize hQ : MQ below _ args s 0 0 A = Q
  replace hQ := hQ.symm
  obtain ⟨H, hH⟩ : ∃ H, H = s.heap := ⟨_, rfl⟩
  rw [← hH] at hP ⊢
  have hS : va_S A s.heap H [] := by rw [hH]; exact hS
  refine lv_aload_n hx hb dX8_isGuestOnRoad_0 rfl (lv_at hl 0 rfl) ?_
  refine lv_iload_n hx hb dX8_isGuestOnRoad_1 rfl (lv_at hl 1 rfl) ?_
  refine kz_Vi (As := [.int q]) (rest := []) (wc := [(x, kO 8 [x_tape, .ref td, x_draft, x_lines, x_draftLines, x_now, x_trial, x_sights, x_past, x_marks, .long x_drawn]), (td, kO 7 [td_names, td_kinds, td_yards, td_paces, td_skills, td_snow, td_law, .int 0, .int 0, .int td_bend, .int td_hour, .int td_bendTold, .int td_hourTold])]) (wr := []) ⟨hx, hb, hml, hown, hts⟩ hK hE hP hD hS hA (mX8_isGuest l D k H.size x q x_tape td x_draft x_lines x_draftLines x_now x_trial x_sights x_past x_marks x_drawn td_names td_kinds td_yards td_paces td_skills td_snow td_law td_bend td_hour td_bendTold td_hourTold) (cwV 1 hts gX8_isGuestOnRoad_X8_isGuest rfl rfl rfl (by decide +kernel) (by rw [hR]; exact ⟨Nat.le_of_ble_eq_true rfl, Nat.le_of_ble_eq_true rfl⟩)) [0, 1] [] rfl rfl (by decide) (by decide) (by decide) 0 rfl rfl rfl hl.1 rfl (Nat.le_of_ble_eq_true rfl) dX8_isGuestOnRoad_2 (by rw [hR]; exact ⟨Nat.le_of_ble_eq_true rfl, Nat.le_of_ble_eq_true rfl⟩) (fun r1 u1 H locs hw1 hP hD hS => ?_)
  try dsimp only at hw1
  obtain rfl : r1 = 0 := hw1
  have hP : va_P D vwCl [(x, kO 8 [x_tape, .ref td, x_draft, x_lines, x_draftLines, x_now, x_trial, x_sights, x_past, x_marks, .long x_drawn]), (td, kO 7 [td_names, td_kinds, td_yards, td_paces, td_skills, td_snow, td_law, .int 0, .int 0, .int td_bend, .int td_hour, .int td_bendTold, .int td_hourTold])] H := hP
  have hD : va_D A [(x, kO 8 [x_tape, .ref td, x_draft, x_lines, x_draftLines, x_now, x_trial, x_sights, x_past, x_marks, .long x_drawn]), (td, kO 7 [td_names, td_kinds, td_yards, td_paces, td_skills, td_snow, td_law, .int 0, .int 0, .int td_bend, .int td_hour, .int td_bendTold, .int td_hourTold])] := hD
  refine lv_if_eq (tgt := 23) hx hb dX8_isGuestOnRoad_5 (by decide) (fun c_2 => ?_) (fun c_2 => absurd (by decide) c_2)
  refine lv_iconst (v := 0) hx hb dX8_isGuestOnRoad_23 (by decide) ?_
  rw [hQ]
  have hP9 := hP.sub (ws' := [(x, kO 8 [x_tape, .ref td, x_draft, x_lines, x_draftLines, x_now, x_trial, x_sights, x_past, x_marks, .long x_drawn]), (td, kO 7 [td_names, td_kinds, td_yards, td_paces, td_skills, td_snow, td_law, .int 0, .int 0, .int td_bend, .int td_hour, .int td_bendTold, .int td_hourTold])]) [0, 1] rfl
  have hD9 := hD.sub (ws' := [(x, kO 8 [x_tape, .ref td, x_draft, x_lines, x_draftLines, x_now, x_trial, x_sights, x_past, x_marks, .long x_drawn]), (td, kO 7 [td_names, td_kinds, td_yards, td_paces, td_skills, td_snow, td_law, .int 0, .int 0, .int td_bend, .int td_hour, .int td_bendTold, .int td_hourTold])]) [0, 1] (by decide) rfl
  exact W.zret (v := 0) hx hb hr rfl (fun zt ht hW => ⟨⟨0, (), rfl, rfl, by rw [ht]; exact hP9, hD9⟩, hS.F ht⟩) hS.2.2 dX8_isGuestOnRoad_24
theorem dX8_guest_0 : decode cX8_guest 0 = .ok (.aload_n 0, 1) := by decide +kernel
theorem dX8_guest_1 : decode cX8_guest 1 = .ok (.iload_n 1, 1) := by decide +kernel
theorem dX8_guest_2 : decode cX8_guest 2 = .ok (.invokevirtual 105, 3) := by decide +kernel
theorem dX8_guest_5 : decode cX8_guest 5 = .ok (.ifCond .ne 6, 3) := by decide +kernel
theorem dX8_guest_8 : decode cX8_guest 8 = .ok (.bipush (-2), 2) := by decide +kernel
theorem dX8_guest_10 : decode cX8_guest 10 = .ok (.ireturn, 1) := by decide +kernel
set_option maxRecDepth 20000 in
theorem ggX8_guest_X8_isGuest : GoodIn wsX8_guest wsX8_isGuest := goodIn_r _ [15, 1, 16, 17, 18, 19, 20, 21, 22, 23, 24, 25, 26, 27, 28, 29, 30, 31, 32, 33, 34, 35, 36, 37, 38, 39, 40] rfl (by decide +kernel)
set_option maxRecDepth 20000 in
theorem gX8_guest_X8_isGuest : GoodIn wsX8_guest (wsV RX8 105 RX8 yX8_isGuest wsX8_isGuest) := goodIn_app (goodIn_of _ (by decide +kernel)) ggX8_guest_X8_isGuest
set_option maxHeartbeats 4000000 in
set_option maxRecDepth 100000 in
theorem mX8_guest (l : Launch) (D : va_G) (k : Nat → ClassId) (sz : Nat) (x : Nat) (q1 : Int32) (q2 : Int32) (x_tape : Value) (td : Nat) (x_draft : Value) (x_lines : Value) (x_draftLines : Value) (x_now : Value) (x_trial : Value) (x_sights : Value) (x_past : Value) (x_marks : Value) (x_drawn : Int64) (td_names : Value) (td_kinds : Value) (td_yards : Value) (td_paces : Value) (td_skills : Value) (td_snow : Value) (td_law : Value) (td_bend : Int32) (td_hour : Int32) (td_bendTold : Int32) (td_hourTold : Int32) : Met l yX8_guest wsX8_guest ({ frames := 1, cells := 0, slots := 0, locals := 70 }) (va_Pc [.ref x, .int q1, .int q2] (kz_Pre D k [(x, kO 8 [x_tape, .ref td, x_draft, x_lines, x_draftLines, x_now, x_trial, x_sights, x_past, x_marks, .long x_drawn]), (td, kO 7 [td_names, td_kinds, td_yards, td_paces, td_skills, td_snow, td_law, .int 0, .int 0, .int td_bend, .int td_hour, .int td_bendTold, .int td_hourTold])] sz)) (va_Qi (fun (rr : Int32) (uu : Unit) => rr = (-2)) (fun uu zt => kz_B D (va_A [(x, kO 8 [x_tape, .ref td, x_draft, x_lines, x_draftLines, x_now, x_trial, x_sights, x_past, x_marks, .long x_drawn]), (td, kO 7 [td_names, td_kinds, td_yards, td_paces, td_skills, td_snow, td_law, .int 0, .int 0, .int td_bend, .int td_hour, .int td_bendTold, .int td_hourTold])] sz) [(x, kO 8 [x_tape, .ref td, x_draft, x_lines, x_draftLines, x_now, x_trial, x_sights, x_past, x_marks, .long x_drawn]), (td, kO 7 [td_names, td_kinds, td_yards, td_paces, td_skills, td_snow, td_law, .int 0, .int 0, .int td_bend, .int td_hour, .int td_bendTold, .int td_hourTold])] zt) (va_A [(x, kO 8 [x_tape, .ref td, x_draft, x_lines, x_draftLines, x_now, x_trial, x_sights, x_past, x_marks, .long x_drawn]), (td, kO 7 [td_names, td_kinds, td_yards, td_paces, td_skills, td_snow, td_law, .int 0, .int 0, .int td_bend, .int td_hour, .int td_bendTold, .int td_hourTold])] sz)) 0 0 (va_A [(x, kO 8 [x_tape, .ref td, x_draft, x_lines, x_draftLines, x_now, x_trial, x_sights, x_past, x_marks, .long x_drawn]), (td, kO 7 [td_names, td_kinds, td_yards, td_paces, td_skills, td_snow, td_law, .int 0, .int 0, .int td_bend, .int td_hour, .int td_bendTold, .int td_hourTold])] sz) := by
  refine Met.ofW (cc := cX8_guest) (maxL := 3) (ret := (some .int)) (by decide) rfl ?_
  intro p e s m args below meth c s₁ B hml hv
  obtain ⟨hav, hsz, hP, hK, hD0, hE⟩ := hv
  have hx := B.exec
  have hb := B.bytes
  have hr := B.returns
  have hts := atoms_spec (ws := wsX8_guest) B.pre
  have hown : s.vm.findClass RX8 = some m.cls := findClass_of_methodNamed B.named
  have hlocks := B.notSynchronized
  subst hsz
  have hD := hD0.self (sz := s.heap.size)
  generalize hAe : va_A [(x, kO 8 [x_tape, .ref td, x_draft, x_lines, x_draftLines, x_now, x_trial, x_sights, x_past, x_marks, .long x_drawn]), (td, kO 7 [td_names, td_kinds, td_yards, td_paces, td_skills, td_snow, td_law, .int 0, .int 0, .int td_bend, .int td_hour, .int td_bendTold, .int td_hourTold])] s.heap.size = A at hD ⊢
  have hA : ∀ q : Nat, s.heap.size ≤ q → A q := fun q h => by rw [← hAe]; exact Or.inr h
  have hS : va_S A s.heap s.heap [] := va_S.rf
  have hl := lv_entry ([.ref x, .int q1, .int q2]) (n := 3) (Nat.le_of_ble_eq_true rfl)
  rw [show entryFrame m args 3 = entryFrame m ([.ref x, .int q1, .int q2] : List Value).toArray 3 by rw [hav], lg_entry_eq]
  generalize (lg_sl ([.ref x, .int q1, .int q2]) ++ List.replicate (3 - (lg_sl ([.ref x, .int q1, .int q2])).length) Slot.unset).toArray = ls at hl ⊢
  have hl : lv_has ls 3 [(0, .ref x), (1, .int q1), (2, .int q2)] := hl
  obtain ⟨R, hR⟩ : ∃ R, R = (headSpec wsX8_guest ({ frames := 1, cells := 0, slots := 0, locals := 70 } : Room)).room := ⟨_, rfl⟩
  rw [← hR]
  generalize hQ : MQ below _ args s 0 0 A = Q
  replace hQ := hQ.symm
  obtain ⟨H, hH⟩ : ∃ H, H = s.heap := ⟨_, rfl⟩
  rw [← hH] at hP ⊢
  have hS : va_S A s.heap H [] := by rw [hH]; exact hS
  refine lv_aload_n hx hb dX8_guest_0 rfl (lv_at hl 0 rfl) ?_
  refine lv_iload_n hx hb dX8_guest_1 rfl (lv_at hl 1 rfl) ?_
  refine kz_Vi (As := [.int q1]) (rest := []) (wc := [(x, kO 8 [x_tape, .ref td, x_draft, x_lines, x_draftLines, x_now, x_trial, x_sights, x_past, x_marks, .long x_drawn]), (td, kO 7 [td_names, td_kinds, td_yards, td_paces, td_skills, td_snow, td_law, .int 0, .int 0, .int td_bend, .int td_hour, .int td_bendTold, .int td_hourTold])]) (wr := []) ⟨hx, hb, hml, hown, hts⟩ hK hE hP hD hS hA (mX8_isGuest l D k H.size x q1 x_tape td x_draft x_lines x_draftLines x_now x_trial x_sights x_past x_marks x_drawn td_names td_kinds td_yards td_paces td_skills td_snow td_law td_bend td_hour td_bendTold td_hourTold) (cwV 1 hts gX8_guest_X8_isGuest rfl rfl rfl (by decide +kernel) (by rw [hR]; exact ⟨Nat.le_of_ble_eq_true rfl, Nat.le_of_ble_eq_true rfl⟩)) [0, 1] [] rfl rfl (by decide) (by decide) (by decide) 0 rfl rfl rfl hl.1 rfl (Nat.le_of_ble_eq_true rfl) dX8_guest_2 (by rw [hR]; exact ⟨Nat.le_of_ble_eq_true rfl, Nat.le_of_ble_eq_true rfl⟩) (fun r1 u1 H locs hw1 hP hD hS => ?_)
  try dsimp only at hw1
  obtain rfl : r1 = 0 := hw1
  have hP : va_P D vwCl [(x, kO 8 [x_tape, .ref td, x_draft, x_lines, x_draftLines, x_now, x_trial, x_sights, x_past, x_marks, .long x_drawn]), (td, kO 7 [td_names, td_kinds, td_yards, td_paces, td_skills, td_snow, td_law, .int 0, .int 0, .int td_bend, .int td_hour, .int td_bendTold, .int td_hourTold])] H := hP
  have hD : va_D A [(x, kO 8 [x_tape, .ref td, x_draft, x_lines, x_draftLines, x_now, x_trial, x_sights, x_past, x_marks, .long x_drawn]), (td, kO 7 [td_names, td_kinds, td_yards, td_paces, td_skills, td_snow, td_law, .int 0, .int 0, .int td_bend, .int td_hour, .int td_bendTold, .int td_hourTold])] := hD
  refine lv_if_ne (tgt := 11) hx hb dX8_guest_5 (by decide) (fun c_2 => absurd (by decide) c_2) (fun c_2 => ?_)
  refine lv_bipush (v := (-2)) hx hb dX8_guest_8 (by decide) ?_
  rw [hQ]
  have hP9 := hP.sub (ws' := [(x, kO 8 [x_tape, .ref td, x_draft, x_lines, x_draftLines, x_now, x_trial, x_sights, x_past, x_marks, .long x_drawn]), (td, kO 7 [td_names, td_kinds, td_yards, td_paces, td_skills, td_snow, td_law, .int 0, .int 0, .int td_bend, .int td_hour, .int td_bendTold, .int td_hourTold])]) [0, 1] rfl
  have hD9 := hD.sub (ws' := [(x, kO 8 [x_tape, .ref td, x_draft, x_lines, x_draftLines, x_now, x_trial, x_sights, x_past, x_marks, .long x_drawn]), (td, kO 7 [td_names, td_kinds, td_yards, td_paces, td_skills, td_snow, td_law, .int 0, .int 0, .int td_bend, .int td_hour, .int td_bendTold, .int td_hourTold])]) [0, 1] (by decide) rfl
  exact W.iret (v := (-2)) hx hb hr (fun zt ht hW => ⟨⟨(-2), (), rfl, rfl, by rw [ht]; exact hP9, hD9⟩, hS.F ht⟩) hS.2.2 dX8_guest_10
theorem dX8_wheel_0 : decode cX8_wheel 0 = .ok (.aload_n 0, 1) := by decide +kernel
theorem dX8_wheel_1 : decode cX8_wheel 1 = .ok (.iload_n 1, 1) := by decide +kernel
theorem dX8_wheel_2 : decode cX8_wheel 2 = .ok (.invokevirtual 134, 3) := by decide +kernel
theorem dX8_wheel_5 : decode cX8_wheel 5 = .ok (.ifCond .eq 13, 3) := by decide +kernel
theorem dX8_wheel_18 : decode cX8_wheel 18 = .ok (.iconst (-1), 1) := by decide +kernel
theorem dX8_wheel_19 : decode cX8_wheel 19 = .ok (.ireturn, 1) := by decide +kernel
set_option maxRecDepth 20000 in
theorem ggX8_wheel_X8_isGuestOnRoad : GoodIn wsX8_wheel wsX8_isGuestOnRoad := goodIn_r _ [8, 2, 9, 10, 11, 7, 12, 13, 14, 15, 16, 17, 18, 19, 20, 60, 61, 62, 63, 64, 65, 66, 67, 68, 69, 70, 84, 85, 86, 87, 88, 89, 90, 91, 92, 93, 94, 95, 96, 71, 72, 73, 74, 75, 76, 77, 78, 79, 80, 81, 82, 83] rfl (by decide +kernel)
set_option maxRecDepth 20000 in
theorem gX8_wheel_X8_isGuestOnRoad : GoodIn wsX8_wheel (wsV RX8 134 RX8 yX8_isGuestOnRoad wsX8_isGuestOnRoad) := goodIn_app (goodIn_of _ (by decide +kernel)) ggX8_wheel_X8_isGuestOnRoad
set_option maxHeartbeats 4000000 in
set_option maxRecDepth 100000 in
theorem mX8_wheel (l : Launch) (D : va_G) (k : Nat → ClassId) (sz : Nat) (x : Nat) (q1 : Int32) (q2 : Int32) (x_tape : Value) (td : Nat) (x_draft : Value) (x_lines : Value) (x_draftLines : Value) (x_now : Value) (x_trial : Value) (x_sights : Value) (x_past : Value) (x_marks : Value) (x_drawn : Int64) (td_names : Value) (td_kinds : Value) (td_yards : Value) (td_paces : Value) (td_skills : Value) (td_snow : Value) (td_law : Value) (td_bend : Int32) (td_hour : Int32) (td_bendTold : Int32) (td_hourTold : Int32) : Met l yX8_wheel wsX8_wheel ({ frames := 2, cells := 0, slots := 0, locals := 140 }) (va_Pc [.ref x, .int q1, .int q2] (kz_Pre D k [(x, kO 8 [x_tape, .ref td, x_draft, x_lines, x_draftLines, x_now, x_trial, x_sights, x_past, x_marks, .long x_drawn]), (td, kO 7 [td_names, td_kinds, td_yards, td_paces, td_skills, td_snow, td_law, .int 0, .int 0, .int td_bend, .int td_hour, .int td_bendTold, .int td_hourTold])] sz)) (va_Qi (fun (rr : Int32) (uu : Unit) => rr = (-1)) (fun uu zt => kz_B D (va_A [(x, kO 8 [x_tape, .ref td, x_draft, x_lines, x_draftLines, x_now, x_trial, x_sights, x_past, x_marks, .long x_drawn]), (td, kO 7 [td_names, td_kinds, td_yards, td_paces, td_skills, td_snow, td_law, .int 0, .int 0, .int td_bend, .int td_hour, .int td_bendTold, .int td_hourTold])] sz) [(x, kO 8 [x_tape, .ref td, x_draft, x_lines, x_draftLines, x_now, x_trial, x_sights, x_past, x_marks, .long x_drawn]), (td, kO 7 [td_names, td_kinds, td_yards, td_paces, td_skills, td_snow, td_law, .int 0, .int 0, .int td_bend, .int td_hour, .int td_bendTold, .int td_hourTold])] zt) (va_A [(x, kO 8 [x_tape, .ref td, x_draft, x_lines, x_draftLines, x_now, x_trial, x_sights, x_past, x_marks, .long x_drawn]), (td, kO 7 [td_names, td_kinds, td_yards, td_paces, td_skills, td_snow, td_law, .int 0, .int 0, .int td_bend, .int td_hour, .int td_bendTold, .int td_hourTold])] sz)) 0 0 (va_A [(x, kO 8 [x_tape, .ref td, x_draft, x_lines, x_draftLines, x_now, x_trial, x_sights, x_past, x_marks, .long x_drawn]), (td, kO 7 [td_names, td_kinds, td_yards, td_paces, td_skills, td_snow, td_law, .int 0, .int 0, .int td_bend, .int td_hour, .int td_bendTold, .int td_hourTold])] sz) := by
  refine Met.ofW (cc := cX8_wheel) (maxL := 3) (ret := (some .int)) (by decide) rfl ?_
  intro p e s m args below meth c s₁ B hml hv
  obtain ⟨hav, hsz, hP, hK, hD0, hE⟩ := hv
  have hx := B.exec
  have hb := B.bytes
  have hr := B.returns
  have hts := atoms_spec (ws := wsX8_wheel) B.pre
  have hown : s.vm.findClass RX8 = some m.cls := findClass_of_methodNamed B.named
  have hlocks := B.notSynchronized
  subst hsz
  have hD := hD0.self (sz := s.heap.size)
  generalize hAe : va_A [(x, kO 8 [x_tape, .ref td, x_draft, x_lines, x_draftLines, x_now, x_trial, x_sights, x_past, x_marks, .long x_drawn]), (td, kO 7 [td_names, td_kinds, td_yards, td_paces, td_skills, td_snow, td_law, .int 0, .int 0, .int td_bend, .int td_hour, .int td_bendTold, .int td_hourTold])] s.heap.size = A at hD ⊢
  have hA : ∀ q : Nat, s.heap.size ≤ q → A q := fun q h => by rw [← hAe]; exact Or.inr h
  have hS : va_S A s.heap s.heap [] := va_S.rf
  have hl := lv_entry ([.ref x, .int q1, .int q2]) (n := 3) (Nat.le_of_ble_eq_true rfl)
  rw [show entryFrame m args 3 = entryFrame m ([.ref x, .int q1, .int q2] : List Value).toArray 3 by rw [hav], lg_entry_eq]
  generalize (lg_sl ([.ref x, .int q1, .int q2]) ++ List.replicate (3 - (lg_sl ([.ref x, .int q1, .int q2])).length) Slot.unset).toArray = ls at hl ⊢
  have hl : lv_has ls 3 [(0, .ref x), (1, .int q1), (2, .int q2)] := hl
  obtain ⟨R, hR⟩ : ∃ R, R = (headSpec wsX8_wheel ({ frames := 2, cells := 0, slots := 0, locals := 140 } : Room)).room := ⟨_, rfl⟩
  rw [← hR]
  generalize hQ : MQ below _ args s 0 0 A = Q
  replace hQ := hQ.symm
  obtain ⟨H, hH⟩ : ∃ H, H = s.heap := ⟨_, rfl⟩
  rw [← hH] at hP ⊢
  have hS : va_S A s.heap H [] := by rw [hH]; exact hS
  refine lv_aload_n hx hb dX8_wheel_0 rfl (lv_at hl 0 rfl) ?_
  refine lv_iload_n hx hb dX8_wheel_1 rfl (lv_at hl 1 rfl) ?_
  refine kz_Vi (As := [.int q1]) (rest := []) (wc := [(x, kO 8 [x_tape, .ref td, x_draft, x_lines, x_draftLines, x_now, x_trial, x_sights, x_past, x_marks, .long x_drawn]), (td, kO 7 [td_names, td_kinds, td_yards, td_paces, td_skills, td_snow, td_law, .int 0, .int 0, .int td_bend, .int td_hour, .int td_bendTold, .int td_hourTold])]) (wr := []) ⟨hx, hb, hml, hown, hts⟩ hK hE hP hD hS hA (mX8_isGuestOnRoad l D k H.size x q1 x_tape td x_draft x_lines x_draftLines x_now x_trial x_sights x_past x_marks x_drawn td_names td_kinds td_yards td_paces td_skills td_snow td_law td_bend td_hour td_bendTold td_hourTold) (cwV 1 hts gX8_wheel_X8_isGuestOnRoad rfl rfl rfl (by decide +kernel) (by rw [hR]; exact ⟨Nat.le_of_ble_eq_true rfl, Nat.le_of_ble_eq_true rfl⟩)) [0, 1] [] rfl rfl (by decide) (by decide) (by decide) 0 rfl rfl rfl hl.1 rfl (Nat.le_of_ble_eq_true rfl) dX8_wheel_2 (by rw [hR]; exact ⟨Nat.le_of_ble_eq_true rfl, Nat.le_of_ble_eq_true rfl⟩) (fun r1 u1 H locs hw1 hP hD hS => ?_)
  try dsimp only at hw1
  obtain rfl : r1 = 0 := hw1
  have hP : va_P D vwCl [(x, kO 8 [x_tape, .ref td, x_draft, x_lines, x_draftLines, x_now, x_trial, x_sights, x_past, x_marks, .long x_drawn]), (td, kO 7 [td_names, td_kinds, td_yards, td_paces, td_skills, td_snow, td_law, .int 0, .int 0, .int td_bend, .int td_hour, .int td_bendTold, .int td_hourTold])] H := hP
  have hD : va_D A [(x, kO 8 [x_tape, .ref td, x_draft, x_lines, x_draftLines, x_now, x_trial, x_sights, x_past, x_marks, .long x_drawn]), (td, kO 7 [td_names, td_kinds, td_yards, td_paces, td_skills, td_snow, td_law, .int 0, .int 0, .int td_bend, .int td_hour, .int td_bendTold, .int td_hourTold])] := hD
  refine lv_if_eq (tgt := 18) hx hb dX8_wheel_5 (by decide) (fun c_2 => ?_) (fun c_2 => absurd (by decide) c_2)
  refine lv_iconst (v := (-1)) hx hb dX8_wheel_18 (by decide) ?_
  rw [hQ]
  have hP9 := hP.sub (ws' := [(x, kO 8 [x_tape, .ref td, x_draft, x_lines, x_draftLines, x_now, x_trial, x_sights, x_past, x_marks, .long x_drawn]), (td, kO 7 [td_names, td_kinds, td_yards, td_paces, td_skills, td_snow, td_law, .int 0, .int 0, .int td_bend, .int td_hour, .int td_bendTold, .int td_hourTold])]) [0, 1] rfl
  have hD9 := hD.sub (ws' := [(x, kO 8 [x_tape, .ref td, x_draft, x_lines, x_draftLines, x_now, x_trial, x_sights, x_past, x_marks, .long x_drawn]), (td, kO 7 [td_names, td_kinds, td_yards, td_paces, td_skills, td_snow, td_law, .int 0, .int 0, .int td_bend, .int td_hour, .int td_bendTold, .int td_hourTold])]) [0, 1] (by decide) rfl
  exact W.iret (v := (-1)) hx hb hr (fun zt ht hW => ⟨⟨(-1), (), rfl, rfl, by rw [ht]; exact hP9, hD9⟩, hS.F ht⟩) hS.2.2 dX8_wheel_19
theorem dX8_run_0 : decode cX8_run 0 = .ok (.aload_n 0, 1) := by decide +kernel
theorem dX8_run_1 : decode cX8_run 1 = .ok (.iload_n 1, 1) := by decide +kernel
theorem dX8_run_2 : decode cX8_run 2 = .ok (.invokevirtual 134, 3) := by decide +kernel
theorem dX8_run_5 : decode cX8_run 5 = .ok (.ifCond .eq 13, 3) := by decide +kernel
theorem dX8_run_18 : decode cX8_run 18 = .ok (.iconst (-1), 1) := by decide +kernel
theorem dX8_run_19 : decode cX8_run 19 = .ok (.ireturn, 1) := by decide +kernel
set_option maxRecDepth 20000 in
theorem ggX8_run_X8_isGuestOnRoad : GoodIn wsX8_run wsX8_isGuestOnRoad := goodIn_r _ [8, 2, 9, 10, 11, 7, 12, 13, 14, 15, 16, 17, 18, 19, 20, 60, 61, 62, 63, 64, 65, 66, 67, 68, 69, 70, 84, 85, 86, 87, 88, 89, 90, 91, 92, 93, 94, 95, 96, 71, 72, 73, 74, 75, 76, 77, 78, 79, 80, 81, 82, 83] rfl (by decide +kernel)
set_option maxRecDepth 20000 in
theorem gX8_run_X8_isGuestOnRoad : GoodIn wsX8_run (wsV RX8 134 RX8 yX8_isGuestOnRoad wsX8_isGuestOnRoad) := goodIn_app (goodIn_of _ (by decide +kernel)) ggX8_run_X8_isGuestOnRoad
set_option maxHeartbeats 4000000 in
set_option maxRecDepth 100000 in
theorem mX8_run (l : Launch) (D : va_G) (k : Nat → ClassId) (sz : Nat) (x : Nat) (q1 : Int32) (q2 : Int32) (x_tape : Value) (td : Nat) (x_draft : Value) (x_lines : Value) (x_draftLines : Value) (x_now : Value) (x_trial : Value) (x_sights : Value) (x_past : Value) (x_marks : Value) (x_drawn : Int64) (td_names : Value) (td_kinds : Value) (td_yards : Value) (td_paces : Value) (td_skills : Value) (td_snow : Value) (td_law : Value) (td_bend : Int32) (td_hour : Int32) (td_bendTold : Int32) (td_hourTold : Int32) : Met l yX8_run wsX8_run ({ frames := 2, cells := 0, slots := 0, locals := 140 }) (va_Pc [.ref x, .int q1, .int q2] (kz_Pre D k [(x, kO 8 [x_tape, .ref td, x_draft, x_lines, x_draftLines, x_now, x_trial, x_sights, x_past, x_marks, .long x_drawn]), (td, kO 7 [td_names, td_kinds, td_yards, td_paces, td_skills, td_snow, td_law, .int 0, .int 0, .int td_bend, .int td_hour, .int td_bendTold, .int td_hourTold])] sz)) (va_Qi (fun (rr : Int32) (uu : Unit) => rr = (-1)) (fun uu zt => kz_B D (va_A [(x, kO 8 [x_tape, .ref td, x_draft, x_lines, x_draftLines, x_now, x_trial, x_sights, x_past, x_marks, .long x_drawn]), (td, kO 7 [td_names, td_kinds, td_yards, td_paces, td_skills, td_snow, td_law, .int 0, .int 0, .int td_bend, .int td_hour, .int td_bendTold, .int td_hourTold])] sz) [(x, kO 8 [x_tape, .ref td, x_draft, x_lines, x_draftLines, x_now, x_trial, x_sights, x_past, x_marks, .long x_drawn]), (td, kO 7 [td_names, td_kinds, td_yards, td_paces, td_skills, td_snow, td_law, .int 0, .int 0, .int td_bend, .int td_hour, .int td_bendTold, .int td_hourTold])] zt) (va_A [(x, kO 8 [x_tape, .ref td, x_draft, x_lines, x_draftLines, x_now, x_trial, x_sights, x_past, x_marks, .long x_drawn]), (td, kO 7 [td_names, td_kinds, td_yards, td_paces, td_skills, td_snow, td_law, .int 0, .int 0, .int td_bend, .int td_hour, .int td_bendTold, .int td_hourTold])] sz)) 0 0 (va_A [(x, kO 8 [x_tape, .ref td, x_draft, x_lines, x_draftLines, x_now, x_trial, x_sights, x_past, x_marks, .long x_drawn]), (td, kO 7 [td_names, td_kinds, td_yards, td_paces, td_skills, td_snow, td_law, .int 0, .int 0, .int td_bend, .int td_hour, .int td_bendTold, .int td_hourTold])] sz) := by
  refine Met.ofW (cc := cX8_run) (maxL := 3) (ret := (some .int)) (by decide) rfl ?_
  intro p e s m args below meth c s₁ B hml hv
  obtain ⟨hav, hsz, hP, hK, hD0, hE⟩ := hv
  have hx := B.exec
  have hb := B.bytes
  have hr := B.returns
  have hts := atoms_spec (ws := wsX8_run) B.pre
  have hown : s.vm.findClass RX8 = some m.cls := findClass_of_methodNamed B.named
  have hlocks := B.notSynchronized
  subst hsz
  have hD := hD0.self (sz := s.heap.size)
  generalize hAe : va_A [(x, kO 8 [x_tape, .ref td, x_draft, x_lines, x_draftLines, x_now, x_trial, x_sights, x_past, x_marks, .long x_drawn]), (td, kO 7 [td_names, td_kinds, td_yards, td_paces, td_skills, td_snow, td_law, .int 0, .int 0, .int td_bend, .int td_hour, .int td_bendTold, .int td_hourTold])] s.heap.size = A at hD ⊢
  have hA : ∀ q : Nat, s.heap.size ≤ q → A q := fun q h => by rw [← hAe]; exact Or.inr h
  have hS : va_S A s.heap s.heap [] := va_S.rf
  have hl := lv_entry ([.ref x, .int q1, .int q2]) (n := 3) (Nat.le_of_ble_eq_true rfl)
  rw [show entryFrame m args 3 = entryFrame m ([.ref x, .int q1, .int q2] : List Value).toArray 3 by rw [hav], lg_entry_eq]
  generalize (lg_sl ([.ref x, .int q1, .int q2]) ++ List.replicate (3 - (lg_sl ([.ref x, .int q1, .int q2])).length) Slot.unset).toArray = ls at hl ⊢
  have hl : lv_has ls 3 [(0, .ref x), (1, .int q1), (2, .int q2)] := hl
  obtain ⟨R, hR⟩ : ∃ R, R = (headSpec wsX8_run ({ frames := 2, cells := 0, slots := 0, locals := 140 } : Room)).room := ⟨_, rfl⟩
  rw [← hR]
  generalize hQ : MQ below _ args s 0 0 A = Q
  replace hQ := hQ.symm
  obtain ⟨H, hH⟩ : ∃ H, H = s.heap := ⟨_, rfl⟩
  rw [← hH] at hP ⊢
  have hS : va_S A s.heap H [] := by rw [hH]; exact hS
  refine lv_aload_n hx hb dX8_run_0 rfl (lv_at hl 0 rfl) ?_
  refine lv_iload_n hx hb dX8_run_1 rfl (lv_at hl 1 rfl) ?_
  refine kz_Vi (As := [.int q1]) (rest := []) (wc := [(x, kO 8 [x_tape, .ref td, x_draft, x_lines, x_draftLines, x_now, x_trial, x_sights, x_past, x_marks, .long x_drawn]), (td, kO 7 [td_names, td_kinds, td_yards, td_paces, td_skills, td_snow, td_law, .int 0, .int 0, .int td_bend, .int td_hour, .int td_bendTold, .int td_hourTold])]) (wr := []) ⟨hx, hb, hml, hown, hts⟩ hK hE hP hD hS hA (mX8_isGuestOnRoad l D k H.size x q1 x_tape td x_draft x_lines x_draftLines x_now x_trial x_sights x_past x_marks x_drawn td_names td_kinds td_yards td_paces td_skills td_snow td_law td_bend td_hour td_bendTold td_hourTold) (cwV 1 hts gX8_run_X8_isGuestOnRoad rfl rfl rfl (by decide +kernel) (by rw [hR]; exact ⟨Nat.le_of_ble_eq_true rfl, Nat.le_of_ble_eq_true rfl⟩)) [0, 1] [] rfl rfl (by decide) (by decide) (by decide) 0 rfl rfl rfl hl.1 rfl (Nat.le_of_ble_eq_true rfl) dX8_run_2 (by rw [hR]; exact ⟨Nat.le_of_ble_eq_true rfl, Nat.le_of_ble_eq_true rfl⟩) (fun r1 u1 H locs hw1 hP hD hS => ?_)
  try dsimp only at hw1
  obtain rfl : r1 = 0 := hw1
  have hP : va_P D vwCl [(x, kO 8 [x_tape, .ref td, x_draft, x_lines, x_draftLines, x_now, x_trial, x_sights, x_past, x_marks, .long x_drawn]), (td, kO 7 [td_names, td_kinds, td_yards, td_paces, td_skills, td_snow, td_law, .int 0, .int 0, .int td_bend, .int td_hour, .int td_bendTold, .int td_hourTold])] H := hP
  have hD : va_D A [(x, kO 8 [x_tape, .ref td, x_draft, x_lines, x_draftLines, x_now, x_trial, x_sights, x_past, x_marks, .long x_drawn]), (td, kO 7 [td_names, td_kinds, td_yards, td_paces, td_skills, td_snow, td_law, .int 0, .int 0, .int td_bend, .int td_hour, .int td_bendTold, .int td_hourTold])] := hD
  refine lv_if_eq (tgt := 18) hx hb dX8_run_5 (by decide) (fun c_2 => ?_) (fun c_2 => absurd (by decide) c_2)
  refine lv_iconst (v := (-1)) hx hb dX8_run_18 (by decide) ?_
  rw [hQ]
  have hP9 := hP.sub (ws' := [(x, kO 8 [x_tape, .ref td, x_draft, x_lines, x_draftLines, x_now, x_trial, x_sights, x_past, x_marks, .long x_drawn]), (td, kO 7 [td_names, td_kinds, td_yards, td_paces, td_skills, td_snow, td_law, .int 0, .int 0, .int td_bend, .int td_hour, .int td_bendTold, .int td_hourTold])]) [0, 1] rfl
  have hD9 := hD.sub (ws' := [(x, kO 8 [x_tape, .ref td, x_draft, x_lines, x_draftLines, x_now, x_trial, x_sights, x_past, x_marks, .long x_drawn]), (td, kO 7 [td_names, td_kinds, td_yards, td_paces, td_skills, td_snow, td_law, .int 0, .int 0, .int td_bend, .int td_hour, .int td_bendTold, .int td_hourTold])]) [0, 1] (by decide) rfl
  exact W.iret (v := (-1)) hx hb hr (fun zt ht hW => ⟨⟨(-1), (), rfl, rfl, by rw [ht]; exact hP9, hD9⟩, hS.F ht⟩) hS.2.2 dX8_run_19
theorem dX8_later_0 : decode cX8_later 0 = .ok (.aload_n 0, 1) := by decide +kernel
theorem dX8_later_1 : decode cX8_later 1 = .ok (.iload_n 1, 1) := by decide +kernel
theorem dX8_later_2 : decode cX8_later 2 = .ok (.invokevirtual 105, 3) := by decide +kernel
theorem dX8_later_5 : decode cX8_later 5 = .ok (.ifCond .eq 13, 3) := by decide +kernel
theorem dX8_later_18 : decode cX8_later 18 = .ok (.iconst (-1), 1) := by decide +kernel
theorem dX8_later_19 : decode cX8_later 19 = .ok (.ireturn, 1) := by decide +kernel
set_option maxRecDepth 20000 in
theorem ggX8_later_X8_isGuest : GoodIn wsX8_later wsX8_isGuest := goodIn_r _ [7, 8, 9, 125, 126, 127, 128, 129, 130, 131, 132, 133, 134, 135, 149, 150, 151, 152, 153, 154, 155, 156, 157, 158, 159, 160, 161] rfl (by decide +kernel)
set_option maxRecDepth 20000 in
theorem gX8_later_X8_isGuest : GoodIn wsX8_later (wsV RX8 105 RX8 yX8_isGuest wsX8_isGuest) := goodIn_app (goodIn_of _ (by decide +kernel)) ggX8_later_X8_isGuest
set_option maxHeartbeats 4000000 in
set_option maxRecDepth 100000 in
theorem mX8_later (l : Launch) (D : va_G) (k : Nat → ClassId) (sz : Nat) (x : Nat) (q1 : Int32) (q2 : Int32) (x_tape : Value) (td : Nat) (x_draft : Value) (x_lines : Value) (x_draftLines : Value) (x_now : Value) (x_trial : Value) (x_sights : Value) (x_past : Value) (x_marks : Value) (x_drawn : Int64) (td_names : Value) (td_kinds : Value) (td_yards : Value) (td_paces : Value) (td_skills : Value) (td_snow : Value) (td_law : Value) (td_bend : Int32) (td_hour : Int32) (td_bendTold : Int32) (td_hourTold : Int32) : Met l yX8_later wsX8_later ({ frames := 1, cells := 0, slots := 0, locals := 70 }) (va_Pc [.ref x, .int q1, .int q2] (kz_Pre D k [(x, kO 8 [x_tape, .ref td, x_draft, x_lines, x_draftLines, x_now, x_trial, x_sights, x_past, x_marks, .long x_drawn]), (td, kO 7 [td_names, td_kinds, td_yards, td_paces, td_skills, td_snow, td_law, .int 0, .int 0, .int td_bend, .int td_hour, .int td_bendTold, .int td_hourTold])] sz)) (va_Qi (fun (rr : Int32) (uu : Unit) => rr = (-1)) (fun uu zt => kz_B D (va_A [(x, kO 8 [x_tape, .ref td, x_draft, x_lines, x_draftLines, x_now, x_trial, x_sights, x_past, x_marks, .long x_drawn]), (td, kO 7 [td_names, td_kinds, td_yards, td_paces, td_skills, td_snow, td_law, .int 0, .int 0, .int td_bend, .int td_hour, .int td_bendTold, .int td_hourTold])] sz) [(x, kO 8 [x_tape, .ref td, x_draft, x_lines, x_draftLines, x_now, x_trial, x_sights, x_past, x_marks, .long x_drawn]), (td, kO 7 [td_names, td_kinds, td_yards, td_paces, td_skills, td_snow, td_law, .int 0, .int 0, .int td_bend, .int td_hour, .int td_bendTold, .int td_hourTold])] zt) (va_A [(x, kO 8 [x_tape, .ref td, x_draft, x_lines, x_draftLines, x_now, x_trial, x_sights, x_past, x_marks, .long x_drawn]), (td, kO 7 [td_names, td_kinds, td_yards, td_paces, td_skills, td_snow, td_law, .int 0, .int 0, .int td_bend, .int td_hour, .int td_bendTold, .int td_hourTold])] sz)) 0 0 (va_A [(x, kO 8 [x_tape, .ref td, x_draft, x_lines, x_draftLines, x_now, x_trial, x_sights, x_past, x_marks, .long x_drawn]), (td, kO 7 [td_names, td_kinds, td_yards, td_paces, td_skills, td_snow, td_law, .int 0, .int 0, .int td_bend, .int td_hour, .int td_bendTold, .int td_hourTold])] sz) := by
  refine Met.ofW (cc := cX8_later) (maxL := 3) (ret := (some .int)) (by decide) rfl ?_
  intro p e s m args below meth c s₁ B hml hv
  obtain ⟨hav, hsz, hP, hK, hD0, hE⟩ := hv
  have hx := B.exec
  have hb := B.bytes
  have hr := B.returns
  have hts := atoms_spec (ws := wsX8_later) B.pre
  have hown : s.vm.findClass RX8 = some m.cls := findClass_of_methodNamed B.named
  have hlocks := B.notSynchronized
  subst hsz
  have hD := hD0.self (sz := s.heap.size)
  generalize hAe : va_A [(x, kO 8 [x_tape, .ref td, x_draft, x_lines, x_draftLines, x_now, x_trial, x_sights, x_past, x_marks, .long x_drawn]), (td, kO 7 [td_names, td_kinds, td_yards, td_paces, td_skills, td_snow, td_law, .int 0, .int 0, .int td_bend, .int td_hour, .int td_bendTold, .int td_hourTold])] s.heap.size = A at hD ⊢
  have hA : ∀ q : Nat, s.heap.size ≤ q → A q := fun q h => by rw [← hAe]; exact Or.inr h
  have hS : va_S A s.heap s.heap [] := va_S.rf
  have hl := lv_entry ([.ref x, .int q1, .int q2]) (n := 3) (Nat.le_of_ble_eq_true rfl)
  rw [show entryFrame m args 3 = entryFrame m ([.ref x, .int q1, .int q2] : List Value).toArray 3 by rw [hav], lg_entry_eq]
  generalize (lg_sl ([.ref x, .int q1, .int q2]) ++ List.replicate (3 - (lg_sl ([.ref x, .int q1, .int q2])).length) Slot.unset).toArray = ls at hl ⊢
  have hl : lv_has ls 3 [(0, .ref x), (1, .int q1), (2, .int q2)] := hl
  obtain ⟨R, hR⟩ : ∃ R, R = (headSpec wsX8_later ({ frames := 1, cells := 0, slots := 0, locals := 70 } : Room)).room := ⟨_, rfl⟩
  rw [← hR]
  generalize hQ : MQ below _ args s 0 0 A = Q
  replace hQ := hQ.symm
  obtain ⟨H, hH⟩ : ∃ H, H = s.heap := ⟨_, rfl⟩
  rw [← hH] at hP ⊢
  have hS : va_S A s.heap H [] := by rw [hH]; exact hS
  refine lv_aload_n hx hb dX8_later_0 rfl (lv_at hl 0 rfl) ?_
  refine lv_iload_n hx hb dX8_later_1 rfl (lv_at hl 1 rfl) ?_
  refine kz_Vi (As := [.int q1]) (rest := []) (wc := [(x, kO 8 [x_tape, .ref td, x_draft, x_lines, x_draftLines, x_now, x_trial, x_sights, x_past, x_marks, .long x_drawn]), (td, kO 7 [td_names, td_kinds, td_yards, td_paces, td_skills, td_snow, td_law, .int 0, .int 0, .int td_bend, .int td_hour, .int td_bendTold, .int td_hourTold])]) (wr := []) ⟨hx, hb, hml, hown, hts⟩ hK hE hP hD hS hA (mX8_isGuest l D k H.size x q1 x_tape td x_draft x_lines x_draftLines x_now x_trial x_sights x_past x_marks x_drawn td_names td_kinds td_yards td_paces td_skills td_snow td_law td_bend td_hour td_bendTold td_hourTold) (cwV 1 hts gX8_later_X8_isGuest rfl rfl rfl (by decide +kernel) (by rw [hR]; exact ⟨Nat.le_of_ble_eq_true rfl, Nat.le_of_ble_eq_true rfl⟩)) [0, 1] [] rfl rfl (by decide) (by decide) (by decide) 0 rfl rfl rfl hl.1 rfl (Nat.le_of_ble_eq_true rfl) dX8_later_2 (by rw [hR]; exact ⟨Nat.le_of_ble_eq_true rfl, Nat.le_of_ble_eq_true rfl⟩) (fun r1 u1 H locs hw1 hP hD hS => ?_)
  try dsimp only at hw1
  obtain rfl : r1 = 0 := hw1
  have hP : va_P D vwCl [(x, kO 8 [x_tape, .ref td, x_draft, x_lines, x_draftLines, x_now, x_trial, x_sights, x_past, x_marks, .long x_drawn]), (td, kO 7 [td_names, td_kinds, td_yards, td_paces, td_skills, td_snow, td_law, .int 0, .int 0, .int td_bend, .int td_hour, .int td_bendTold, .int td_hourTold])] H := hP
  have hD : va_D A [(x, kO 8 [x_tape, .ref td, x_draft, x_lines, x_draftLines, x_now, x_trial, x_sights, x_past, x_marks, .long x_drawn]), (td, kO 7 [td_names, td_kinds, td_yards, td_paces, td_skills, td_snow, td_law, .int 0, .int 0, .int td_bend, .int td_hour, .int td_bendTold, .int td_hourTold])] := hD
  refine lv_if_eq (tgt := 18) hx hb dX8_later_5 (by decide) (fun c_2 => ?_) (fun c_2 => absurd (by decide) c_2)
  refine lv_iconst (v := (-1)) hx hb dX8_later_18 (by decide) ?_
  rw [hQ]
  have hP9 := hP.sub (ws' := [(x, kO 8 [x_tape, .ref td, x_draft, x_lines, x_draftLines, x_now, x_trial, x_sights, x_past, x_marks, .long x_drawn]), (td, kO 7 [td_names, td_kinds, td_yards, td_paces, td_skills, td_snow, td_law, .int 0, .int 0, .int td_bend, .int td_hour, .int td_bendTold, .int td_hourTold])]) [0, 1] rfl
  have hD9 := hD.sub (ws' := [(x, kO 8 [x_tape, .ref td, x_draft, x_lines, x_draftLines, x_now, x_trial, x_sights, x_past, x_marks, .long x_drawn]), (td, kO 7 [td_names, td_kinds, td_yards, td_paces, td_skills, td_snow, td_law, .int 0, .int 0, .int td_bend, .int td_hour, .int td_bendTold, .int td_hourTold])]) [0, 1] (by decide) rfl
  exact W.iret (v := (-1)) hx hb hr (fun zt ht hW => ⟨⟨(-1), (), rfl, rfl, by rw [ht]; exact hP9, hD9⟩, hS.F ht⟩) hS.2.2 dX8_later_19
theorem dX8_meets_0 : decode cX8_meets 0 = .ok (.aload_n 0, 1) := by decide +kernel
theorem dX8_meets_1 : decode cX8_meets 1 = .ok (.iload_n 1, 1) := by decide +kernel
theorem dX8_meets_2 : decode cX8_meets 2 = .ok (.invokevirtual 105, 3) := by decide +kernel
theorem dX8_meets_5 : decode cX8_meets 5 = .ok (.ifCond .eq 16, 3) := by decide +kernel
theorem dX8_meets_21 : decode cX8_meets 21 = .ok (.iconst (-1), 1) := by decide +kernel
theorem dX8_meets_22 : decode cX8_meets 22 = .ok (.ireturn, 1) := by decide +kernel
set_option maxRecDepth 20000 in
theorem ggX8_meets_X8_isGuest : GoodIn wsX8_meets wsX8_isGuest := goodIn_r _ [9, 4, 10, 119, 120, 121, 122, 123, 124, 125, 126, 127, 128, 129, 143, 144, 145, 146, 147, 148, 149, 150, 151, 152, 153, 154, 155] rfl (by decide +kernel)
set_option maxRecDepth 20000 in
theorem gX8_meets_X8_isGuest : GoodIn wsX8_meets (wsV RX8 105 RX8 yX8_isGuest wsX8_isGuest) := goodIn_app (goodIn_of _ (by decide +kernel)) ggX8_meets_X8_isGuest
set_option maxHeartbeats 4000000 in
set_option maxRecDepth 100000 in
theorem mX8_meets (l : Launch) (D : va_G) (k : Nat → ClassId) (sz : Nat) (x : Nat) (q1 : Int32) (q2 : Int32) (x_tape : Value) (td : Nat) (x_draft : Value) (x_lines : Value) (x_draftLines : Value) (x_now : Value) (x_trial : Value) (x_sights : Value) (x_past : Value) (x_marks : Value) (x_drawn : Int64) (td_names : Value) (td_kinds : Value) (td_yards : Value) (td_paces : Value) (td_skills : Value) (td_snow : Value) (td_law : Value) (td_bend : Int32) (td_hour : Int32) (td_bendTold : Int32) (td_hourTold : Int32) : Met l yX8_meets wsX8_meets ({ frames := 1, cells := 0, slots := 0, locals := 70 }) (va_Pc [.ref x, .int q1, .int q2] (kz_Pre D k [(x, kO 8 [x_tape, .ref td, x_draft, x_lines, x_draftLines, x_now, x_trial, x_sights, x_past, x_marks, .long x_drawn]), (td, kO 7 [td_names, td_kinds, td_yards, td_paces, td_skills, td_snow, td_law, .int 0, .int 0, .int td_bend, .int td_hour, .int td_bendTold, .int td_hourTold])] sz)) (va_Qi (fun (rr : Int32) (uu : Unit) => rr = (-1)) (fun uu zt => kz_B D (va_A [(x, kO 8 [x_tape, .ref td, x_draft, x_lines, x_draftLines, x_now, x_trial, x_sights, x_past, x_marks, .long x_drawn]), (td, kO 7 [td_names, td_kinds, td_yards, td_paces, td_skills, td_snow, td_law, .int 0, .int 0, .int td_bend, .int td_hour, .int td_bendTold, .int td_hourTold])] sz) [(x, kO 8 [x_tape, .ref td, x_draft, x_lines, x_draftLines, x_now, x_trial, x_sights, x_past, x_marks, .long x_drawn]), (td, kO 7 [td_names, td_kinds, td_yards, td_paces, td_skills, td_snow, td_law, .int 0, .int 0, .int td_bend, .int td_hour, .int td_bendTold, .int td_hourTold])] zt) (va_A [(x, kO 8 [x_tape, .ref td, x_draft, x_lines, x_draftLines, x_now, x_trial, x_sights, x_past, x_marks, .long x_drawn]), (td, kO 7 [td_names, td_kinds, td_yards, td_paces, td_skills, td_snow, td_law, .int 0, .int 0, .int td_bend, .int td_hour, .int td_bendTold, .int td_hourTold])] sz)) 0 0 (va_A [(x, kO 8 [x_tape, .ref td, x_draft, x_lines, x_draftLines, x_now, x_trial, x_sights, x_past, x_marks, .long x_drawn]), (td, kO 7 [td_names, td_kinds, td_yards, td_paces, td_skills, td_snow, td_law, .int 0, .int 0, .int td_bend, .int td_hour, .int td_bendTold, .int td_hourTold])] sz) := by
  refine Met.ofW (cc := cX8_meets) (maxL := 4) (ret := (some .int)) (by decide) rfl ?_
  intro p e s m args below meth c s₁ B hml hv
  obtain ⟨hav, hsz, hP, hK, hD0, hE⟩ := hv
  have hx := B.exec
  have hb := B.bytes
  have hr := B.returns
  have hts := atoms_spec (ws := wsX8_meets) B.pre
  have hown : s.vm.findClass RX8 = some m.cls := findClass_of_methodNamed B.named
  have hlocks := B.notSynchronized
  subst hsz
  have hD := hD0.self (sz := s.heap.size)
  generalize hAe : va_A [(x, kO 8 [x_tape, .ref td, x_draft, x_lines, x_draftLines, x_now, x_trial, x_sights, x_past, x_marks, .long x_drawn]), (td, kO 7 [td_names, td_kinds, td_yards, td_paces, td_skills, td_snow, td_law, .int 0, .int 0, .int td_bend, .int td_hour, .int td_bendTold, .int td_hourTold])] s.heap.size = A at hD ⊢
  have hA : ∀ q : Nat, s.heap.size ≤ q → A q := fun q h => by rw [← hAe]; exact Or.inr h
  have hS : va_S A s.heap s.heap [] := va_S.rf
  have hl := lv_entry ([.ref x, .int q1, .int q2]) (n := 4) (Nat.le_of_ble_eq_true rfl)
  rw [show entryFrame m args 4 = entryFrame m ([.ref x, .int q1, .int q2] : List Value).toArray 4 by rw [hav], lg_entry_eq]
  generalize (lg_sl ([.ref x, .int q1, .int q2]) ++ List.replicate (4 - (lg_sl ([.ref x, .int q1, .int q2])).length) Slot.unset).toArray = ls at hl ⊢
  have hl : lv_has ls 4 [(0, .ref x), (1, .int q1), (2, .int q2)] := hl
  obtain ⟨R, hR⟩ : ∃ R, R = (headSpec wsX8_meets ({ frames := 1, cells := 0, slots := 0, locals := 70 } : Room)).room := ⟨_, rfl⟩
  rw [← hR]
  generalize hQ : MQ below _ args s 0 0 A = Q
  replace hQ := hQ.symm
  obtain ⟨H, hH⟩ : ∃ H, H = s.heap := ⟨_, rfl⟩
  rw [← hH] at hP ⊢
  have hS : va_S A s.heap H [] := by rw [hH]; exact hS
  refine lv_aload_n hx hb dX8_meets_0 rfl (lv_at hl 0 rfl) ?_
  refine lv_iload_n hx hb dX8_meets_1 rfl (lv_at hl 1 rfl) ?_
  refine kz_Vi (As := [.int q1]) (rest := []) (wc := [(x, kO 8 [x_tape, .ref td, x_draft, x_lines, x_draftLines, x_now, x_trial, x_sights, x_past, x_marks, .long x_drawn]), (td, kO 7 [td_names, td_kinds, td_yards, td_paces, td_skills, td_snow, td_law, .int 0, .int 0, .int td_bend, .int td_hour, .int td_bendTold, .int td_hourTold])]) (wr := []) ⟨hx, hb, hml, hown, hts⟩ hK hE hP hD hS hA (mX8_isGuest l D k H.size x q1 x_tape td x_draft x_lines x_draftLines x_now x_trial x_sights x_past x_marks x_drawn td_names td_kinds td_yards td_paces td_skills td_snow td_law td_bend td_hour td_bendTold td_hourTold) (cwV 1 hts gX8_meets_X8_isGuest rfl rfl rfl (by decide +kernel) (by rw [hR]; exact ⟨Nat.le_of_ble_eq_true rfl, Nat.le_of_ble_eq_true rfl⟩)) [0, 1] [] rfl rfl (by decide) (by decide) (by decide) 0 rfl rfl rfl hl.1 rfl (Nat.le_of_ble_eq_true rfl) dX8_meets_2 (by rw [hR]; exact ⟨Nat.le_of_ble_eq_true rfl, Nat.le_of_ble_eq_true rfl⟩) (fun r1 u1 H locs hw1 hP hD hS => ?_)
  try dsimp only at hw1
  obtain rfl : r1 = 0 := hw1
  have hP : va_P D vwCl [(x, kO 8 [x_tape, .ref td, x_draft, x_lines, x_draftLines, x_now, x_trial, x_sights, x_past, x_marks, .long x_drawn]), (td, kO 7 [td_names, td_kinds, td_yards, td_paces, td_skills, td_snow, td_law, .int 0, .int 0, .int td_bend, .int td_hour, .int td_bendTold, .int td_hourTold])] H := hP
  have hD : va_D A [(x, kO 8 [x_tape, .ref td, x_draft, x_lines, x_draftLines, x_now, x_trial, x_sights, x_past, x_marks, .long x_drawn]), (td, kO 7 [td_names, td_kinds, td_yards, td_paces, td_skills, td_snow, td_law, .int 0, .int 0, .int td_bend, .int td_hour, .int td_bendTold, .int td_hourTold])] := hD
  refine lv_if_eq (tgt := 21) hx hb dX8_meets_5 (by decide) (fun c_2 => ?_) (fun c_2 => absurd (by decide) c_2)
  refine lv_iconst (v := (-1)) hx hb dX8_meets_21 (by decide) ?_
  rw [hQ]
  have hP9 := hP.sub (ws' := [(x, kO 8 [x_tape, .ref td, x_draft, x_lines, x_draftLines, x_now, x_trial, x_sights, x_past, x_marks, .long x_drawn]), (td, kO 7 [td_names, td_kinds, td_yards, td_paces, td_skills, td_snow, td_law, .int 0, .int 0, .int td_bend, .int td_hour, .int td_bendTold, .int td_hourTold])]) [0, 1] rfl
  have hD9 := hD.sub (ws' := [(x, kO 8 [x_tape, .ref td, x_draft, x_lines, x_draftLines, x_now, x_trial, x_sights, x_past, x_marks, .long x_drawn]), (td, kO 7 [td_names, td_kinds, td_yards, td_paces, td_skills, td_snow, td_law, .int 0, .int 0, .int td_bend, .int td_hour, .int td_bendTold, .int td_hourTold])]) [0, 1] (by decide) rfl
  exact W.iret (v := (-1)) hx hb hr (fun zt ht hW => ⟨⟨(-1), (), rfl, rfl, by rw [ht]; exact hP9, hD9⟩, hS.F ht⟩) hS.2.2 dX8_meets_22
theorem dX8_order_0 : decode cX8_order 0 = .ok (.aload_n 0, 1) := by decide +kernel
theorem dX8_order_1 : decode cX8_order 1 = .ok (.iload_n 1, 1) := by decide +kernel
theorem dX8_order_2 : decode cX8_order 2 = .ok (.invokevirtual 105, 3) := by decide +kernel
theorem dX8_order_5 : decode cX8_order 5 = .ok (.ifCond .ne 5, 3) := by decide +kernel
theorem dX8_order_8 : decode cX8_order 8 = .ok (.iconst (-1), 1) := by decide +kernel
theorem dX8_order_9 : decode cX8_order 9 = .ok (.ireturn, 1) := by decide +kernel
set_option maxRecDepth 20000 in
theorem ggX8_order_X8_isGuest : GoodIn wsX8_order wsX8_isGuest := goodIn_r _ [9, 4, 10, 74, 75, 76, 77, 78, 79, 80, 81, 82, 83, 84, 98, 99, 100, 101, 102, 103, 104, 105, 106, 107, 108, 109, 110] rfl (by decide +kernel)
set_option maxRecDepth 20000 in
theorem gX8_order_X8_isGuest : GoodIn wsX8_order (wsV RX8 105 RX8 yX8_isGuest wsX8_isGuest) := goodIn_app (goodIn_of _ (by decide +kernel)) ggX8_order_X8_isGuest
set_option maxHeartbeats 4000000 in
set_option maxRecDepth 100000 in
theorem mX8_order (l : Launch) (D : va_G) (k : Nat → ClassId) (sz : Nat) (x : Nat) (q1 : Int32) (x_tape : Value) (td : Nat) (x_draft : Value) (x_lines : Value) (x_draftLines : Value) (x_now : Value) (x_trial : Value) (x_sights : Value) (x_past : Value) (x_marks : Value) (x_drawn : Int64) (td_names : Value) (td_kinds : Value) (td_yards : Value) (td_paces : Value) (td_skills : Value) (td_snow : Value) (td_law : Value) (td_bend : Int32) (td_hour : Int32) (td_bendTold : Int32) (td_hourTold : Int32) : Met l yX8_order wsX8_order ({ frames := 1, cells := 0, slots := 0, locals := 70 }) (va_Pc [.ref x, .int q1] (kz_Pre D k [(x, kO 8 [x_tape, .ref td, x_draft, x_lines, x_draftLines, x_now, x_trial, x_sights, x_past, x_marks, .long x_drawn]), (td, kO 7 [td_names, td_kinds, td_yards, td_paces, td_skills, td_snow, td_law, .int 0, .int 0, .int td_bend, .int td_hour, .int td_bendTold, .int td_hourTold])] sz)) (va_Qi (fun (rr : Int32) (uu : Unit) => rr = (-1)) (fun uu zt => kz_B D (va_A [(x, kO 8 [x_tape, .ref td, x_draft, x_lines, x_draftLines, x_now, x_trial, x_sights, x_past, x_marks, .long x_drawn]), (td, kO 7 [td_names, td_kinds, td_yards, td_paces, td_skills, td_snow, td_law, .int 0, .int 0, .int td_bend, .int td_hour, .int td_bendTold, .int td_hourTold])] sz) [(x, kO 8 [x_tape, .ref td, x_draft, x_lines, x_draftLines, x_now, x_trial, x_sights, x_past, x_marks, .long x_drawn]), (td, kO 7 [td_names, td_kinds, td_yards, td_paces, td_skills, td_snow, td_law, .int 0, .int 0, .int td_bend, .int td_hour, .int td_bendTold, .int td_hourTold])] zt) (va_A [(x, kO 8 [x_tape, .ref td, x_draft, x_lines, x_draftLines, x_now, x_trial, x_sights, x_past, x_marks, .long x_drawn]), (td, kO 7 [td_names, td_kinds, td_yards, td_paces, td_skills, td_snow, td_law, .int 0, .int 0, .int td_bend, .int td_hour, .int td_bendTold, .int td_hourTold])] sz)) 0 0 (va_A [(x, kO 8 [x_tape, .ref td, x_draft, x_lines, x_draftLines, x_now, x_trial, x_sights, x_past, x_marks, .long x_drawn]), (td, kO 7 [td_names, td_kinds, td_yards, td_paces, td_skills, td_snow, td_law, .int 0, .int 0, .int td_bend, .int td_hour, .int td_bendTold, .int td_hourTold])] sz) := by
  refine Met.ofW (cc := cX8_order) (maxL := 3) (ret := (some .int)) (by decide) rfl ?_
  intro p e s m args below meth c s₁ B hml hv
  obtain ⟨hav, hsz, hP, hK, hD0, hE⟩ := hv
  have hx := B.exec
  have hb := B.bytes
  have hr := B.returns
  have hts := atoms_spec (ws := wsX8_order) B.pre
  have hown : s.vm.findClass RX8 = some m.cls := findClass_of_methodNamed B.named
  have hlocks := B.notSynchronized
  subst hsz
  have hD := hD0.self (sz := s.heap.size)
  generalize hAe : va_A [(x, kO 8 [x_tape, .ref td, x_draft, x_lines, x_draftLines, x_now, x_trial, x_sights, x_past, x_marks, .long x_drawn]), (td, kO 7 [td_names, td_kinds, td_yards, td_paces, td_skills, td_snow, td_law, .int 0, .int 0, .int td_bend, .int td_hour, .int td_bendTold, .int td_hourTold])] s.heap.size = A at hD ⊢
  have hA : ∀ q : Nat, s.heap.size ≤ q → A q := fun q h => by rw [← hAe]; exact Or.inr h
  have hS : va_S A s.heap s.heap [] := va_S.rf
  have hl := lv_entry ([.ref x, .int q1]) (n := 3) (Nat.le_of_ble_eq_true rfl)
  rw [show entryFrame m args 3 = entryFrame m ([.ref x, .int q1] : List Value).toArray 3 by rw [hav], lg_entry_eq]
  generalize (lg_sl ([.ref x, .int q1]) ++ List.replicate (3 - (lg_sl ([.ref x, .int q1])).length) Slot.unset).toArray = ls at hl ⊢
  have hl : lv_has ls 3 [(0, .ref x), (1, .int q1)] := hl
  obtain ⟨R, hR⟩ : ∃ R, R = (headSpec wsX8_order ({ frames := 1, cells := 0, slots := 0, locals := 70 } : Room)).room := ⟨_, rfl⟩
  rw [← hR]
  generalize hQ : MQ below _ args s 0 0 A = Q
  replace hQ := hQ.symm
  obtain ⟨H, hH⟩ : ∃ H, H = s.heap := ⟨_, rfl⟩
  rw [← hH] at hP ⊢
  have hS : va_S A s.heap H [] := by rw [hH]; exact hS
  refine lv_aload_n hx hb dX8_order_0 rfl (lv_at hl 0 rfl) ?_
  refine lv_iload_n hx hb dX8_order_1 rfl (lv_at hl 1 rfl) ?_
  refine kz_Vi (As := [.int q1]) (rest := []) (wc := [(x, kO 8 [x_tape, .ref td, x_draft, x_lines, x_draftLines, x_now, x_trial, x_sights, x_past, x_marks, .long x_drawn]), (td, kO 7 [td_names, td_kinds, td_yards, td_paces, td_skills, td_snow, td_law, .int 0, .int 0, .int td_bend, .int td_hour, .int td_bendTold, .int td_hourTold])]) (wr := []) ⟨hx, hb, hml, hown, hts⟩ hK hE hP hD hS hA (mX8_isGuest l D k H.size x q1 x_tape td x_draft x_lines x_draftLines x_now x_trial x_sights x_past x_marks x_drawn td_names td_kinds td_yards td_paces td_skills td_snow td_law td_bend td_hour td_bendTold td_hourTold) (cwV 1 hts gX8_order_X8_isGuest rfl rfl rfl (by decide +kernel) (by rw [hR]; exact ⟨Nat.le_of_ble_eq_true rfl, Nat.le_of_ble_eq_true rfl⟩)) [0, 1] [] rfl rfl (by decide) (by decide) (by decide) 0 rfl rfl rfl hl.1 rfl (Nat.le_of_ble_eq_true rfl) dX8_order_2 (by rw [hR]; exact ⟨Nat.le_of_ble_eq_true rfl, Nat.le_of_ble_eq_true rfl⟩) (fun r1 u1 H locs hw1 hP hD hS => ?_)
  try dsimp only at hw1
  obtain rfl : r1 = 0 := hw1
  have hP : va_P D vwCl [(x, kO 8 [x_tape, .ref td, x_draft, x_lines, x_draftLines, x_now, x_trial, x_sights, x_past, x_marks, .long x_drawn]), (td, kO 7 [td_names, td_kinds, td_yards, td_paces, td_skills, td_snow, td_law, .int 0, .int 0, .int td_bend, .int td_hour, .int td_bendTold, .int td_hourTold])] H := hP
  have hD : va_D A [(x, kO 8 [x_tape, .ref td, x_draft, x_lines, x_draftLines, x_now, x_trial, x_sights, x_past, x_marks, .long x_drawn]), (td, kO 7 [td_names, td_kinds, td_yards, td_paces, td_skills, td_snow, td_law, .int 0, .int 0, .int td_bend, .int td_hour, .int td_bendTold, .int td_hourTold])] := hD
  refine lv_if_ne (tgt := 10) hx hb dX8_order_5 (by decide) (fun c_2 => absurd (by decide) c_2) (fun c_2 => ?_)
  refine lv_iconst (v := (-1)) hx hb dX8_order_8 (by decide) ?_
  rw [hQ]
  have hP9 := hP.sub (ws' := [(x, kO 8 [x_tape, .ref td, x_draft, x_lines, x_draftLines, x_now, x_trial, x_sights, x_past, x_marks, .long x_drawn]), (td, kO 7 [td_names, td_kinds, td_yards, td_paces, td_skills, td_snow, td_law, .int 0, .int 0, .int td_bend, .int td_hour, .int td_bendTold, .int td_hourTold])]) [0, 1] rfl
  have hD9 := hD.sub (ws' := [(x, kO 8 [x_tape, .ref td, x_draft, x_lines, x_draftLines, x_now, x_trial, x_sights, x_past, x_marks, .long x_drawn]), (td, kO 7 [td_names, td_kinds, td_yards, td_paces, td_skills, td_snow, td_law, .int 0, .int 0, .int td_bend, .int td_hour, .int td_bendTold, .int td_hourTold])]) [0, 1] (by decide) rfl
  exact W.iret (v := (-1)) hx hb hr (fun zt ht hW => ⟨⟨(-1), (), rfl, rfl, by rw [ht]; exact hP9, hD9⟩, hS.F ht⟩) hS.2.2 dX8_order_9
