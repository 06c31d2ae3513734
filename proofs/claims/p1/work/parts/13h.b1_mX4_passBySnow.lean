theorem dX4_passBySnow_0 : decode cX4_passBySnow 0 = .ok (.aload_n 0, 1) := by decide +kernel
theorem dX4_passBySnow_1 : decode cX4_passBySnow 1 = .ok (.aload_n 1, 1) := by decide +kernel
theorem dX4_passBySnow_2 : decode cX4_passBySnow 2 = .ok (.iload_n 2, 1) := by decide +kernel
theorem dX4_passBySnow_3 : decode cX4_passBySnow 3 = .ok (.invokevirtual 105, 3) := by decide +kernel
theorem dX4_passBySnow_6 : decode cX4_passBySnow 6 = .ok (.aload_n 1, 1) := by decide +kernel
theorem dX4_passBySnow_7 : decode cX4_passBySnow 7 = .ok (.getfield 53, 3) := by decide +kernel
theorem dX4_passBySnow_10 : decode cX4_passBySnow 10 = .ok (.ifCond .eq 14, 3) := by decide +kernel
theorem dX4_passBySnow_24 : decode cX4_passBySnow 24 = .ok (.aload_n 0, 1) := by decide +kernel
theorem dX4_passBySnow_25 : decode cX4_passBySnow 25 = .ok (.dup, 1) := by decide +kernel
theorem dX4_passBySnow_26 : decode cX4_passBySnow 26 = .ok (.getfield 47, 3) := by decide +kernel
theorem dX4_passBySnow_29 : decode cX4_passBySnow 29 = .ok (.iconst 1, 1) := by decide +kernel
theorem dX4_passBySnow_30 : decode cX4_passBySnow 30 = .ok (.iadd, 1) := by decide +kernel
theorem dX4_passBySnow_31 : decode cX4_passBySnow 31 = .ok (.putfield 47, 3) := by decide +kernel
theorem dX4_passBySnow_34 : decode cX4_passBySnow 34 = .ok (.iconst (-1), 1) := by decide +kernel
theorem dX4_passBySnow_35 : decode cX4_passBySnow 35 = .ok (.ireturn, 1) := by decide +kernel
set_option maxRecDepth 20000 in
theorem ggX4_passBySnow_X4_walk : GoodIn wsX4_passBySnow wsX4_walk := goodIn_r _ [8, 9, 1, 10, 11, 12, 13, 14, 15, 16, 17, 18, 19, 20, 21, 2, 22, 3, 23, 24, 25, 7, 26, 27, 28, 29, 30, 31, 32, 33, 34, 35, 36, 98, 99, 100, 101, 102, 103, 104, 105, 106, 107, 108, 109, 110, 85, 86, 87, 88, 89, 90, 91, 92, 93, 94, 95, 96, 97] rfl (by decide +kernel)
set_option maxRecDepth 20000 in
theorem gX4_passBySnow_X4_walk : GoodIn wsX4_passBySnow (wsV RX4 105 RX4 yX4_walk wsX4_walk) := goodIn_app (goodIn_of _ (by decide +kernel)) ggX4_passBySnow_X4_walk
set_option maxHeartbeats 4000000 in
set_option maxRecDepth 100000 in
theorem mX4_passBySnow (l : Launch) (D : va_G) (k : Nat → ClassId) (sz : Nat) (r : Nat) (t : Nat) (sn : Int32) (r_yards : Value) (r_paces : Value) (r_stuck : Value) (r_hirers : Value) (r_places : Value) (r_cameAt : Value) (r_cooked : Value) (r_inside : Int32) (r_night : Int32) (r_minute : Int32) (r_tasted : Int32) (r_lastCook : Int32) (r_stirred : Int32) (t_names : Value) (t_kinds : Value) (t_yards : Value) (t_paces : Value) (t_skills : Value) (t_snow : Value) (t_law : Value) (t_bend : Int32) (t_hour : Int32) (t_bendTold : Int32) (t_hourTold : Int32) : Met l yX4_passBySnow wsX4_passBySnow ({ frames := 3, cells := 0, slots := 0, locals := 210 }) (va_Pc [.ref r, .ref t, .int sn] (kz_Pre D k [(r, kO 4 [r_yards, r_paces, r_stuck, r_hirers, r_places, r_cameAt, r_cooked, .int r_inside, .int r_night, .int r_minute, .int r_tasted, .int r_lastCook, .int r_stirred]), (t, kO 7 [t_names, t_kinds, t_yards, t_paces, t_skills, t_snow, t_law, .int 0, .int 0, .int t_bend, .int t_hour, .int t_bendTold, .int t_hourTold])] sz)) (va_Qi (fun (rr : Int32) (uu : Unit) => rr = (-1)) (fun uu zt => kz_B D (va_A [(r, kO 4 [r_yards, r_paces, r_stuck, r_hirers, r_places, r_cameAt, r_cooked, .int r_inside, .int r_night, .int r_minute, .int r_tasted, .int r_lastCook, .int r_stirred]), (t, kO 7 [t_names, t_kinds, t_yards, t_paces, t_skills, t_snow, t_law, .int 0, .int 0, .int t_bend, .int t_hour, .int t_bendTold, .int t_hourTold])] sz) [(r, kO 4 [r_yards, r_paces, r_stuck, r_hirers, r_places, r_cameAt, r_cooked, .int r_inside, .int r_night, .int (r_minute + 1), .int r_tasted, .int r_lastCook, .int 0]), (t, kO 7 [t_names, t_kinds, t_yards, t_paces, t_skills, t_snow, t_law, .int 0, .int 0, .int t_bend, .int t_hour, .int t_bendTold, .int t_hourTold])] zt) (va_A [(r, kO 4 [r_yards, r_paces, r_stuck, r_hirers, r_places, r_cameAt, r_cooked, .int r_inside, .int r_night, .int r_minute, .int r_tasted, .int r_lastCook, .int r_stirred]), (t, kO 7 [t_names, t_kinds, t_yards, t_paces, t_skills, t_snow, t_law, .int 0, .int 0, .int t_bend, .int t_hour, .int t_bendTold, .int t_hourTold])] sz)) 0 0 (va_A [(r, kO 4 [r_yards, r_paces, r_stuck, r_hirers, r_places, r_cameAt, r_cooked, .int r_inside, .int r_night, .int r_minute, .int r_tasted, .int r_lastCook, .int r_stirred]), (t, kO 7 [t_names, t_kinds, t_yards, t_paces, t_skills, t_snow, t_law, .int 0, .int 0, .int t_bend, .int t_hour, .int t_bendTold, .int t_hourTold])] sz) := by
  refine Met.ofW (cc := cX4_passBySnow) (maxL := 4) (ret := (some .int)) (by decide) rfl ?_
  intro p e s m args below meth c s₁ B hml hv
  obtain ⟨hav, hsz, hP, hK, hD0, hE⟩ := hv
  have hx := B.exec
  have hb := B.bytes
  have hr := B.returns
  have hts := atoms_spec (ws := wsX4_passBySnow) B.pre
  have hown : s.vm.findClass RX4 = some m.cls := findClass_of_methodNamed B.named
  have hlocks := B.notSynchronized
  have hi4 : ∀ w ∈ u_ws RX4 TX4 13, w ∈ wsX4_passBySnow := by decide +kernel
  have hi7 : ∀ w ∈ u_ws RX7 TX7 13, w ∈ wsX4_passBySnow := by decide +kernel
  have lf53 := hts (.fieldLink RX4 53 "LastCook$Told" "guests" "I") (by decide +kernel)
  have lf47 := hts (.fieldLink RX4 47 "LastCook$Road" "minute" "I") (by decide +kernel)
  subst hsz
  have hD := hD0.self (sz := s.heap.size)
  generalize hAe : va_A [(r, kO 4 [r_yards, r_paces, r_stuck, r_hirers, r_places, r_cameAt, r_cooked, .int r_inside, .int r_night, .int r_minute, .int r_tasted, .int r_lastCook, .int r_stirred]), (t, kO 7 [t_names, t_kinds, t_yards, t_paces, t_skills, t_snow, t_law, .int 0, .int 0, .int t_bend, .int t_hour, .int t_bendTold, .int t_hourTold])] s.heap.size = A at hD ⊢
  have hA : ∀ q : Nat, s.heap.size ≤ q → A q := fun q h => by rw [← hAe]; exact Or.inr h
  have hS : va_S A s.heap s.heap [] := va_S.rf
  have hl := lv_entry ([.ref r, .ref t, .int sn]) (n := 4) (Nat.le_of_ble_eq_true rfl)
  rw [show entryFrame m args 4 = entryFrame m ([.ref r, .ref t, .int sn] : List Value).toArray 4 by rw [hav], lg_entry_eq]
  generalize (lg_sl ([.ref r, .ref t, .int sn]) ++ List.replicate (4 - (lg_sl ([.ref r, .ref t, .int sn])).length) Slot.unset).toArray = ls at hl ⊢
  have hl : lv_has ls 4 [(0, .ref r), (1, .ref t), (2, .int sn)] := hl
  obtain ⟨R, hR⟩ : ∃ R, R = (headSpec wsX4_passBySnow ({ frames := 3, cells := 0, slots := 0, locals := 210 } : Room)).room := ⟨_, rfl⟩
  rw [← hR]
  generalize hQ : MQ below _ args s 0 0 A = Q
  replace hQ := hQ.symm
  obtain ⟨H, hH⟩ : ∃ H, H = s.heap := ⟨_, rfl⟩
  rw [← hH] at hP ⊢
  have hS : va_S A s.heap H [] := by rw [hH]; exact hS
  refine lv_aload_n hx hb dX4_passBySnow_0 rfl (lv_at hl 0 rfl) ?_
  refine lv_aload_n hx hb dX4_passBySnow_1 rfl (lv_at hl 1 rfl) ?_
  refine lv_iload_n hx hb dX4_passBySnow_2 rfl (lv_at hl 2 rfl) ?_
  refine kz_Vv (As := [.ref t, .int sn]) (rest := []) (wc := [(r, kO 4 [r_yards, r_paces, r_stuck, r_hirers, r_places, r_cameAt, r_cooked, .int r_inside, .int r_night, .int r_minute, .int r_tasted, .int r_lastCook, .int r_stirred]), (t, kO 7 [t_names, t_kinds, t_yards, t_paces, t_skills, t_snow, t_law, .int 0, .int 0, .int t_bend, .int t_hour, .int t_bendTold, .int t_hourTold])]) (wr := []) ⟨hx, hb, hml, hown, hts⟩ hK hE hP hD hS hA (mX4_walk l D k H.size r t sn r_yards r_paces r_stuck r_hirers r_places r_cameAt r_cooked r_inside r_night r_minute r_tasted r_lastCook r_stirred t_names t_kinds t_yards t_paces t_skills t_snow t_law t_bend t_hour t_bendTold t_hourTold) (cwV 2 hts gX4_passBySnow_X4_walk rfl rfl rfl (by decide +kernel) (by rw [hR]; exact ⟨Nat.le_of_ble_eq_true rfl, Nat.le_of_ble_eq_true rfl⟩)) [0, 1] [] rfl rfl (by decide) (by decide) (by decide) 0 rfl rfl rfl hl.1 rfl (Nat.le_of_ble_eq_true rfl) dX4_passBySnow_3 (by rw [hR]; exact ⟨Nat.le_of_ble_eq_true rfl, Nat.le_of_ble_eq_true rfl⟩) (fun u1 H locs hw1 hP hD hS => ?_)
  have hP : va_P D vwCl [(r, kO 4 [r_yards, r_paces, r_stuck, r_hirers, r_places, r_cameAt, r_cooked, .int r_inside, .int r_night, .int r_minute, .int r_tasted, .int r_lastCook, .int 0]), (t, kO 7 [t_names, t_kinds, t_yards, t_paces, t_skills, t_snow, t_law, .int 0, .int 0, .int t_bend, .int t_hour, .int t_bendTold, .int t_hourTold])] H := hP
  have hD : va_D A [(r, kO 4 [r_yards, r_paces, r_stuck, r_hirers, r_places, r_cameAt, r_cooked, .int r_inside, .int r_night, .int r_minute, .int r_tasted, .int r_lastCook, .int 0]), (t, kO 7 [t_names, t_kinds, t_yards, t_paces, t_skills, t_snow, t_law, .int 0, .int 0, .int t_bend, .int t_hour, .int t_bendTold, .int t_hourTold])] := hD
  refine lv_aload_n hx hb dX4_passBySnow_6 rfl (lv_at hl 1 rfl) ?_
  refine va_get (D := D) (ci := 7) (v := .int 0) (C := RX7) (T := TX7) (N := 13) hx hb hts hi7 hown hK hP 1 rfl rfl 7 (by decide) lf53 (fun _ h9 => h9) rfl dX4_passBySnow_7 ?_
  refine lv_if_eq (tgt := 24) hx hb dX4_passBySnow_10 (by decide) (fun c_2 => ?_) (fun c_2 => absurd (by decide) c_2)
  refine lv_aload_n hx hb dX4_passBySnow_24 rfl (lv_at hl 0 rfl) ?_
  refine lv_dup hx hb dX4_passBySnow_25 rfl ?_
  refine va_get (D := D) (ci := 4) (v := .int r_minute) (C := RX4) (T := TX4) (N := 13) hx hb hts hi4 hown hK hP 0 rfl rfl 9 (by decide) lf47 (fun _ h9 => h9) rfl dX4_passBySnow_26 ?_
  refine lv_iconst (v := 1) hx hb dX4_passBySnow_29 (by decide) ?_
  refine lv_iadd hx hb dX4_passBySnow_30 ?_
  refine va_put (D := D) (ci := 4) (v := .int (r_minute + 1)) (ty := .int) (C := RX4) (T := TX4) (N := 13) hx hb hts hi4 tyX4 tyX4_ok nmX4 hown hK hP hD hS 0 rfl rfl 9 (by decide) lf47 (fun _ h9 => h9) rfl (by decide +kernel) rfl rfl (Nat.le_of_ble_eq_true rfl) dX4_passBySnow_31 (fun H locs hP hD hS => ?_)
  have hP : va_P D vwCl [(r, kO 4 [r_yards, r_paces, r_stuck, r_hirers, r_places, r_cameAt, r_cooked, .int r_inside, .int r_night, .int (r_minute + 1), .int r_tasted, .int r_lastCook, .int 0]), (t, kO 7 [t_names, t_kinds, t_yards, t_paces, t_skills, t_snow, t_law, .int 0, .int 0, .int t_bend, .int t_hour, .int t_bendTold, .int t_hourTold])] H := hP
  have hD : va_D A [(r, kO 4 [r_yards, r_paces, r_stuck, r_hirers, r_places, r_cameAt, r_cooked, .int r_inside, .int r_night, .int (r_minute + 1), .int r_tasted, .int r_lastCook, .int 0]), (t, kO 7 [t_names, t_kinds, t_yards, t_paces, t_skills, t_snow, t_law, .int 0, .int 0, .int t_bend, .int t_hour, .int t_bendTold, .int t_hourTold])] := hD
  refine lv_iconst (v := (-1)) hx hb dX4_passBySnow_34 (by decide) ?_
  rw [hQ]
  have hP9 := hP.sub (ws' := [(r, kO 4 [r_yards, r_paces, r_stuck, r_hirers, r_places, r_cameAt, r_cooked, .int r_inside, .int r_night, .int (r_minute + 1), .int r_tasted, .int r_lastCook, .int 0]), (t, kO 7 [t_names, t_kinds, t_yards, t_paces, t_skills, t_snow, t_law, .int 0, .int 0, .int t_bend, .int t_hour, .int t_bendTold, .int t_hourTold])]) [0, 1] rfl
  have hD9 := hD.sub (ws' := [(r, kO 4 [r_yards, r_paces, r_stuck, r_hirers, r_places, r_cameAt, r_cooked, .int r_inside, .int r_night, .int (r_minute + 1), .int r_tasted, .int r_lastCook, .int 0]), (t, kO 7 [t_names, t_kinds, t_yards, t_paces, t_skills, t_snow, t_law, .int 0, .int 0, .int t_bend, .int t_hour, .int t_bendTold, .int t_hourTold])]) [0, 1] (by decide) rfl
  exact W.iret (v := (-1)) hx hb hr (fun zt ht hW => ⟨⟨(-1), (), rfl, rfl, by rw [ht]; exact hP9, hD9⟩, hS.F ht⟩) hS.2.2 dX4_passBySnow_35
