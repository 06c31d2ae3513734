theorem dX4_goOn_0 : decode cX4_goOn 0 = .ok (.iconst 1, 1) := by decide +kernel
theorem dX4_goOn_1 : decode cX4_goOn 1 = .ok (.istore_n 3, 1) := by decide +kernel
theorem dX4_goOn_2 : decode cX4_goOn 2 = .ok (.iload_n 3, 1) := by decide +kernel
theorem dX4_goOn_3 : decode cX4_goOn 3 = .ok (.iload_n 2, 1) := by decide +kernel
theorem dX4_goOn_4 : decode cX4_goOn 4 = .ok (.if_icmp .gt 37, 3) := by decide +kernel
theorem dX4_goOn_7 : decode cX4_goOn 7 = .ok (.aload_n 0, 1) := by decide +kernel
theorem dX4_goOn_8 : decode cX4_goOn 8 = .ok (.aload_n 1, 1) := by decide +kernel
theorem dX4_goOn_9 : decode cX4_goOn 9 = .ok (.aload_n 1, 1) := by decide +kernel
theorem dX4_goOn_10 : decode cX4_goOn 10 = .ok (.aload_n 0, 1) := by decide +kernel
theorem dX4_goOn_11 : decode cX4_goOn 11 = .ok (.getfield 47, 3) := by decide +kernel
theorem dX4_goOn_14 : decode cX4_goOn 14 = .ok (.invokevirtual 101, 3) := by decide +kernel
theorem dX4_goOn_17 : decode cX4_goOn 17 = .ok (.invokevirtual 109, 3) := by decide +kernel
theorem dX4_goOn_20 : decode cX4_goOn 20 = .ok (.iconst (-1), 1) := by decide +kernel
theorem dX4_goOn_21 : decode cX4_goOn 21 = .ok (.if_icmp .eq 5, 3) := by decide +kernel
theorem dX4_goOn_26 : decode cX4_goOn 26 = .ok (.aload_n 0, 1) := by decide +kernel
theorem dX4_goOn_27 : decode cX4_goOn 27 = .ok (.getfield 91, 3) := by decide +kernel
theorem dX4_goOn_30 : decode cX4_goOn 30 = .ok (.ifCond .ne 5, 3) := by decide +kernel
theorem dX4_goOn_33 : decode cX4_goOn 33 = .ok (.iconst (-1), 1) := by decide +kernel
theorem dX4_goOn_34 : decode cX4_goOn 34 = .ok (.ireturn, 1) := by decide +kernel
theorem dX4_goOn_41 : decode cX4_goOn 41 = .ok (.iconst (-1), 1) := by decide +kernel
theorem dX4_goOn_42 : decode cX4_goOn 42 = .ok (.ireturn, 1) := by decide +kernel
set_option maxRecDepth 20000 in
theorem ggX4_goOn_X7_snowAt : GoodIn wsX4_goOn wsX7_snowAt := goodIn_r _ [7, 8, 9, 109, 110, 111, 112, 113, 114, 115, 116, 117, 118, 119, 120, 121] rfl (by decide +kernel)
set_option maxRecDepth 20000 in
theorem gX4_goOn_X7_snowAt : GoodIn wsX4_goOn (wsV RX4 101 RX7 yX7_snowAt wsX7_snowAt) := goodIn_app (goodIn_of _ (by decide +kernel)) ggX4_goOn_X7_snowAt
set_option maxRecDepth 20000 in
theorem ggX4_goOn_X4_passBySnow : GoodIn wsX4_goOn wsX4_passBySnow := goodIn_r _ [14, 15, 16, 1, 17, 18, 19, 13, 20, 2, 21, 22, 23, 24, 25, 26, 27, 28, 29, 30, 31, 32, 33, 34, 35, 36, 37, 38, 39, 40, 41, 42, 43, 44, 45, 46, 47, 48, 49, 50, 51, 52, 53, 54, 55, 56, 57, 58, 59, 60, 61, 62, 63, 64, 65, 66, 67, 68, 69, 70, 71, 72, 73, 74, 75, 76, 77, 78, 79, 80, 81, 82, 83, 84, 85, 86, 87, 88, 89, 90, 91, 92, 93, 94, 95, 109, 110, 111, 112, 113, 114, 115, 116, 117, 118, 119, 120, 121, 96, 97, 98, 99, 100, 101, 102, 103, 104, 105, 106, 107, 108, 122, 123, 124, 125, 126] rfl (by decide +kernel)
set_option maxRecDepth 20000 in
theorem gX4_goOn_X4_passBySnow : GoodIn wsX4_goOn (wsV RX4 109 RX4 yX4_passBySnow wsX4_passBySnow) := goodIn_app (goodIn_of _ (by decide +kernel)) ggX4_goOn_X4_passBySnow
set_option maxHeartbeats 4000000 in
set_option maxRecDepth 100000 in
theorem mX4_goOn (l : Launch) (D : va_G) (k : Nat → ClassId) (sz : Nat) (r : Nat) (t : Nat) (mo : Int32) (r_yards : Value) (r_paces : Value) (r_stuck : Value) (r_hirers : Value) (r_places : Value) (r_cameAt : Value) (r_cooked : Value) (r_inside : Int32) (r_night : Int32) (r_minute : Int32) (r_tasted : Int32) (r_lastCook : Int32) (r_stirred : Int32) (t_names : Value) (t_kinds : Value) (t_yards : Value) (t_paces : Value) (t_skills : Value) (t_snow : Value) (t_law : Value) (t_bend : Int32) (t_hour : Int32) (t_bendTold : Int32) (t_hourTold : Int32) : Met l yX4_goOn wsX4_goOn ({ frames := 4, cells := 0, slots := 0, locals := 280 }) (va_Pc [.ref r, .ref t, .int mo] (kz_Pre D k [(r, kO 4 [r_yards, r_paces, r_stuck, r_hirers, r_places, r_cameAt, r_cooked, .int r_inside, .int r_night, .int r_minute, .int r_tasted, .int r_lastCook, .int r_stirred]), (t, kO 7 [t_names, t_kinds, t_yards, t_paces, t_skills, t_snow, t_law, .int 0, .int 0, .int t_bend, .int t_hour, .int t_bendTold, .int t_hourTold])] sz)) (va_Qi (fun (rr : Int32) (uu : Unit) => rr = (-1)) (fun uu zt => kz_B D (va_A [(r, kO 4 [r_yards, r_paces, r_stuck, r_hirers, r_places, r_cameAt, r_cooked, .int r_inside, .int r_night, .int r_minute, .int r_tasted, .int r_lastCook, .int r_stirred]), (t, kO 7 [t_names, t_kinds, t_yards, t_paces, t_skills, t_snow, t_law, .int 0, .int 0, .int t_bend, .int t_hour, .int t_bendTold, .int t_hourTold])] sz) [] zt) (va_A [(r, kO 4 [r_yards, r_paces, r_stuck, r_hirers, r_places, r_cameAt, r_cooked, .int r_inside, .int r_night, .int r_minute, .int r_tasted, .int r_lastCook, .int r_stirred]), (t, kO 7 [t_names, t_kinds, t_yards, t_paces, t_skills, t_snow, t_law, .int 0, .int 0, .int t_bend, .int t_hour, .int t_bendTold, .int t_hourTold])] sz)) 0 0 (va_A [(r, kO 4 [r_yards, r_paces, r_stuck, r_hirers, r_places, r_cameAt, r_cooked, .int r_inside, .int r_night, .int r_minute, .int r_tasted, .int r_lastCook, .int r_stirred]), (t, kO 7 [t_names, t_kinds, t_yards, t_paces, t_skills, t_snow, t_law, .int 0, .int 0, .int t_bend, .int t_hour, .int t_bendTold, .int t_hourTold])] sz) := by
  refine Met.ofW (cc := cX4_goOn) (maxL := 4) (ret := (some .int)) (by decide) rfl ?_
  intro p e s m args below meth c s₁ B hml hv
  obtain ⟨hav, hsz, hP, hK, hD0, hE⟩ := hv
  have hx := B.exec
  have hb := B.bytes
  have hr := B.returns
  have hts := atoms_spec (ws := wsX4_goOn) B.pre
  have hown : s.vm.findClass RX4 = some m.cls := findClass_of_methodNamed B.named
  have hlocks := B.notSynchronized
  have hi4 : ∀ w ∈ u_ws RX4 TX4 13, w ∈ wsX4_goOn := by decide +kernel
  have lf47 := hts (.fieldLink RX4 47 "LastCook$Road" "minute" "I") (by decide +kernel)
  have lf91 := hts (.fieldLink RX4 91 "LastCook$Road" "stirred" "Z") (by decide +kernel)
  subst hsz
  have hD := hD0.self (sz := s.heap.size)
  generalize hAe : va_A [(r, kO 4 [r_yards, r_paces, r_stuck, r_hirers, r_places, r_cameAt, r_cooked, .int r_inside, .int r_night, .int r_minute, .int r_tasted, .int r_lastCook, .int r_stirred]), (t, kO 7 [t_names, t_kinds, t_yards, t_paces, t_skills, t_snow, t_law, .int 0, .int 0, .int t_bend, .int t_hour, .int t_bendTold, .int t_hourTold])] s.heap.size = A at hD ⊢
  have hA : ∀ q : Nat, s.heap.size ≤ q → A q := fun q h => by rw [← hAe]; exact Or.inr h
  have hS : va_S A s.heap s.heap [] := va_S.rf
  have hl := lv_entry ([.ref r, .ref t, .int mo]) (n := 4) (Nat.le_of_ble_eq_true rfl)
  rw [show entryFrame m args 4 = entryFrame m ([.ref r, .ref t, .int mo] : List Value).toArray 4 by rw [hav], lg_entry_eq]
  generalize (lg_sl ([.ref r, .ref t, .int mo]) ++ List.replicate (4 - (lg_sl ([.ref r, .ref t, .int mo])).length) Slot.unset).toArray = ls at hl ⊢
  have hl : lv_has ls 4 [(0, .ref r), (1, .ref t), (2, .int mo)] := hl
  obtain ⟨R, hR⟩ : ∃ R, R = (headSpec wsX4_goOn ({ frames := 4, cells := 0, slots := 0, locals := 280 } : Room)).room := ⟨_, rfl⟩
  rw [← hR]
  generalize hQ : MQ below _ args s 0 0 A = Q
  replace hQ := hQ.symm
  obtain ⟨H, hH⟩ : ∃ H, H = s.heap := ⟨_, rfl⟩
  rw [← hH] at hP ⊢
  have hS : va_S A s.heap H [] := by rw [hH]; exact hS
  refine lv_iconst (v := 1) hx hb dX4_goOn_0 (by decide) ?_
  refine lv_istore_n (lv' := [(3, .int 1), (0, .ref r), (1, .ref t), (2, .int mo)]) hx hb dX4_goOn_1 rfl hl (by decide) rfl (fun ls hl => ?_)
  refine lv_iload_n hx hb dX4_goOn_2 rfl (lv_at hl 0 rfl) ?_
  refine lv_iload_n hx hb dX4_goOn_3 rfl (lv_at hl 3 rfl) ?_
  refine lv_icmp_gt (tgt := 41) hx hb dX4_goOn_4 (by decide) (fun c_1 => ?_) (fun c_1 => ?_)
  · skip
    refine lv_iconst (v := (-1)) hx hb dX4_goOn_41 (by decide) ?_
    rw [hQ]
    have hP9 := hP.sub (ws' := []) [] rfl
    have hD9 := hD.sub (ws' := []) [] (by decide) rfl
    exact W.iret (v := (-1)) hx hb hr (fun zt ht hW => ⟨⟨(-1), (), rfl, rfl, by rw [ht]; exact hP9, hD9⟩, hS.F ht⟩) hS.2.2 dX4_goOn_42
  · skip
    refine lv_aload_n hx hb dX4_goOn_7 rfl (lv_at hl 1 rfl) ?_
    refine lv_aload_n hx hb dX4_goOn_8 rfl (lv_at hl 2 rfl) ?_
    refine lv_aload_n hx hb dX4_goOn_9 rfl (lv_at hl 2 rfl) ?_
    refine lv_aload_n hx hb dX4_goOn_10 rfl (lv_at hl 1 rfl) ?_
    refine va_get (D := D) (ci := 4) (v := .int r_minute) (C := RX4) (T := TX4) (N := 13) hx hb hts hi4 hown hK hP 0 rfl rfl 9 (by decide) lf47 (fun _ h9 => h9) rfl dX4_goOn_11 ?_
    refine kz_Vi (As := [.int r_minute]) (rest := [.ref t, .ref r]) (wc := [(t, kO 7 [t_names, t_kinds, t_yards, t_paces, t_skills, t_snow, t_law, .int 0, .int 0, .int t_bend, .int t_hour, .int t_bendTold, .int t_hourTold])]) (wr := [(r, kO 4 [r_yards, r_paces, r_stuck, r_hirers, r_places, r_cameAt, r_cooked, .int r_inside, .int r_night, .int r_minute, .int r_tasted, .int r_lastCook, .int r_stirred])]) ⟨hx, hb, hml, hown, hts⟩ hK hE hP hD hS hA (mX7_snowAt l D k H.size t r_minute t_names t_kinds t_yards t_paces t_skills t_snow t_law 0 t_bend t_hour t_bendTold t_hourTold) (cwV 1 hts gX4_goOn_X7_snowAt rfl rfl rfl (by decide +kernel) (by rw [hR]; exact ⟨Nat.le_of_ble_eq_true rfl, Nat.le_of_ble_eq_true rfl⟩)) [1] [0] rfl rfl (by decide) (by decide) (by decide) 0 rfl rfl rfl hl.1 rfl (Nat.le_of_ble_eq_true rfl) dX4_goOn_14 (by rw [hR]; exact ⟨Nat.le_of_ble_eq_true rfl, Nat.le_of_ble_eq_true rfl⟩) (fun r2 u2 H locs hw2 hP hD hS => ?_)
    try dsimp only at hw2
    obtain rfl : r2 = 0 := hw2
    have hP : va_P D vwCl [(r, kO 4 [r_yards, r_paces, r_stuck, r_hirers, r_places, r_cameAt, r_cooked, .int r_inside, .int r_night, .int r_minute, .int r_tasted, .int r_lastCook, .int r_stirred]), (t, kO 7 [t_names, t_kinds, t_yards, t_paces, t_skills, t_snow, t_law, .int 0, .int 0, .int t_bend, .int t_hour, .int t_bendTold, .int t_hourTold])] H := hP
    have hD : va_D A [(r, kO 4 [r_yards, r_paces, r_stuck, r_hirers, r_places, r_cameAt, r_cooked, .int r_inside, .int r_night, .int r_minute, .int r_tasted, .int r_lastCook, .int r_stirred]), (t, kO 7 [t_names, t_kinds, t_yards, t_paces, t_skills, t_snow, t_law, .int 0, .int 0, .int t_bend, .int t_hour, .int t_bendTold, .int t_hourTold])] := hD
    refine kz_Vi (As := [.ref t, .int 0]) (rest := []) (wc := [(r, kO 4 [r_yards, r_paces, r_stuck, r_hirers, r_places, r_cameAt, r_cooked, .int r_inside, .int r_night, .int r_minute, .int r_tasted, .int r_lastCook, .int r_stirred]), (t, kO 7 [t_names, t_kinds, t_yards, t_paces, t_skills, t_snow, t_law, .int 0, .int 0, .int t_bend, .int t_hour, .int t_bendTold, .int t_hourTold])]) (wr := []) ⟨hx, hb, hml, hown, hts⟩ hK hE hP hD hS hA (mX4_passBySnow l D k H.size r t 0 r_yards r_paces r_stuck r_hirers r_places r_cameAt r_cooked r_inside r_night r_minute r_tasted r_lastCook r_stirred t_names t_kinds t_yards t_paces t_skills t_snow t_law t_bend t_hour t_bendTold t_hourTold) (cwV 2 hts gX4_goOn_X4_passBySnow rfl rfl rfl (by decide +kernel) (by rw [hR]; exact ⟨Nat.le_of_ble_eq_true rfl, Nat.le_of_ble_eq_true rfl⟩)) [0, 1] [] rfl rfl (by decide) (by decide) (by decide) 0 rfl rfl rfl hl.1 rfl (Nat.le_of_ble_eq_true rfl) dX4_goOn_17 (by rw [hR]; exact ⟨Nat.le_of_ble_eq_true rfl, Nat.le_of_ble_eq_true rfl⟩) (fun r3 u3 H locs hw3 hP hD hS => ?_)
    try dsimp only at hw3
    obtain rfl : r3 = (-1) := hw3
    have hP : va_P D vwCl [(r, kO 4 [r_yards, r_paces, r_stuck, r_hirers, r_places, r_cameAt, r_cooked, .int r_inside, .int r_night, .int (r_minute + 1), .int r_tasted, .int r_lastCook, .int 0]), (t, kO 7 [t_names, t_kinds, t_yards, t_paces, t_skills, t_snow, t_law, .int 0, .int 0, .int t_bend, .int t_hour, .int t_bendTold, .int t_hourTold])] H := hP
    have hD : va_D A [(r, kO 4 [r_yards, r_paces, r_stuck, r_hirers, r_places, r_cameAt, r_cooked, .int r_inside, .int r_night, .int (r_minute + 1), .int r_tasted, .int r_lastCook, .int 0]), (t, kO 7 [t_names, t_kinds, t_yards, t_paces, t_skills, t_snow, t_law, .int 0, .int 0, .int t_bend, .int t_hour, .int t_bendTold, .int t_hourTold])] := hD
    refine lv_iconst (v := (-1)) hx hb dX4_goOn_20 (by decide) ?_
    refine lv_icmp_eq (tgt := 26) hx hb dX4_goOn_21 (by decide) (fun c_4 => ?_) (fun c_4 => absurd (by decide) c_4)
    refine lv_aload_n hx hb dX4_goOn_26 rfl (lv_at hl 1 rfl) ?_
    refine va_get (D := D) (ci := 4) (v := .int 0) (C := RX4) (T := TX4) (N := 13) hx hb hts hi4 hown hK hP 0 rfl rfl 12 (by decide) lf91 (fun _ h9 => h9) rfl dX4_goOn_27 ?_
    refine lv_if_ne (tgt := 35) hx hb dX4_goOn_30 (by decide) (fun c_5 => absurd (by decide) c_5) (fun c_5 => ?_)
    refine lv_iconst (v := (-1)) hx hb dX4_goOn_33 (by decide) ?_
    rw [hQ]
    have hP9 := hP.sub (ws' := []) [] rfl
    have hD9 := hD.sub (ws' := []) [] (by decide) rfl
    exact W.iret (v := (-1)) hx hb hr (fun zt ht hW => ⟨⟨(-1), (), rfl, rfl, by rw [ht]; exact hP9, hD9⟩, hS.F ht⟩) hS.2.2 dX4_goOn_34
