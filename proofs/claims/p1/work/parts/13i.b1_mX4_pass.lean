theorem dX4_pass_0 : decode cX4_pass 0 = .ok (.aload_n 0, 1) := by decide +kernel
theorem dX4_pass_1 : decode cX4_pass 1 = .ok (.aload_n 1, 1) := by decide +kernel
theorem dX4_pass_2 : decode cX4_pass 2 = .ok (.aload_n 1, 1) := by decide +kernel
theorem dX4_pass_3 : decode cX4_pass 3 = .ok (.aload_n 0, 1) := by decide +kernel
theorem dX4_pass_4 : decode cX4_pass 4 = .ok (.getfield 47, 3) := by decide +kernel
theorem dX4_pass_7 : decode cX4_pass 7 = .ok (.invokevirtual 101, 3) := by decide +kernel
theorem dX4_pass_10 : decode cX4_pass 10 = .ok (.invokevirtual 109, 3) := by decide +kernel
theorem dX4_pass_13 : decode cX4_pass 13 = .ok (.ireturn, 1) := by decide +kernel
set_option maxRecDepth 20000 in
theorem ggX4_pass_X7_snowAt : GoodIn wsX4_pass wsX7_snowAt := goodIn_r _ [6, 7, 8, 109, 110, 111, 112, 113, 114, 115, 116, 117, 118, 119, 120, 121] rfl (by decide +kernel)
set_option maxRecDepth 20000 in
theorem gX4_pass_X7_snowAt : GoodIn wsX4_pass (wsV RX4 101 RX7 yX7_snowAt wsX7_snowAt) := goodIn_app (goodIn_of _ (by decide +kernel)) ggX4_pass_X7_snowAt
set_option maxRecDepth 20000 in
theorem ggX4_pass_X4_passBySnow : GoodIn wsX4_pass wsX4_passBySnow := goodIn_r _ [13, 14, 15, 1, 16, 17, 18, 12, 19, 20, 21, 22, 23, 24, 25, 26, 27, 28, 29, 30, 31, 32, 33, 34, 35, 36, 37, 38, 39, 40, 41, 42, 43, 44, 45, 46, 47, 48, 49, 50, 51, 52, 53, 54, 55, 56, 57, 58, 59, 60, 61, 62, 63, 64, 65, 66, 67, 68, 69, 70, 71, 72, 73, 74, 75, 76, 77, 78, 79, 80, 81, 82, 83, 84, 85, 86, 87, 88, 89, 90, 91, 92, 93, 94, 95, 109, 110, 111, 112, 113, 114, 115, 116, 117, 118, 119, 120, 121, 96, 97, 98, 99, 100, 101, 102, 103, 104, 105, 106, 107, 108, 122, 123, 124, 125, 126] rfl (by decide +kernel)
set_option maxRecDepth 20000 in
theorem gX4_pass_X4_passBySnow : GoodIn wsX4_pass (wsV RX4 109 RX4 yX4_passBySnow wsX4_passBySnow) := goodIn_app (goodIn_of _ (by decide +kernel)) ggX4_pass_X4_passBySnow
set_option maxHeartbeats 4000000 in
set_option maxRecDepth 100000 in
theorem mX4_pass (l : Launch) (D : va_G) (k : Nat → ClassId) (sz : Nat) (r : Nat) (t : Nat) (r_yards : Value) (r_paces : Value) (r_stuck : Value) (r_hirers : Value) (r_places : Value) (r_cameAt : Value) (r_cooked : Value) (r_inside : Int32) (r_night : Int32) (r_minute : Int32) (r_tasted : Int32) (r_lastCook : Int32) (r_stirred : Int32) (t_names : Value) (t_kinds : Value) (t_yards : Value) (t_paces : Value) (t_skills : Value) (t_snow : Value) (t_law : Value) (t_bend : Int32) (t_hour : Int32) (t_bendTold : Int32) (t_hourTold : Int32) : Met l yX4_pass wsX4_pass ({ frames := 4, cells := 0, slots := 0, locals := 280 }) (va_Pc [.ref r, .ref t] (kz_Pre D k [(r, kO 4 [r_yards, r_paces, r_stuck, r_hirers, r_places, r_cameAt, r_cooked, .int r_inside, .int r_night, .int r_minute, .int r_tasted, .int r_lastCook, .int r_stirred]), (t, kO 7 [t_names, t_kinds, t_yards, t_paces, t_skills, t_snow, t_law, .int 0, .int 0, .int t_bend, .int t_hour, .int t_bendTold, .int t_hourTold])] sz)) (va_Qi (fun (rr : Int32) (uu : Unit) => rr = (-1)) (fun uu zt => kz_B D (va_A [(r, kO 4 [r_yards, r_paces, r_stuck, r_hirers, r_places, r_cameAt, r_cooked, .int r_inside, .int r_night, .int r_minute, .int r_tasted, .int r_lastCook, .int r_stirred]), (t, kO 7 [t_names, t_kinds, t_yards, t_paces, t_skills, t_snow, t_law, .int 0, .int 0, .int t_bend, .int t_hour, .int t_bendTold, .int t_hourTold])] sz) [(r, kO 4 [r_yards, r_paces, r_stuck, r_hirers, r_places, r_cameAt, r_cooked, .int r_inside, .int r_night, .int (r_minute + 1), .int r_tasted, .int r_lastCook, .int 0]), (t, kO 7 [t_names, t_kinds, t_yards, t_paces, t_skills, t_snow, t_law, .int 0, .int 0, .int t_bend, .int t_hour, .int t_bendTold, .int t_hourTold])] zt) (va_A [(r, kO 4 [r_yards, r_paces, r_stuck, r_hirers, r_places, r_cameAt, r_cooked, .int r_inside, .int r_night, .int r_minute, .int r_tasted, .int r_lastCook, .int r_stirred]), (t, kO 7 [t_names, t_kinds, t_yards, t_paces, t_skills, t_snow, t_law, .int 0, .int 0, .int t_bend, .int t_hour, .int t_bendTold, .int t_hourTold])] sz)) 0 0 (va_A [(r, kO 4 [r_yards, r_paces, r_stuck, r_hirers, r_places, r_cameAt, r_cooked, .int r_inside, .int r_night, .int r_minute, .int r_tasted, .int r_lastCook, .int r_stirred]), (t, kO 7 [t_names, t_kinds, t_yards, t_paces, t_skills, t_snow, t_law, .int 0, .int 0, .int t_bend, .int t_hour, .int t_bendTold, .int t_hourTold])] sz) := by
  refine Met.ofW (cc := cX4_pass) (maxL := 2) (ret := (some .int)) (by decide) rfl ?_
  intro p e s m args below meth c s₁ B hml hv
  obtain ⟨hav, hsz, hP, hK, hD0, hE⟩ := hv
  have hx := B.exec
  have hb := B.bytes
  have hr := B.returns
  have hts := atoms_spec (ws := wsX4_pass) B.pre
  have hown : s.vm.findClass RX4 = some m.cls := findClass_of_methodNamed B.named
  have hlocks := B.notSynchronized
  have hi4 : ∀ w ∈ u_ws RX4 TX4 13, w ∈ wsX4_pass := by decide +kernel
  have lf47 := hts (.fieldLink RX4 47 "LastCook$Road" "minute" "I") (by decide +kernel)
  subst hsz
  have hD := hD0.self (sz := s.heap.size)
  generalize hAe : va_A [(r, kO 4 [r_yards, r_paces, r_stuck, r_hirers, r_places, r_cameAt, r_cooked, .int r_inside, .int r_night, .int r_minute, .int r_tasted, .int r_lastCook, .int r_stirred]), (t, kO 7 [t_names, t_kinds, t_yards, t_paces, t_skills, t_snow, t_law, .int 0, .int 0, .int t_bend, .int t_hour, .int t_bendTold, .int t_hourTold])] s.heap.size = A at hD ⊢
  have hA : ∀ q : Nat, s.heap.size ≤ q → A q := fun q h => by rw [← hAe]; exact Or.inr h
  have hS : va_S A s.heap s.heap [] := va_S.rf
  have hl := lv_entry ([.ref r, .ref t]) (n := 2) (Nat.le_of_ble_eq_true rfl)
  rw [show entryFrame m args 2 = entryFrame m ([.ref r, .ref t] : List Value).toArray 2 by rw [hav], lg_entry_eq]
  generalize (lg_sl ([.ref r, .ref t]) ++ List.replicate (2 - (lg_sl ([.ref r, .ref t])).length) Slot.unset).toArray = ls at hl ⊢
  have hl : lv_has ls 2 [(0, .ref r), (1, .ref t)] := hl
  obtain ⟨R, hR⟩ : ∃ R, R = (headSpec wsX4_pass ({ frames := 4, cells := 0, slots := 0, locals := 280 } : Room)).room := ⟨_, rfl⟩
  rw [← hR]
  generalize hQ : MQ below _ args s 0 0 A = Q
  replace hQ := hQ.symm
  obtain ⟨H, hH⟩ : ∃ H, H = s.heap := ⟨_, rfl⟩
  rw [← hH] at hP ⊢
  have hS : va_S A s.heap H [] := by rw [hH]; exact hS
  refine lv_aload_n hx hb dX4_pass_0 rfl (lv_at hl 0 rfl) ?_
  refine lv_aload_n hx hb dX4_pass_1 rfl (lv_at hl 1 rfl) ?_
  refine lv_aload_n hx hb dX4_pass_2 rfl (lv_at hl 1 rfl) ?_
  refine lv_aload_n hx hb dX4_pass_3 rfl (lv_at hl 0 rfl) ?_
  refine va_get (D := D) (ci := 4) (v := .int r_minute) (C := RX4) (T := TX4) (N := 13) hx hb hts hi4 hown hK hP 0 rfl rfl 9 (by decide) lf47 (fun _ h9 => h9) rfl dX4_pass_4 ?_
  refine kz_Vi (As := [.int r_minute]) (rest := [.ref t, .ref r]) (wc := [(t, kO 7 [t_names, t_kinds, t_yards, t_paces, t_skills, t_snow, t_law, .int 0, .int 0, .int t_bend, .int t_hour, .int t_bendTold, .int t_hourTold])]) (wr := [(r, kO 4 [r_yards, r_paces, r_stuck, r_hirers, r_places, r_cameAt, r_cooked, .int r_inside, .int r_night, .int r_minute, .int r_tasted, .int r_lastCook, .int r_stirred])]) ⟨hx, hb, hml, hown, hts⟩ hK hE hP hD hS hA (mX7_snowAt l D k H.size t r_minute t_names t_kinds t_yards t_paces t_skills t_snow t_law 0 t_bend t_hour t_bendTold t_hourTold) (cwV 1 hts gX4_pass_X7_snowAt rfl rfl rfl (by decide +kernel) (by rw [hR]; exact ⟨Nat.le_of_ble_eq_true rfl, Nat.le_of_ble_eq_true rfl⟩)) [1] [0] rfl rfl (by decide) (by decide) (by decide) 0 rfl rfl rfl hl.1 rfl (Nat.le_of_ble_eq_true rfl) dX4_pass_7 (by rw [hR]; exact ⟨Nat.le_of_ble_eq_true rfl, Nat.le_of_ble_eq_true rfl⟩) (fun r1 u1 H locs hw1 hP hD hS => ?_)
  try dsimp only at hw1
  obtain rfl : r1 = 0 := hw1
  have hP : va_P D vwCl [(r, kO 4 [r_yards, r_paces, r_stuck, r_hirers, r_places, r_cameAt, r_cooked, .int r_inside, .int r_night, .int r_minute, .int r_tasted, .int r_lastCook, .int r_stirred]), (t, kO 7 [t_names, t_kinds, t_yards, t_paces, t_skills, t_snow, t_law, .int 0, .int 0, .int t_bend, .int t_hour, .int t_bendTold, .int t_hourTold])] H := hP
  have hD : va_D A [(r, kO 4 [r_yards, r_paces, r_stuck, r_hirers, r_places, r_cameAt, r_cooked, .int r_inside, .int r_night, .int r_minute, .int r_tasted, .int r_lastCook, .int r_stirred]), (t, kO 7 [t_names, t_kinds, t_yards, t_paces, t_skills, t_snow, t_law, .int 0, .int 0, .int t_bend, .int t_hour, .int t_bendTold, .int t_hourTold])] := hD
  refine kz_Vi (As := [.ref t, .int 0]) (rest := []) (wc := [(r, kO 4 [r_yards, r_paces, r_stuck, r_hirers, r_places, r_cameAt, r_cooked, .int r_inside, .int r_night, .int r_minute, .int r_tasted, .int r_lastCook, .int r_stirred]), (t, kO 7 [t_names, t_kinds, t_yards, t_paces, t_skills, t_snow, t_law, .int 0, .int 0, .int t_bend, .int t_hour, .int t_bendTold, .int t_hourTold])]) (wr := []) ⟨hx, hb, hml, hown, hts⟩ hK hE hP hD hS hA (mX4_passBySnow l D k H.size r t 0 r_yards r_paces r_stuck r_hirers r_places r_cameAt r_cooked r_inside r_night r_minute r_tasted r_lastCook r_stirred t_names t_kinds t_yards t_paces t_skills t_snow t_law t_bend t_hour t_bendTold t_hourTold) (cwV 2 hts gX4_pass_X4_passBySnow rfl rfl rfl (by decide +kernel) (by rw [hR]; exact ⟨Nat.le_of_ble_eq_true rfl, Nat.le_of_ble_eq_true rfl⟩)) [0, 1] [] rfl rfl (by decide) (by decide) (by decide) 0 rfl rfl rfl hl.1 rfl (Nat.le_of_ble_eq_true rfl) dX4_pass_10 (by rw [hR]; exact ⟨Nat.le_of_ble_eq_true rfl, Nat.le_of_ble_eq_true rfl⟩) (fun r2 u2 H locs hw2 hP hD hS => ?_)
  try dsimp only at hw2
  obtain rfl : r2 = (-1) := hw2
  have hP : va_P D vwCl [(r, kO 4 [r_yards, r_paces, r_stuck, r_hirers, r_places, r_cameAt, r_cooked, .int r_inside, .int r_night, .int (r_minute + 1), .int r_tasted, .int r_lastCook, .int 0]), (t, kO 7 [t_names, t_kinds, t_yards, t_paces, t_skills, t_snow, t_law, .int 0, .int 0, .int t_bend, .int t_hour, .int t_bendTold, .int t_hourTold])] H := hP
  have hD : va_D A [(r, kO 4 [r_yards, r_paces, r_stuck, r_hirers, r_places, r_cameAt, r_cooked, .int r_inside, .int r_night, .int (r_minute + 1), .int r_tasted, .int r_lastCook, .int 0]), (t, kO 7 [t_names, t_kinds, t_yards, t_paces, t_skills, t_snow, t_law, .int 0, .int 0, .int t_bend, .int t_hour, .int t_bendTold, .int t_hourTold])] := hD
  rw [hQ]
  have hP9 := hP.sub (ws' := [(r, kO 4 [r_yards, r_paces, r_stuck, r_hirers, r_places, r_cameAt, r_cooked, .int r_inside, .int r_night, .int (r_minute + 1), .int r_tasted, .int r_lastCook, .int 0]), (t, kO 7 [t_names, t_kinds, t_yards, t_paces, t_skills, t_snow, t_law, .int 0, .int 0, .int t_bend, .int t_hour, .int t_bendTold, .int t_hourTold])]) [0, 1] rfl
  have hD9 := hD.sub (ws' := [(r, kO 4 [r_yards, r_paces, r_stuck, r_hirers, r_places, r_cameAt, r_cooked, .int r_inside, .int r_night, .int (r_minute + 1), .int r_tasted, .int r_lastCook, .int 0]), (t, kO 7 [t_names, t_kinds, t_yards, t_paces, t_skills, t_snow, t_law, .int 0, .int 0, .int t_bend, .int t_hour, .int t_bendTold, .int t_hourTold])]) [0, 1] (by decide) rfl
  exact W.iret (v := (-1)) hx hb hr (fun zt ht hW => ⟨⟨(-1), (), rfl, rfl, by rw [ht]; exact hP9, hD9⟩, hS.F ht⟩) hS.2.2 dX4_pass_13
