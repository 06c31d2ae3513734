theorem dX4_walk_0 : decode cX4_walk 0 = .ok (.aload_n 0, 1) := by decide +kernel
theorem dX4_walk_1 : decode cX4_walk 1 = .ok (.aload_n 1, 1) := by decide +kernel
theorem dX4_walk_2 : decode cX4_walk 2 = .ok (.invokevirtual 87, 3) := by decide +kernel
theorem dX4_walk_5 : decode cX4_walk 5 = .ok (.istore_n 3, 1) := by decide +kernel
theorem dX4_walk_6 : decode cX4_walk 6 = .ok (.aload_n 0, 1) := by decide +kernel
theorem dX4_walk_7 : decode cX4_walk 7 = .ok (.iconst 0, 1) := by decide +kernel
theorem dX4_walk_8 : decode cX4_walk 8 = .ok (.putfield 91, 3) := by decide +kernel
theorem dX4_walk_11 : decode cX4_walk 11 = .ok (.iconst 0, 1) := by decide +kernel
theorem dX4_walk_12 : decode cX4_walk 12 = .ok (.istore 4, 2) := by decide +kernel
theorem dX4_walk_14 : decode cX4_walk 14 = .ok (.iload 4, 2) := by decide +kernel
theorem dX4_walk_16 : decode cX4_walk 16 = .ok (.aload_n 1, 1) := by decide +kernel
theorem dX4_walk_17 : decode cX4_walk 17 = .ok (.getfield 53, 3) := by decide +kernel
theorem dX4_walk_20 : decode cX4_walk 20 = .ok (.if_icmp .ge 174, 3) := by decide +kernel
theorem dX4_walk_194 : decode cX4_walk 194 = .ok (.return_, 1) := by decide +kernel
set_option maxRecDepth 20000 in
theorem ggX4_walk_X4_holdingBack : GoodIn wsX4_walk wsX4_holdingBack := goodIn_r _ [22, 2, 23, 24, 15, 25, 26, 27, 21, 28, 29, 30, 31, 32, 4, 46, 47, 48, 49, 50, 51, 52, 53, 54, 55, 56, 57, 58, 33, 34, 35, 36, 37, 38, 39, 40, 41, 42, 43, 44, 45] rfl (by decide +kernel)
set_option maxRecDepth 20000 in
theorem gX4_walk_X4_holdingBack : GoodIn wsX4_walk (wsV RX4 87 RX4 yX4_holdingBack wsX4_holdingBack) := goodIn_app (goodIn_of _ (by decide +kernel)) ggX4_walk_X4_holdingBack
set_option maxHeartbeats 4000000 in
set_option maxRecDepth 100000 in
theorem mX4_walk (l : Launch) (D : va_G) (k : Nat → ClassId) (sz : Nat) (r : Nat) (t : Nat) (sn : Int32) (r_yards : Value) (r_paces : Value) (r_stuck : Value) (r_hirers : Value) (r_places : Value) (r_cameAt : Value) (r_cooked : Value) (r_inside : Int32) (r_night : Int32) (r_minute : Int32) (r_tasted : Int32) (r_lastCook : Int32) (r_stirred : Int32) (t_names : Value) (t_kinds : Value) (t_yards : Value) (t_paces : Value) (t_skills : Value) (t_snow : Value) (t_law : Value) (t_bend : Int32) (t_hour : Int32) (t_bendTold : Int32) (t_hourTold : Int32) : Met l yX4_walk wsX4_walk ({ frames := 2, cells := 0, slots := 0, locals := 140 }) (va_Pc [.ref r, .ref t, .int sn] (kz_Pre D k [(r, kO 4 [r_yards, r_paces, r_stuck, r_hirers, r_places, r_cameAt, r_cooked, .int r_inside, .int r_night, .int r_minute, .int r_tasted, .int r_lastCook, .int r_stirred]), (t, kO 7 [t_names, t_kinds, t_yards, t_paces, t_skills, t_snow, t_law, .int 0, .int 0, .int t_bend, .int t_hour, .int t_bendTold, .int t_hourTold])] sz)) (va_Qv (fun (uu : Unit) => True) (fun uu zt => kz_B D (va_A [(r, kO 4 [r_yards, r_paces, r_stuck, r_hirers, r_places, r_cameAt, r_cooked, .int r_inside, .int r_night, .int r_minute, .int r_tasted, .int r_lastCook, .int r_stirred]), (t, kO 7 [t_names, t_kinds, t_yards, t_paces, t_skills, t_snow, t_law, .int 0, .int 0, .int t_bend, .int t_hour, .int t_bendTold, .int t_hourTold])] sz) [(r, kO 4 [r_yards, r_paces, r_stuck, r_hirers, r_places, r_cameAt, r_cooked, .int r_inside, .int r_night, .int r_minute, .int r_tasted, .int r_lastCook, .int 0]), (t, kO 7 [t_names, t_kinds, t_yards, t_paces, t_skills, t_snow, t_law, .int 0, .int 0, .int t_bend, .int t_hour, .int t_bendTold, .int t_hourTold])] zt) (va_A [(r, kO 4 [r_yards, r_paces, r_stuck, r_hirers, r_places, r_cameAt, r_cooked, .int r_inside, .int r_night, .int r_minute, .int r_tasted, .int r_lastCook, .int r_stirred]), (t, kO 7 [t_names, t_kinds, t_yards, t_paces, t_skills, t_snow, t_law, .int 0, .int 0, .int t_bend, .int t_hour, .int t_bendTold, .int t_hourTold])] sz)) 0 0 (va_A [(r, kO 4 [r_yards, r_paces, r_stuck, r_hirers, r_places, r_cameAt, r_cooked, .int r_inside, .int r_night, .int r_minute, .int r_tasted, .int r_lastCook, .int r_stirred]), (t, kO 7 [t_names, t_kinds, t_yards, t_paces, t_skills, t_snow, t_law, .int 0, .int 0, .int t_bend, .int t_hour, .int t_bendTold, .int t_hourTold])] sz) := by
  refine Met.ofW (cc := cX4_walk) (maxL := 8) (ret := none) (by decide) rfl ?_
  intro p e s m args below meth c s₁ B hml hv
  obtain ⟨hav, hsz, hP, hK, hD0, hE⟩ := hv
  have hx := B.exec
  have hb := B.bytes
  have hr := B.returns
  have hts := atoms_spec (ws := wsX4_walk) B.pre
  have hown : s.vm.findClass RX4 = some m.cls := findClass_of_methodNamed B.named
  have hlocks := B.notSynchronized
  have hi4 : ∀ w ∈ u_ws RX4 TX4 13, w ∈ wsX4_walk := by decide +kernel
  have hi7 : ∀ w ∈ u_ws RX7 TX7 13, w ∈ wsX4_walk := by decide +kernel
  have lf91 := hts (.fieldLink RX4 91 "LastCook$Road" "stirred" "Z") (by decide +kernel)
  have lf53 := hts (.fieldLink RX4 53 "LastCook$Told" "guests" "I") (by decide +kernel)
  subst hsz
  have hD := hD0.self (sz := s.heap.size)
  generalize hAe : va_A [(r, kO 4 [r_yards, r_paces, r_stuck, r_hirers, r_places, r_cameAt, r_cooked, .int r_inside, .int r_night, .int r_minute, .int r_tasted, .int r_lastCook, .int r_stirred]), (t, kO 7 [t_names, t_kinds, t_yards, t_paces, t_skills, t_snow, t_law, .int 0, .int 0, .int t_bend, .int t_hour, .int t_bendTold, .int t_hourTold])] s.heap.size = A at hD ⊢
  have hA : ∀ q : Nat, s.heap.size ≤ q → A q := fun q h => by rw [← hAe]; exact Or.inr h
  have hS : va_S A s.heap s.heap [] := va_S.rf
  have hl := lv_entry ([.ref r, .ref t, .int sn]) (n := 8) (Nat.le_of_ble_eq_true rfl)
  rw [show entryFrame m args 8 = entryFrame m ([.ref r, .ref t, .int sn] : List Value).toArray 8 by rw [hav], lg_entry_eq]
  generalize (lg_sl ([.ref r, .ref t, .int sn]) ++ List.replicate (8 - (lg_sl ([.ref r, .ref t, .int sn])).length) Slot.unset).toArray = ls at hl ⊢
  have hl : lv_has ls 8 [(0, .ref r), (1, .ref t), (2, .int sn)] := hl
  obtain ⟨R, hR⟩ : ∃ R, R = (headSpec wsX4_walk ({ frames := 2, cells := 0, slots := 0, locals := 140 } : Room)).room := ⟨_, rfl⟩
  rw [← hR]
  generalize hQ : MQ below _ args s 0 0 A = Q
  replace hQ := hQ.symm
  obtain ⟨H, hH⟩ : ∃ H, H = s.heap := ⟨_, rfl⟩
  rw [← hH] at hP ⊢
  have hS : va_S A s.heap H [] := by rw [hH]; exact hS
  refine lv_aload_n hx hb dX4_walk_0 rfl (lv_at hl 0 rfl) ?_
  refine lv_aload_n hx hb dX4_walk_1 rfl (lv_at hl 1 rfl) ?_
  refine kz_Vi (As := [.ref t]) (rest := []) (wc := [(r, kO 4 [r_yards, r_paces, r_stuck, r_hirers, r_places, r_cameAt, r_cooked, .int r_inside, .int r_night, .int r_minute, .int r_tasted, .int r_lastCook, .int r_stirred]), (t, kO 7 [t_names, t_kinds, t_yards, t_paces, t_skills, t_snow, t_law, .int 0, .int 0, .int t_bend, .int t_hour, .int t_bendTold, .int t_hourTold])]) (wr := []) ⟨hx, hb, hml, hown, hts⟩ hK hE hP hD hS hA (mX4_holdingBack l D k H.size r t r_yards r_paces r_stuck r_hirers r_places r_cameAt r_cooked r_inside r_night r_minute r_tasted r_lastCook r_stirred t_names t_kinds t_yards t_paces t_skills t_snow t_law t_bend t_hour t_bendTold t_hourTold) (cwV 1 hts gX4_walk_X4_holdingBack rfl rfl rfl (by decide +kernel) (by rw [hR]; exact ⟨Nat.le_of_ble_eq_true rfl, Nat.le_of_ble_eq_true rfl⟩)) [0, 1] [] rfl rfl (by decide) (by decide) (by decide) 0 rfl rfl rfl hl.1 rfl (Nat.le_of_ble_eq_true rfl) dX4_walk_2 (by rw [hR]; exact ⟨Nat.le_of_ble_eq_true rfl, Nat.le_of_ble_eq_true rfl⟩) (fun r1 u1 H locs hw1 hP hD hS => ?_)
  try dsimp only at hw1
  obtain rfl : r1 = 0 := hw1
  have hP : va_P D vwCl [(r, kO 4 [r_yards, r_paces, r_stuck, r_hirers, r_places, r_cameAt, r_cooked, .int r_inside, .int r_night, .int r_minute, .int r_tasted, .int r_lastCook, .int r_stirred]), (t, kO 7 [t_names, t_kinds, t_yards, t_paces, t_skills, t_snow, t_law, .int 0, .int 0, .int t_bend, .int t_hour, .int t_bendTold, .int t_hourTold])] H := hP
  have hD : va_D A [(r, kO 4 [r_yards, r_paces, r_stuck, r_hirers, r_places, r_cameAt, r_cooked, .int r_inside, .int r_night, .int r_minute, .int r_tasted, .int r_lastCook, .int r_stirred]), (t, kO 7 [t_names, t_kinds, t_yards, t_paces, t_skills, t_snow, t_law, .int 0, .int 0, .int t_bend, .int t_hour, .int t_bendTold, .int t_hourTold])] := hD
  refine lv_istore_n (lv' := [(3, .int 0), (0, .ref r), (1, .ref t), (2, .int sn)]) hx hb dX4_walk_5 rfl hl (by decide) rfl (fun ls hl => ?_)
  refine lv_aload_n hx hb dX4_walk_6 rfl (lv_at hl 1 rfl) ?_
  refine lv_iconst (v := 0) hx hb dX4_walk_7 (by decide) ?_
  refine va_put (D := D) (ci := 4) (v := .int 0) (ty := .boolean) (C := RX4) (T := TX4) (N := 13) hx hb hts hi4 tyX4 tyX4_ok nmX4 hown hK hP hD hS 0 rfl rfl 12 (by decide) lf91 (fun _ h9 => h9) rfl (by decide +kernel) rfl rfl (Nat.le_of_ble_eq_true rfl) dX4_walk_8 (fun H locs hP hD hS => ?_)
  have hP : va_P D vwCl [(r, kO 4 [r_yards, r_paces, r_stuck, r_hirers, r_places, r_cameAt, r_cooked, .int r_inside, .int r_night, .int r_minute, .int r_tasted, .int r_lastCook, .int 0]), (t, kO 7 [t_names, t_kinds, t_yards, t_paces, t_skills, t_snow, t_law, .int 0, .int 0, .int t_bend, .int t_hour, .int t_bendTold, .int t_hourTold])] H := hP
  have hD : va_D A [(r, kO 4 [r_yards, r_paces, r_stuck, r_hirers, r_places, r_cameAt, r_cooked, .int r_inside, .int r_night, .int r_minute, .int r_tasted, .int r_lastCook, .int 0]), (t, kO 7 [t_names, t_kinds, t_yards, t_paces, t_skills, t_snow, t_law, .int 0, .int 0, .int t_bend, .int t_hour, .int t_bendTold, .int t_hourTold])] := hD
  refine lv_iconst (v := 0) hx hb dX4_walk_11 (by decide) ?_
  refine lv_istore (lv' := [(4, .int 0), (3, .int 0), (0, .ref r), (1, .ref t), (2, .int sn)]) hx hb dX4_walk_12 hl (by decide) rfl (fun ls hl => ?_)
  refine lv_iload hx hb dX4_walk_14 (lv_at hl 0 rfl) ?_
  refine lv_aload_n hx hb dX4_walk_16 rfl (lv_at hl 3 rfl) ?_
  refine va_get (D := D) (ci := 7) (v := .int 0) (C := RX7) (T := TX7) (N := 13) hx hb hts hi7 hown hK hP 1 rfl rfl 7 (by decide) lf53 (fun _ h9 => h9) rfl dX4_walk_17 ?_
  refine lv_icmp_ge (tgt := 194) hx hb dX4_walk_20 (by decide) (fun c_2 => ?_) (fun c_2 => absurd (by decide) c_2)
  rw [hQ]
  have hP9 := hP.sub (ws' := [(r, kO 4 [r_yards, r_paces, r_stuck, r_hirers, r_places, r_cameAt, r_cooked, .int r_inside, .int r_night, .int r_minute, .int r_tasted, .int r_lastCook, .int 0]), (t, kO 7 [t_names, t_kinds, t_yards, t_paces, t_skills, t_snow, t_law, .int 0, .int 0, .int t_bend, .int t_hour, .int t_bendTold, .int t_hourTold])]) [0, 1] rfl
  have hD9 := hD.sub (ws' := [(r, kO 4 [r_yards, r_paces, r_stuck, r_hirers, r_places, r_cameAt, r_cooked, .int r_inside, .int r_night, .int r_minute, .int r_tasted, .int r_lastCook, .int 0]), (t, kO 7 [t_names, t_kinds, t_yards, t_paces, t_skills, t_snow, t_law, .int 0, .int 0, .int t_bend, .int t_hour, .int t_bendTold, .int t_hourTold])]) [0, 1] (by decide) rfl
  exact W.vret hx hb hr (fun zt ht hW => ⟨⟨(), rfl, trivial, by rw [ht]; exact hP9, hD9⟩, hS.F ht⟩) hS.2.2 dX4_walk_194
