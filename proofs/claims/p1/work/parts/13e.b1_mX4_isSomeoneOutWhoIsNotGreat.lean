theorem dX4_isSomeoneOutWhoIsNotGreat_0 : decode cX4_isSomeoneOutWhoIsNotGreat 0 = .ok (.iconst 0, 1) := by decide +kernel
theorem dX4_isSomeoneOutWhoIsNotGreat_1 : decode cX4_isSomeoneOutWhoIsNotGreat 1 = .ok (.istore_n 2, 1) := by decide +kernel
theorem dX4_isSomeoneOutWhoIsNotGreat_2 : decode cX4_isSomeoneOutWhoIsNotGreat 2 = .ok (.iload_n 2, 1) := by decide +kernel
theorem dX4_isSomeoneOutWhoIsNotGreat_3 : decode cX4_isSomeoneOutWhoIsNotGreat 3 = .ok (.aload_n 1, 1) := by decide +kernel
theorem dX4_isSomeoneOutWhoIsNotGreat_4 : decode cX4_isSomeoneOutWhoIsNotGreat 4 = .ok (.getfield 53, 3) := by decide +kernel
theorem dX4_isSomeoneOutWhoIsNotGreat_7 : decode cX4_isSomeoneOutWhoIsNotGreat 7 = .ok (.if_icmp .ge 29, 3) := by decide +kernel
theorem dX4_isSomeoneOutWhoIsNotGreat_36 : decode cX4_isSomeoneOutWhoIsNotGreat 36 = .ok (.iconst 0, 1) := by decide +kernel
theorem dX4_isSomeoneOutWhoIsNotGreat_37 : decode cX4_isSomeoneOutWhoIsNotGreat 37 = .ok (.ireturn, 1) := by decide +kernel
set_option maxHeartbeats 4000000 in
set_option maxRecDepth 100000 in
theorem mX4_isSomeoneOutWhoIsNotGreat (l : Launch) (D : va_G) (k : Nat → ClassId) (sz : Nat) (r : Nat) (t : Nat) (r_yards : Value) (r_paces : Value) (r_stuck : Value) (r_hirers : Value) (r_places : Value) (r_cameAt : Value) (r_cooked : Value) (r_inside : Int32) (r_night : Int32) (r_minute : Int32) (r_tasted : Int32) (r_lastCook : Int32) (r_stirred : Int32) (t_names : Value) (t_kinds : Value) (t_yards : Value) (t_paces : Value) (t_skills : Value) (t_snow : Value) (t_law : Value) (t_bend : Int32) (t_hour : Int32) (t_bendTold : Int32) (t_hourTold : Int32) : Met l yX4_isSomeoneOutWhoIsNotGreat wsX4_isSomeoneOutWhoIsNotGreat ({ frames := 0, cells := 0, slots := 0, locals := 0 }) (va_Pc [.ref r, .ref t] (kz_Pre D k [(r, kO 4 [r_yards, r_paces, r_stuck, r_hirers, r_places, r_cameAt, r_cooked, .int r_inside, .int r_night, .int r_minute, .int r_tasted, .int r_lastCook, .int r_stirred]), (t, kO 7 [t_names, t_kinds, t_yards, t_paces, t_skills, t_snow, t_law, .int 0, .int 0, .int t_bend, .int t_hour, .int t_bendTold, .int t_hourTold])] sz)) (va_Qi (fun (rr : Int32) (uu : Unit) => rr = 0) (fun uu zt => kz_B D (va_A [(r, kO 4 [r_yards, r_paces, r_stuck, r_hirers, r_places, r_cameAt, r_cooked, .int r_inside, .int r_night, .int r_minute, .int r_tasted, .int r_lastCook, .int r_stirred]), (t, kO 7 [t_names, t_kinds, t_yards, t_paces, t_skills, t_snow, t_law, .int 0, .int 0, .int t_bend, .int t_hour, .int t_bendTold, .int t_hourTold])] sz) [(r, kO 4 [r_yards, r_paces, r_stuck, r_hirers, r_places, r_cameAt, r_cooked, .int r_inside, .int r_night, .int r_minute, .int r_tasted, .int r_lastCook, .int r_stirred]), (t, kO 7 [t_names, t_kinds, t_yards, t_paces, t_skills, t_snow, t_law, .int 0, .int 0, .int t_bend, .int t_hour, .int t_bendTold, .int t_hourTold])] zt) (va_A [(r, kO 4 [r_yards, r_paces, r_stuck, r_hirers, r_places, r_cameAt, r_cooked, .int r_inside, .int r_night, .int r_minute, .int r_tasted, .int r_lastCook, .int r_stirred]), (t, kO 7 [t_names, t_kinds, t_yards, t_paces, t_skills, t_snow, t_law, .int 0, .int 0, .int t_bend, .int t_hour, .int t_bendTold, .int t_hourTold])] sz)) 0 0 (va_A [(r, kO 4 [r_yards, r_paces, r_stuck, r_hirers, r_places, r_cameAt, r_cooked, .int r_inside, .int r_night, .int r_minute, .int r_tasted, .int r_lastCook, .int r_stirred]), (t, kO 7 [t_names, t_kinds, t_yards, t_paces, t_skills, t_snow, t_law, .int 0, .int 0, .int t_bend, .int t_hour, .int t_bendTold, .int t_hourTold])] sz) := by
  refine Met.ofW (cc := cX4_isSomeoneOutWhoIsNotGreat) (maxL := 3) (ret := (some .boolean)) (by decide) rfl ?_
  intro p e s m args below meth c s₁ B hml hv
  obtain ⟨hav, hsz, hP, hK, hD0, hE⟩ := hv
  have hx := B.exec
  have hb := B.bytes
  have hr := B.returns
  have hts := atoms_spec (ws := wsX4_isSomeoneOutWhoIsNotGreat) B.pre
  have hown : s.vm.findClass RX4 = some m.cls := findClass_of_methodNamed B.named
  have hlocks := B.notSynchronized
  have hi7 : ∀ w ∈ u_ws RX7 TX7 13, w ∈ wsX4_isSomeoneOutWhoIsNotGreat := by decide +kernel
  have lf53 := hts (.fieldLink RX4 53 "LastCook$Told" "guests" "I") (by decide +kernel)
  subst hsz
  have hD := hD0.self (sz := s.heap.size)
  generalize hAe : va_A [(r, kO 4 [r_yards, r_paces, r_stuck, r_hirers, r_places, r_cameAt, r_cooked, .int r_inside, .int r_night, .int r_minute, .int r_tasted, .int r_lastCook, .int r_stirred]), (t, kO 7 [t_names, t_kinds, t_yards, t_paces, t_skills, t_snow, t_law, .int 0, .int 0, .int t_bend, .int t_hour, .int t_bendTold, .int t_hourTold])] s.heap.size = A at hD ⊢
  have hA : ∀ q : Nat, s.heap.size ≤ q → A q := fun q h => by rw [← hAe]; exact Or.inr h
  have hS : va_S A s.heap s.heap [] := va_S.rf
  have hl := lv_entry ([.ref r, .ref t]) (n := 3) (Nat.le_of_ble_eq_true rfl)
  rw [show entryFrame m args 3 = entryFrame m ([.ref r, .ref t] : List Value).toArray 3 by rw [hav], lg_entry_eq]
  generalize (lg_sl ([.ref r, .ref t]) ++ List.replicate (3 - (lg_sl ([.ref r, .ref t])).length) Slot.unset).toArray = ls at hl ⊢
  have hl : lv_has ls 3 [(0, .ref r), (1, .ref t)] := hl
  obtain ⟨R, hR⟩ : ∃ R, R = (headSpec wsX4_isSomeoneOutWhoIsNotGreat ({ frames := 0, cells := 0, slots := 0, locals := 0 } : Room)).room := ⟨_, rfl⟩
  rw [← hR]
  generalize hQ : MQ below _ args s 0 0 A = Q
  replace hQ := hQ.symm
  obtain ⟨H, hH⟩ : ∃ H, H = s.heap := ⟨_, rfl⟩
  rw [← hH] at hP ⊢
  have hS : va_S A s.heap H [] := by rw [hH]; exact hS
  refine lv_iconst (v := 0) hx hb dX4_isSomeoneOutWhoIsNotGreat_0 (by decide) ?_
  refine lv_istore_n (lv' := [(2, .int 0), (0, .ref r), (1, .ref t)]) hx hb dX4_isSomeoneOutWhoIsNotGreat_1 rfl hl (by decide) rfl (fun ls hl => ?_)
  refine lv_iload_n hx hb dX4_isSomeoneOutWhoIsNotGreat_2 rfl (lv_at hl 0 rfl) ?_
  refine lv_aload_n hx hb dX4_isSomeoneOutWhoIsNotGreat_3 rfl (lv_at hl 2 rfl) ?_
  refine va_get (D := D) (ci := 7) (v := .int 0) (C := RX7) (T := TX7) (N := 13) hx hb hts hi7 hown hK hP 1 rfl rfl 7 (by decide) lf53 (fun _ h9 => h9) rfl dX4_isSomeoneOutWhoIsNotGreat_4 ?_
  refine lv_icmp_ge (tgt := 36) hx hb dX4_isSomeoneOutWhoIsNotGreat_7 (by decide) (fun c_1 => ?_) (fun c_1 => absurd (by decide) c_1)
  refine lv_iconst (v := 0) hx hb dX4_isSomeoneOutWhoIsNotGreat_36 (by decide) ?_
  rw [hQ]
  have hP9 := hP.sub (ws' := [(r, kO 4 [r_yards, r_paces, r_stuck, r_hirers, r_places, r_cameAt, r_cooked, .int r_inside, .int r_night, .int r_minute, .int r_tasted, .int r_lastCook, .int r_stirred]), (t, kO 7 [t_names, t_kinds, t_yards, t_paces, t_skills, t_snow, t_law, .int 0, .int 0, .int t_bend, .int t_hour, .int t_bendTold, .int t_hourTold])]) [0, 1] rfl
  have hD9 := hD.sub (ws' := [(r, kO 4 [r_yards, r_paces, r_stuck, r_hirers, r_places, r_cameAt, r_cooked, .int r_inside, .int r_night, .int r_minute, .int r_tasted, .int r_lastCook, .int r_stirred]), (t, kO 7 [t_names, t_kinds, t_yards, t_paces, t_skills, t_snow, t_law, .int 0, .int 0, .int t_bend, .int t_hour, .int t_bendTold, .int t_hourTold])]) [0, 1] (by decide) rfl
  exact W.zret (v := 0) hx hb hr rfl (fun zt ht hW => ⟨⟨0, (), rfl, rfl, by rw [ht]; exact hP9, hD9⟩, hS.F ht⟩) hS.2.2 dX4_isSomeoneOutWhoIsNotGreat_37
