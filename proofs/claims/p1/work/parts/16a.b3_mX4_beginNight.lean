theorem dX4_beginNight_0 : decode cX4_beginNight 0 = .ok (.aload_n 0, 1) := by decide +kernel
theorem dX4_beginNight_1 : decode cX4_beginNight 1 = .ok (.iconst 0, 1) := by decide +kernel
theorem dX4_beginNight_2 : decode cX4_beginNight 2 = .ok (.putfield 47, 3) := by decide +kernel
theorem dX4_beginNight_5 : decode cX4_beginNight 5 = .ok (.aload_n 0, 1) := by decide +kernel
theorem dX4_beginNight_6 : decode cX4_beginNight 6 = .ok (.iconst 0, 1) := by decide +kernel
theorem dX4_beginNight_7 : decode cX4_beginNight 7 = .ok (.putfield 50, 3) := by decide +kernel
theorem dX4_beginNight_10 : decode cX4_beginNight 10 = .ok (.iconst 0, 1) := by decide +kernel
theorem dX4_beginNight_11 : decode cX4_beginNight 11 = .ok (.istore_n 2, 1) := by decide +kernel
theorem dX4_beginNight_12 : decode cX4_beginNight 12 = .ok (.iload_n 2, 1) := by decide +kernel
theorem dX4_beginNight_13 : decode cX4_beginNight 13 = .ok (.bipush 6, 2) := by decide +kernel
theorem dX4_beginNight_15 : decode cX4_beginNight 15 = .ok (.if_icmp .ge 91, 3) := by decide +kernel
theorem dX4_beginNight_18 : decode cX4_beginNight 18 = .ok (.iload_n 2, 1) := by decide +kernel
theorem dX4_beginNight_19 : decode cX4_beginNight 19 = .ok (.aload_n 1, 1) := by decide +kernel
theorem dX4_beginNight_20 : decode cX4_beginNight 20 = .ok (.getfield 53, 3) := by decide +kernel
theorem dX4_beginNight_23 : decode cX4_beginNight 23 = .ok (.if_icmp .ge 7, 3) := by decide +kernel
theorem dX4_beginNight_30 : decode cX4_beginNight 30 = .ok (.iconst 0, 1) := by decide +kernel
theorem dX4_beginNight_31 : decode cX4_beginNight 31 = .ok (.istore_n 3, 1) := by decide +kernel
theorem dX4_beginNight_32 : decode cX4_beginNight 32 = .ok (.aload_n 0, 1) := by decide +kernel
theorem dX4_beginNight_33 : decode cX4_beginNight 33 = .ok (.getfield 9, 3) := by decide +kernel
theorem dX4_beginNight_36 : decode cX4_beginNight 36 = .ok (.iload_n 2, 1) := by decide +kernel
theorem dX4_beginNight_37 : decode cX4_beginNight 37 = .ok (.iload_n 3, 1) := by decide +kernel
theorem dX4_beginNight_38 : decode cX4_beginNight 38 = .ok (.ifCond .eq 12, 3) := by decide +kernel
theorem dX4_beginNight_50 : decode cX4_beginNight 50 = .ok (.iconst 0, 1) := by decide +kernel
theorem dX4_beginNight_51 : decode cX4_beginNight 51 = .ok (.iastore, 1) := by decide +kernel
theorem dX4_beginNight_52 : decode cX4_beginNight 52 = .ok (.aload_n 0, 1) := by decide +kernel
theorem dX4_beginNight_53 : decode cX4_beginNight 53 = .ok (.getfield 15, 3) := by decide +kernel
theorem dX4_beginNight_56 : decode cX4_beginNight 56 = .ok (.iload_n 2, 1) := by decide +kernel
theorem dX4_beginNight_57 : decode cX4_beginNight 57 = .ok (.iload_n 3, 1) := by decide +kernel
theorem dX4_beginNight_58 : decode cX4_beginNight 58 = .ok (.ifCond .eq 12, 3) := by decide +kernel
theorem dX4_beginNight_70 : decode cX4_beginNight 70 = .ok (.iconst 0, 1) := by decide +kernel
theorem dX4_beginNight_71 : decode cX4_beginNight 71 = .ok (.iastore, 1) := by decide +kernel
theorem dX4_beginNight_72 : decode cX4_beginNight 72 = .ok (.aload_n 0, 1) := by decide +kernel
theorem dX4_beginNight_73 : decode cX4_beginNight 73 = .ok (.getfield 18, 3) := by decide +kernel
theorem dX4_beginNight_76 : decode cX4_beginNight 76 = .ok (.iload_n 2, 1) := by decide +kernel
theorem dX4_beginNight_77 : decode cX4_beginNight 77 = .ok (.iconst 0, 1) := by decide +kernel
theorem dX4_beginNight_78 : decode cX4_beginNight 78 = .ok (.iastore, 1) := by decide +kernel
theorem dX4_beginNight_79 : decode cX4_beginNight 79 = .ok (.aload_n 0, 1) := by decide +kernel
theorem dX4_beginNight_80 : decode cX4_beginNight 80 = .ok (.getfield 21, 3) := by decide +kernel
theorem dX4_beginNight_83 : decode cX4_beginNight 83 = .ok (.iload_n 2, 1) := by decide +kernel
theorem dX4_beginNight_84 : decode cX4_beginNight 84 = .ok (.iconst (-1), 1) := by decide +kernel
theorem dX4_beginNight_85 : decode cX4_beginNight 85 = .ok (.iastore, 1) := by decide +kernel
theorem dX4_beginNight_86 : decode cX4_beginNight 86 = .ok (.aload_n 0, 1) := by decide +kernel
theorem dX4_beginNight_87 : decode cX4_beginNight 87 = .ok (.getfield 24, 3) := by decide +kernel
theorem dX4_beginNight_90 : decode cX4_beginNight 90 = .ok (.iload_n 2, 1) := by decide +kernel
theorem dX4_beginNight_91 : decode cX4_beginNight 91 = .ok (.iconst (-1), 1) := by decide +kernel
theorem dX4_beginNight_92 : decode cX4_beginNight 92 = .ok (.iastore, 1) := by decide +kernel
theorem dX4_beginNight_93 : decode cX4_beginNight 93 = .ok (.aload_n 0, 1) := by decide +kernel
theorem dX4_beginNight_94 : decode cX4_beginNight 94 = .ok (.getfield 27, 3) := by decide +kernel
theorem dX4_beginNight_97 : decode cX4_beginNight 97 = .ok (.iload_n 2, 1) := by decide +kernel
theorem dX4_beginNight_98 : decode cX4_beginNight 98 = .ok (.iconst (-1), 1) := by decide +kernel
theorem dX4_beginNight_99 : decode cX4_beginNight 99 = .ok (.iastore, 1) := by decide +kernel
theorem dX4_beginNight_100 : decode cX4_beginNight 100 = .ok (.iinc 2 1, 3) := by decide +kernel
theorem dX4_beginNight_103 : decode cX4_beginNight 103 = .ok (.goto (-91), 3) := by decide +kernel
theorem dX4_beginNight_106 : decode cX4_beginNight 106 = .ok (.return_, 1) := by decide +kernel
set_option maxHeartbeats 4000000 in
set_option maxRecDepth 100000 in
theorem mX4_beginNight (l : Launch) (D : va_G) (k : Nat → ClassId) (sz : Nat) (r : Nat) (td : Nat) (r0 : Nat) (r1 : Nat) (r2 : Nat) (r3 : Nat) (r4 : Nat) (r5 : Nat) (r6 : Nat) (r_inside : Int32) (r_night : Int32) (r_minute : Int32) (r_tasted : Int32) (r_lastCook : Int32) (r_stirred : Int32) (f0 : Nat → Int32) (f1 : Nat → Int32) (f2 : Nat → Int32) (f3 : Nat → Int32) (f4 : Nat → Int32) (f5 : Nat → Int32) (td_names : Value) (td_kinds : Value) (td_yards : Value) (td_paces : Value) (td_skills : Value) (td_snow : Value) (td_law : Value) (td_snows : Int32) (td_bend : Int32) (td_hour : Int32) (td_bendTold : Int32) (td_hourTold : Int32) : Met l yX4_beginNight wsX4_beginNight ({ frames := 0, cells := 0, slots := 0, locals := 0 }) (va_Pc [.ref r, .ref td] (kz_Pre D k [(r, kO 4 [.ref r0, .ref r1, .ref r2, .ref r3, .ref r4, .ref r5, .ref r6, .int r_inside, .int r_night, .int r_minute, .int r_tasted, .int r_lastCook, .int r_stirred]), (r0, kI k 6 f0), (r1, kI k 6 f1), (r2, kI k 6 f2), (r3, kI k 6 f3), (r4, kI k 6 f4), (r5, kI k 6 f5), (td, kO 7 [td_names, td_kinds, td_yards, td_paces, td_skills, td_snow, td_law, .int 0, .int td_snows, .int td_bend, .int td_hour, .int td_bendTold, .int td_hourTold])] sz)) (va_Qv (fun (uu : (Nat → Int32) × (Nat → Int32) × (Nat → Int32) × (Nat → Int32) × (Nat → Int32) × (Nat → Int32)) => True) (fun uu zt => kz_B D (va_A [(r, kO 4 [.ref r0, .ref r1, .ref r2, .ref r3, .ref r4, .ref r5, .ref r6, .int r_inside, .int r_night, .int r_minute, .int r_tasted, .int r_lastCook, .int r_stirred]), (r0, kI k 6 f0), (r1, kI k 6 f1), (r2, kI k 6 f2), (r3, kI k 6 f3), (r4, kI k 6 f4), (r5, kI k 6 f5), (td, kO 7 [td_names, td_kinds, td_yards, td_paces, td_skills, td_snow, td_law, .int 0, .int td_snows, .int td_bend, .int td_hour, .int td_bendTold, .int td_hourTold])] sz) [(r, kO 4 [.ref r0, .ref r1, .ref r2, .ref r3, .ref r4, .ref r5, .ref r6, .int 0, .int r_night, .int 0, .int r_tasted, .int r_lastCook, .int r_stirred]), (r0, kI k 6 uu.1), (r1, kI k 6 uu.2.1), (r2, kI k 6 uu.2.2.1), (r3, kI k 6 uu.2.2.2.1), (r4, kI k 6 uu.2.2.2.2.1), (r5, kI k 6 uu.2.2.2.2.2), (td, kO 7 [td_names, td_kinds, td_yards, td_paces, td_skills, td_snow, td_law, .int 0, .int td_snows, .int td_bend, .int td_hour, .int td_bendTold, .int td_hourTold])] zt) (va_A [(r, kO 4 [.ref r0, .ref r1, .ref r2, .ref r3, .ref r4, .ref r5, .ref r6, .int r_inside, .int r_night, .int r_minute, .int r_tasted, .int r_lastCook, .int r_stirred]), (r0, kI k 6 f0), (r1, kI k 6 f1), (r2, kI k 6 f2), (r3, kI k 6 f3), (r4, kI k 6 f4), (r5, kI k 6 f5), (td, kO 7 [td_names, td_kinds, td_yards, td_paces, td_skills, td_snow, td_law, .int 0, .int td_snows, .int td_bend, .int td_hour, .int td_bendTold, .int td_hourTold])] sz)) 0 0 (va_A [(r, kO 4 [.ref r0, .ref r1, .ref r2, .ref r3, .ref r4, .ref r5, .ref r6, .int r_inside, .int r_night, .int r_minute, .int r_tasted, .int r_lastCook, .int r_stirred]), (r0, kI k 6 f0), (r1, kI k 6 f1), (r2, kI k 6 f2), (r3, kI k 6 f3), (r4, kI k 6 f4), (r5, kI k 6 f5), (td, kO 7 [td_names, td_kinds, td_yards, td_paces, td_skills, td_snow, td_law, .int 0, .int td_snows, .int td_bend, .int td_hour, .int td_bendTold, .int td_hourTold])] sz) := by
  refine Met.ofW (cc := cX4_beginNight) (maxL := 4) (ret := none) (by decide) rfl ?_
  intro p e s m args below meth c s₁ B hml hv
  obtain ⟨hav, hsz, hP, hK, hD0, hE⟩ := hv
  have hx := B.exec
  have hb := B.bytes
  have hr := B.returns
  have hts := atoms_spec (ws := wsX4_beginNight) B.pre
  have hown : s.vm.findClass RX4 = some m.cls := findClass_of_methodNamed B.named
  have hlocks := B.notSynchronized
  have hi4 : ∀ w ∈ u_ws RX4 TX4 13, w ∈ wsX4_beginNight := by decide +kernel
  have hi7 : ∀ w ∈ u_ws RX7 TX7 13, w ∈ wsX4_beginNight := by decide +kernel
  have lf47 := hts (.fieldLink RX4 47 "LastCook$Road" "minute" "I") (by decide +kernel)
  have lf50 := hts (.fieldLink RX4 50 "LastCook$Road" "inside" "I") (by decide +kernel)
  have lf53 := hts (.fieldLink RX4 53 "LastCook$Told" "guests" "I") (by decide +kernel)
  have lf9 := hts (.fieldLink RX4 9 "LastCook$Road" "yards" "[I") (by decide +kernel)
  have lf15 := hts (.fieldLink RX4 15 "LastCook$Road" "paces" "[I") (by decide +kernel)
  have lf18 := hts (.fieldLink RX4 18 "LastCook$Road" "stuck" "[I") (by decide +kernel)
  have lf21 := hts (.fieldLink RX4 21 "LastCook$Road" "hirers" "[I") (by decide +kernel)
  have lf24 := hts (.fieldLink RX4 24 "LastCook$Road" "places" "[I") (by decide +kernel)
  have lf27 := hts (.fieldLink RX4 27 "LastCook$Road" "cameAt" "[I") (by decide +kernel)
  subst hsz
  have hD := hD0.self (sz := s.heap.size)
  generalize hAe : va_A [(r, kO 4 [.ref r0, .ref r1, .ref r2, .ref r3, .ref r4, .ref r5, .ref r6, .int r_inside, .int r_night, .int r_minute, .int r_tasted, .int r_lastCook, .int r_stirred]), (r0, kI k 6 f0), (r1, kI k 6 f1), (r2, kI k 6 f2), (r3, kI k 6 f3), (r4, kI k 6 f4), (r5, kI k 6 f5), (td, kO 7 [td_names, td_kinds, td_yards, td_paces, td_skills, td_snow, td_law, .int 0, .int td_snows, .int td_bend, .int td_hour, .int td_bendTold, .int td_hourTold])] s.heap.size = A at hD ⊢
  have hA : ∀ q : Nat, s.heap.size ≤ q → A q := fun q h => by rw [← hAe]; exact Or.inr h
  have hS : va_S A s.heap s.heap [] := va_S.rf
  have hl := lv_entry ([.ref r, .ref td]) (n := 4) (Nat.le_of_ble_eq_true rfl)
  rw [show entryFrame m args 4 = entryFrame m ([.ref r, .ref td] : List Value).toArray 4 by rw [hav], lg_entry_eq]
  generalize (lg_sl ([.ref r, .ref td]) ++ List.replicate (4 - (lg_sl ([.ref r, .ref td])).length) Slot.unset).toArray = ls at hl ⊢
  have hl : lv_has ls 4 [(0, .ref r), (1, .ref td)] := hl
  obtain ⟨R, hR⟩ : ∃ R, R = (headSpec wsX4_beginNight ({ frames := 0, cells := 0, slots := 0, locals := 0 } : Room)).room := ⟨_, rfl⟩
  rw [← hR]
  generalize hQ : MQ below _ args s 0 0 A = Q
  replace hQ := hQ.symm
  obtain ⟨H, hH⟩ : ∃ H, H = s.heap := ⟨_, rfl⟩
  rw [← hH] at hP ⊢
  have hS : va_S A s.heap H [] := by rw [hH]; exact hS
  refine lv_aload_n hx hb dX4_beginNight_0 rfl (lv_at hl 0 rfl) ?_
  refine lv_iconst (v := 0) hx hb dX4_beginNight_1 (by decide) ?_
  refine va_put (D := D) (ci := 4) (v := .int 0) (ty := .int) (C := RX4) (T := TX4) (N := 13) hx hb hts hi4 tyX4 tyX4_ok nmX4 hown hK hP hD hS 0 rfl rfl 9 (by decide) lf47 (fun _ h9 => h9) rfl (by decide +kernel) rfl rfl (Nat.le_of_ble_eq_true rfl) dX4_beginNight_2 (fun H locs hP hD hS => ?_)
  have hP : va_P D vwCl [(r, kO 4 [.ref r0, .ref r1, .ref r2, .ref r3, .ref r4, .ref r5, .ref r6, .int r_inside, .int r_night, .int 0, .int r_tasted, .int r_lastCook, .int r_stirred]), (r0, kI k 6 f0), (r1, kI k 6 f1), (r2, kI k 6 f2), (r3, kI k 6 f3), (r4, kI k 6 f4), (r5, kI k 6 f5), (td, kO 7 [td_names, td_kinds, td_yards, td_paces, td_skills, td_snow, td_law, .int 0, .int td_snows, .int td_bend, .int td_hour, .int td_bendTold, .int td_hourTold])] H := hP
  have hD : va_D A [(r, kO 4 [.ref r0, .ref r1, .ref r2, .ref r3, .ref r4, .ref r5, .ref r6, .int r_inside, .int r_night, .int 0, .int r_tasted, .int r_lastCook, .int r_stirred]), (r0, kI k 6 f0), (r1, kI k 6 f1), (r2, kI k 6 f2), (r3, kI k 6 f3), (r4, kI k 6 f4), (r5, kI k 6 f5), (td, kO 7 [td_names, td_kinds, td_yards, td_paces, td_skills, td_snow, td_law, .int 0, .int td_snows, .int td_bend, .int td_hour, .int td_bendTold, .int td_hourTold])] := hD
  refine lv_aload_n hx hb dX4_beginNight_5 rfl (lv_at hl 0 rfl) ?_
  refine lv_iconst (v := 0) hx hb dX4_beginNight_6 (by decide) ?_
  refine va_put (D := D) (ci := 4) (v := .int 0) (ty := .int) (C := RX4) (T := TX4) (N := 13) hx hb hts hi4 tyX4 tyX4_ok nmX4 hown hK hP hD hS 0 rfl rfl 7 (by decide) lf50 (fun _ h9 => h9) rfl (by decide +kernel) rfl rfl (Nat.le_of_ble_eq_true rfl) dX4_beginNight_7 (fun H locs hP hD hS => ?_)
  have hP : va_P D vwCl [(r, kO 4 [.ref r0, .ref r1, .ref r2, .ref r3, .ref r4, .ref r5, .ref r6, .int 0, .int r_night, .int 0, .int r_tasted, .int r_lastCook, .int r_stirred]), (r0, kI k 6 f0), (r1, kI k 6 f1), (r2, kI k 6 f2), (r3, kI k 6 f3), (r4, kI k 6 f4), (r5, kI k 6 f5), (td, kO 7 [td_names, td_kinds, td_yards, td_paces, td_skills, td_snow, td_law, .int 0, .int td_snows, .int td_bend, .int td_hour, .int td_bendTold, .int td_hourTold])] H := hP
  have hD : va_D A [(r, kO 4 [.ref r0, .ref r1, .ref r2, .ref r3, .ref r4, .ref r5, .ref r6, .int 0, .int r_night, .int 0, .int r_tasted, .int r_lastCook, .int r_stirred]), (r0, kI k 6 f0), (r1, kI k 6 f1), (r2, kI k 6 f2), (r3, kI k 6 f3), (r4, kI k 6 f4), (r5, kI k 6 f5), (td, kO 7 [td_names, td_kinds, td_yards, td_paces, td_skills, td_snow, td_law, .int 0, .int td_snows, .int td_bend, .int td_hour, .int td_bendTold, .int td_hourTold])] := hD
  refine lv_iconst (v := 0) hx hb dX4_beginNight_10 (by decide) ?_
  refine lv_istore_n (lv' := [(2, .int 0), (0, .ref r), (1, .ref td)]) hx hb dX4_beginNight_11 rfl hl (by decide) rfl (fun ls hl => ?_)
  have hloop12 : ∀ (n : Nat) (j : Nat) (h0 : Nat → Int32) (h1 : Nat → Int32) (h2 : Nat → Int32) (h3 : Nat → Int32) (h4 : Nat → Int32) (h5 : Nat → Int32), 6 - j < n → (j ≤ 6) → ∀ (H : Heap) (locs : List Loc) (ls : Array Slot), va_P D vwCl [(r, kO 4 [.ref r0, .ref r1, .ref r2, .ref r3, .ref r4, .ref r5, .ref r6, .int 0, .int r_night, .int 0, .int r_tasted, .int r_lastCook, .int r_stirred]), (r0, kI k 6 h0), (r1, kI k 6 h1), (r2, kI k 6 h2), (r3, kI k 6 h3), (r4, kI k 6 h4), (r5, kI k 6 h5), (td, kO 7 [td_names, td_kinds, td_yards, td_paces, td_skills, td_snow, td_law, .int 0, .int td_snows, .int td_bend, .int td_hour, .int td_bendTold, .int td_hourTold])] H → va_D A [(r, kO 4 [.ref r0, .ref r1, .ref r2, .ref r3, .ref r4, .ref r5, .ref r6, .int 0, .int r_night, .int 0, .int r_tasted, .int r_lastCook, .int r_stirred]), (r0, kI k 6 h0), (r1, kI k 6 h1), (r2, kI k 6 h2), (r3, kI k 6 h3), (r4, kI k 6 h4), (r5, kI k 6 h5), (td, kO 7 [td_names, td_kinds, td_yards, td_paces, td_skills, td_snow, td_law, .int 0, .int td_snows, .int td_bend, .int td_hour, .int td_bendTold, .int td_hourTold])] → va_S A s.heap H locs → lv_has ls 4 [(2, .int (nI j)), (0, .ref r), (1, .ref td)] → W p l e R s m args below meth c H locs 0 0 Q (F0 m 12 ls []) := by
    intro n12
    induction n12 with
    | zero => intro j h0 h1 h2 h3 h4 h5 hm; exact absurd hm (Nat.not_lt_zero _)
    | succ n12 ih12 =>
      intro j h0 h1 h2 h3 h4 h5 hm12 hj H locs ls hP hD hS hl
      refine lv_iload_n hx hb dX4_beginNight_12 rfl (lv_at hl 0 rfl) ?_
      refine lv_bipush (v := 6) hx hb dX4_beginNight_13 (by decide) ?_
      refine lv_icmp_ge (tgt := 106) hx hb dX4_beginNight_15 (by decide) (fun c_1 => ?_) (fun c_1 => ?_)
      · skip
        have k_1 : 6 ≤ j := (nI_leI (a := 6) (b := j) (by omega) (by omega)).mp c_1
        rw [hQ]
        have hP9 := hP.sub (ws' := [(r, kO 4 [.ref r0, .ref r1, .ref r2, .ref r3, .ref r4, .ref r5, .ref r6, .int 0, .int r_night, .int 0, .int r_tasted, .int r_lastCook, .int r_stirred]), (r0, kI k 6 h0), (r1, kI k 6 h1), (r2, kI k 6 h2), (r3, kI k 6 h3), (r4, kI k 6 h4), (r5, kI k 6 h5), (td, kO 7 [td_names, td_kinds, td_yards, td_paces, td_skills, td_snow, td_law, .int 0, .int td_snows, .int td_bend, .int td_hour, .int td_bendTold, .int td_hourTold])]) [0, 1, 2, 3, 4, 5, 6, 7] rfl
        have hD9 := hD.sub (ws' := [(r, kO 4 [.ref r0, .ref r1, .ref r2, .ref r3, .ref r4, .ref r5, .ref r6, .int 0, .int r_night, .int 0, .int r_tasted, .int r_lastCook, .int r_stirred]), (r0, kI k 6 h0), (r1, kI k 6 h1), (r2, kI k 6 h2), (r3, kI k 6 h3), (r4, kI k 6 h4), (r5, kI k 6 h5), (td, kO 7 [td_names, td_kinds, td_yards, td_paces, td_skills, td_snow, td_law, .int 0, .int td_snows, .int td_bend, .int td_hour, .int td_bendTold, .int td_hourTold])]) [0, 1, 2, 3, 4, 5, 6, 7] (by decide) rfl
        exact W.vret hx hb hr (fun zt ht hW => ⟨⟨⟨h0, h1, h2, h3, h4, h5⟩, rfl, trivial, by rw [ht]; exact hP9, hD9⟩, hS.F ht⟩) hS.2.2 dX4_beginNight_106
      · skip
        have k_1 : ¬ (6 ≤ j) := fun h => c_1 ((nI_leI (a := 6) (b := j) (by omega) (by omega)).mpr h)
        refine lv_iload_n hx hb dX4_beginNight_18 rfl (lv_at hl 0 rfl) ?_
        refine lv_aload_n hx hb dX4_beginNight_19 rfl (lv_at hl 2 rfl) ?_
        refine va_get (D := D) (ci := 7) (v := .int 0) (C := RX7) (T := TX7) (N := 13) hx hb hts hi7 hown hK hP 7 rfl rfl 7 (by decide) lf53 (fun _ h9 => h9) rfl dX4_beginNight_20 ?_
        refine lv_icmp_ge (tgt := 30) hx hb dX4_beginNight_23 (by decide) (fun c_2 => ?_) (fun c_2 => absurd (nI_pos' (by omega)) c_2)
        refine lv_iconst (v := 0) hx hb dX4_beginNight_30 (by decide) ?_
        refine lv_istore_n (lv' := [(3, .int 0), (2, .int (nI j)), (0, .ref r), (1, .ref td)]) hx hb dX4_beginNight_31 rfl hl (by decide) rfl (fun ls hl => ?_)
        refine lv_aload_n hx hb dX4_beginNight_32 rfl (lv_at hl 2 rfl) ?_
        refine va_get (D := D) (ci := 4) (v := .ref r0) (C := RX4) (T := TX4) (N := 13) hx hb hts hi4 hown hK hP 0 rfl rfl 0 (by decide) lf9 (fun _ h9 => h9) rfl dX4_beginNight_33 ?_
        refine lv_iload_n hx hb dX4_beginNight_36 rfl (lv_at hl 1 rfl) ?_
        refine lv_iload_n hx hb dX4_beginNight_37 rfl (lv_at hl 0 rfl) ?_
        refine lv_if_eq (tgt := 50) hx hb dX4_beginNight_38 (by decide) (fun c_3 => ?_) (fun c_3 => absurd (by decide) c_3)
        refine lv_iconst (v := 0) hx hb dX4_beginNight_50 (by decide) ?_
        refine va_iast hx hb hK hP hD hS 1 0 rfl rfl (vp_in_nI (n := j) (by omega) (by omega)) dX4_beginNight_51 (fun H locs hP hD hS => ?_)
        have hP : va_P D vwCl [(r, kO 4 [.ref r0, .ref r1, .ref r2, .ref r3, .ref r4, .ref r5, .ref r6, .int 0, .int r_night, .int 0, .int r_tasted, .int r_lastCook, .int r_stirred]), (r0, kI k 6 (upd h0 (Int32.toNatClampNeg (nI j)) 0)), (r1, kI k 6 h1), (r2, kI k 6 h2), (r3, kI k 6 h3), (r4, kI k 6 h4), (r5, kI k 6 h5), (td, kO 7 [td_names, td_kinds, td_yards, td_paces, td_skills, td_snow, td_law, .int 0, .int td_snows, .int td_bend, .int td_hour, .int td_bendTold, .int td_hourTold])] H := hP
        have hD : va_D A [(r, kO 4 [.ref r0, .ref r1, .ref r2, .ref r3, .ref r4, .ref r5, .ref r6, .int 0, .int r_night, .int 0, .int r_tasted, .int r_lastCook, .int r_stirred]), (r0, kI k 6 (upd h0 (Int32.toNatClampNeg (nI j)) 0)), (r1, kI k 6 h1), (r2, kI k 6 h2), (r3, kI k 6 h3), (r4, kI k 6 h4), (r5, kI k 6 h5), (td, kO 7 [td_names, td_kinds, td_yards, td_paces, td_skills, td_snow, td_law, .int 0, .int td_snows, .int td_bend, .int td_hour, .int td_bendTold, .int td_hourTold])] := hD
        refine lv_aload_n hx hb dX4_beginNight_52 rfl (lv_at hl 2 rfl) ?_
        refine va_get (D := D) (ci := 4) (v := .ref r1) (C := RX4) (T := TX4) (N := 13) hx hb hts hi4 hown hK hP 0 rfl rfl 1 (by decide) lf15 (fun _ h9 => h9) rfl dX4_beginNight_53 ?_
        refine lv_iload_n hx hb dX4_beginNight_56 rfl (lv_at hl 1 rfl) ?_
        refine lv_iload_n hx hb dX4_beginNight_57 rfl (lv_at hl 0 rfl) ?_
        refine lv_if_eq (tgt := 70) hx hb dX4_beginNight_58 (by decide) (fun c_4 => ?_) (fun c_4 => absurd (by decide) c_4)
        refine lv_iconst (v := 0) hx hb dX4_beginNight_70 (by decide) ?_
        refine va_iast hx hb hK hP hD hS 2 0 rfl rfl (vp_in_nI (n := j) (by omega) (by omega)) dX4_beginNight_71 (fun H locs hP hD hS => ?_)
        have hP : va_P D vwCl [(r, kO 4 [.ref r0, .ref r1, .ref r2, .ref r3, .ref r4, .ref r5, .ref r6, .int 0, .int r_night, .int 0, .int r_tasted, .int r_lastCook, .int r_stirred]), (r0, kI k 6 (upd h0 (Int32.toNatClampNeg (nI j)) 0)), (r1, kI k 6 (upd h1 (Int32.toNatClampNeg (nI j)) 0)), (r2, kI k 6 h2), (r3, kI k 6 h3), (r4, kI k 6 h4), (r5, kI k 6 h5), (td, kO 7 [td_names, td_kinds, td_yards, td_paces, td_skills, td_snow, td_law, .int 0, .int td_snows, .int td_bend, .int td_hour, .int td_bendTold, .int td_hourTold])] H := hP
        have hD : va_D A [(r, kO 4 [.ref r0, .ref r1, .ref r2, .ref r3, .ref r4, .ref r5, .ref r6, .int 0, .int r_night, .int 0, .int r_tasted, .int r_lastCook, .int r_stirred]), (r0, kI k 6 (upd h0 (Int32.toNatClampNeg (nI j)) 0)), (r1, kI k 6 (upd h1 (Int32.toNatClampNeg (nI j)) 0)), (r2, kI k 6 h2), (r3, kI k 6 h3), (r4, kI k 6 h4), (r5, kI k 6 h5), (td, kO 7 [td_names, td_kinds, td_yards, td_paces, td_skills, td_snow, td_law, .int 0, .int td_snows, .int td_bend, .int td_hour, .int td_bendTold, .int td_hourTold])] := hD
        refine lv_aload_n hx hb dX4_beginNight_72 rfl (lv_at hl 2 rfl) ?_
        refine va_get (D := D) (ci := 4) (v := .ref r2) (C := RX4) (T := TX4) (N := 13) hx hb hts hi4 hown hK hP 0 rfl rfl 2 (by decide) lf18 (fun _ h9 => h9) rfl dX4_beginNight_73 ?_
        refine lv_iload_n hx hb dX4_beginNight_76 rfl (lv_at hl 1 rfl) ?_
        refine lv_iconst (v := 0) hx hb dX4_beginNight_77 (by decide) ?_
        refine va_iast hx hb hK hP hD hS 3 0 rfl rfl (vp_in_nI (n := j) (by omega) (by omega)) dX4_beginNight_78 (fun H locs hP hD hS => ?_)
        have hP : va_P D vwCl [(r, kO 4 [.ref r0, .ref r1, .ref r2, .ref r3, .ref r4, .ref r5, .ref r6, .int 0, .int r_night, .int 0, .int r_tasted, .int r_lastCook, .int r_stirred]), (r0, kI k 6 (upd h0 (Int32.toNatClampNeg (nI j)) 0)), (r1, kI k 6 (upd h1 (Int32.toNatClampNeg (nI j)) 0)), (r2, kI k 6 (upd h2 (Int32.toNatClampNeg (nI j)) 0)), (r3, kI k 6 h3), (r4, kI k 6 h4), (r5, kI k 6 h5), (td, kO 7 [td_names, td_kinds, td_yards, td_paces, td_skills, td_snow, td_law, .int 0, .int td_snows, .int td_bend, .int td_hour, .int td_bendTold, .int td_hourTold])] H := hP
        have hD : va_D A [(r, kO 4 [.ref r0, .ref r1, .ref r2, .ref r3, .ref r4, .ref r5, .ref r6, .int 0, .int r_night, .int 0, .int r_tasted, .int r_lastCook, .int r_stirred]), (r0, kI k 6 (upd h0 (Int32.toNatClampNeg (nI j)) 0)), (r1, kI k 6 (upd h1 (Int32.toNatClampNeg (nI j)) 0)), (r2, kI k 6 (upd h2 (Int32.toNatClampNeg (nI j)) 0)), (r3, kI k 6 h3), (r4, kI k 6 h4), (r5, kI k 6 h5), (td, kO 7 [td_names, td_kinds, td_yards, td_paces, td_skills, td_snow, td_law, .int 0, .int td_snows, .int td_bend, .int td_hour, .int td_bendTold, .int td_hourTold])] := hD
        refine lv_aload_n hx hb dX4_beginNight_79 rfl (lv_at hl 2 rfl) ?_
        refine va_get (D := D) (ci := 4) (v := .ref r3) (C := RX4) (T := TX4) (N := 13) hx hb hts hi4 hown hK hP 0 rfl rfl 3 (by decide) lf21 (fun _ h9 => h9) rfl dX4_beginNight_80 ?_
        refine lv_iload_n hx hb dX4_beginNight_83 rfl (lv_at hl 1 rfl) ?_
        refine lv_iconst (v := (-1)) hx hb dX4_beginNight_84 (by decide) ?_
        refine va_iast hx hb hK hP hD hS 4 0 rfl rfl (vp_in_nI (n := j) (by omega) (by omega)) dX4_beginNight_85 (fun H locs hP hD hS => ?_)
        have hP : va_P D vwCl [(r, kO 4 [.ref r0, .ref r1, .ref r2, .ref r3, .ref r4, .ref r5, .ref r6, .int 0, .int r_night, .int 0, .int r_tasted, .int r_lastCook, .int r_stirred]), (r0, kI k 6 (upd h0 (Int32.toNatClampNeg (nI j)) 0)), (r1, kI k 6 (upd h1 (Int32.toNatClampNeg (nI j)) 0)), (r2, kI k 6 (upd h2 (Int32.toNatClampNeg (nI j)) 0)), (r3, kI k 6 (upd h3 (Int32.toNatClampNeg (nI j)) (-1))), (r4, kI k 6 h4), (r5, kI k 6 h5), (td, kO 7 [td_names, td_kinds, td_yards, td_paces, td_skills, td_snow, td_law, .int 0, .int td_snows, .int td_bend, .int td_hour, .int td_bendTold, .int td_hourTold])] H := hP
        have hD : va_D A [(r, kO 4 [.ref r0, .ref r1, .ref r2, .ref r3, .ref r4, .ref r5, .ref r6, .int 0, .int r_night, .int 0, .int r_tasted, .int r_lastCook, .int r_stirred]), (r0, kI k 6 (upd h0 (Int32.toNatClampNeg (nI j)) 0)), (r1, kI k 6 (upd h1 (Int32.toNatClampNeg (nI j)) 0)), (r2, kI k 6 (upd h2 (Int32.toNatClampNeg (nI j)) 0)), (r3, kI k 6 (upd h3 (Int32.toNatClampNeg (nI j)) (-1))), (r4, kI k 6 h4), (r5, kI k 6 h5), (td, kO 7 [td_names, td_kinds, td_yards, td_paces, td_skills, td_snow, td_law, .int 0, .int td_snows, .int td_bend, .int td_hour, .int td_bendTold, .int td_hourTold])] := hD
        refine lv_aload_n hx hb dX4_beginNight_86 rfl (lv_at hl 2 rfl) ?_
        refine va_get (D := D) (ci := 4) (v := .ref r4) (C := RX4) (T := TX4) (N := 13) hx hb hts hi4 hown hK hP 0 rfl rfl 4 (by decide) lf24 (fun _ h9 => h9) rfl dX4_beginNight_87 ?_
        refine lv_iload_n hx hb dX4_beginNight_90 rfl (lv_at hl 1 rfl) ?_
        refine lv_iconst (v := (-1)) hx hb dX4_beginNight_91 (by decide) ?_
        refine va_iast hx hb hK hP hD hS 5 0 rfl rfl (vp_in_nI (n := j) (by omega) (by omega)) dX4_beginNight_92 (fun H locs hP hD hS => ?_)
        have hP : va_P D vwCl [(r, kO 4 [.ref r0, .ref r1, .ref r2, .ref r3, .ref r4, .ref r5, .ref r6, .int 0, .int r_night, .int 0, .int r_tasted, .int r_lastCook, .int r_stirred]), (r0, kI k 6 (upd h0 (Int32.toNatClampNeg (nI j)) 0)), (r1, kI k 6 (upd h1 (Int32.toNatClampNeg (nI j)) 0)), (r2, kI k 6 (upd h2 (Int32.toNatClampNeg (nI j)) 0)), (r3, kI k 6 (upd h3 (Int32.toNatClampNeg (nI j)) (-1))), (r4, kI k 6 (upd h4 (Int32.toNatClampNeg (nI j)) (-1))), (r5, kI k 6 h5), (td, kO 7 [td_names, td_kinds, td_yards, td_paces, td_skills, td_snow, td_law, .int 0, .int td_snows, .int td_bend, .int td_hour, .int td_bendTold, .int td_hourTold])] H := hP
        have hD : va_D A [(r, kO 4 [.ref r0, .ref r1, .ref r2, .ref r3, .ref r4, .ref r5, .ref r6, .int 0, .int r_night, .int 0, .int r_tasted, .int r_lastCook, .int r_stirred]), (r0, kI k 6 (upd h0 (Int32.toNatClampNeg (nI j)) 0)), (r1, kI k 6 (upd h1 (Int32.toNatClampNeg (nI j)) 0)), (r2, kI k 6 (upd h2 (Int32.toNatClampNeg (nI j)) 0)), (r3, kI k 6 (upd h3 (Int32.toNatClampNeg (nI j)) (-1))), (r4, kI k 6 (upd h4 (Int32.toNatClampNeg (nI j)) (-1))), (r5, kI k 6 h5), (td, kO 7 [td_names, td_kinds, td_yards, td_paces, td_skills, td_snow, td_law, .int 0, .int td_snows, .int td_bend, .int td_hour, .int td_bendTold, .int td_hourTold])] := hD
        refine lv_aload_n hx hb dX4_beginNight_93 rfl (lv_at hl 2 rfl) ?_
        refine va_get (D := D) (ci := 4) (v := .ref r5) (C := RX4) (T := TX4) (N := 13) hx hb hts hi4 hown hK hP 0 rfl rfl 5 (by decide) lf27 (fun _ h9 => h9) rfl dX4_beginNight_94 ?_
        refine lv_iload_n hx hb dX4_beginNight_97 rfl (lv_at hl 1 rfl) ?_
        refine lv_iconst (v := (-1)) hx hb dX4_beginNight_98 (by decide) ?_
        refine va_iast hx hb hK hP hD hS 6 0 rfl rfl (vp_in_nI (n := j) (by omega) (by omega)) dX4_beginNight_99 (fun H locs hP hD hS => ?_)
        have hP : va_P D vwCl [(r, kO 4 [.ref r0, .ref r1, .ref r2, .ref r3, .ref r4, .ref r5, .ref r6, .int 0, .int r_night, .int 0, .int r_tasted, .int r_lastCook, .int r_stirred]), (r0, kI k 6 (upd h0 (Int32.toNatClampNeg (nI j)) 0)), (r1, kI k 6 (upd h1 (Int32.toNatClampNeg (nI j)) 0)), (r2, kI k 6 (upd h2 (Int32.toNatClampNeg (nI j)) 0)), (r3, kI k 6 (upd h3 (Int32.toNatClampNeg (nI j)) (-1))), (r4, kI k 6 (upd h4 (Int32.toNatClampNeg (nI j)) (-1))), (r5, kI k 6 (upd h5 (Int32.toNatClampNeg (nI j)) (-1))), (td, kO 7 [td_names, td_kinds, td_yards, td_paces, td_skills, td_snow, td_law, .int 0, .int td_snows, .int td_bend, .int td_hour, .int td_bendTold, .int td_hourTold])] H := hP
        have hD : va_D A [(r, kO 4 [.ref r0, .ref r1, .ref r2, .ref r3, .ref r4, .ref r5, .ref r6, .int 0, .int r_night, .int 0, .int r_tasted, .int r_lastCook, .int r_stirred]), (r0, kI k 6 (upd h0 (Int32.toNatClampNeg (nI j)) 0)), (r1, kI k 6 (upd h1 (Int32.toNatClampNeg (nI j)) 0)), (r2, kI k 6 (upd h2 (Int32.toNatClampNeg (nI j)) 0)), (r3, kI k 6 (upd h3 (Int32.toNatClampNeg (nI j)) (-1))), (r4, kI k 6 (upd h4 (Int32.toNatClampNeg (nI j)) (-1))), (r5, kI k 6 (upd h5 (Int32.toNatClampNeg (nI j)) (-1))), (td, kO 7 [td_names, td_kinds, td_yards, td_paces, td_skills, td_snow, td_law, .int 0, .int td_snows, .int td_bend, .int td_hour, .int td_bendTold, .int td_hourTold])] := hD
        refine lv_iinc (v := (nI (j + 1))) (lv' := [(2, .int (nI (j + 1))), (3, .int 0), (0, .ref r), (1, .ref td)]) hx hb dX4_beginNight_100 hl (k := 1) rfl (nI_1 _) (by decide) rfl (fun ls hl => ?_)
        refine lv_goto (tgt := 12) hx hb dX4_beginNight_103 (by decide) ?_
        exact ih12 (j + 1) (upd h0 (Int32.toNatClampNeg (nI j)) 0) (upd h1 (Int32.toNatClampNeg (nI j)) 0) (upd h2 (Int32.toNatClampNeg (nI j)) 0) (upd h3 (Int32.toNatClampNeg (nI j)) (-1)) (upd h4 (Int32.toNatClampNeg (nI j)) (-1)) (upd h5 (Int32.toNatClampNeg (nI j)) (-1)) (by omega) (by omega) _ _ _ (hP.sub [0, 1, 2, 3, 4, 5, 6, 7] rfl) (hD.sub [0, 1, 2, 3, 4, 5, 6, 7] (by decide) rfl) hS (lv_sub hl [0, 2, 3] rfl)
  exact hloop12 ((6 - 0) + 1) 0 f0 f1 f2 f3 f4 f5 (Nat.lt_succ_self _) (by omega) _ _ _ (hP.sub [0, 1, 2, 3, 4, 5, 6, 7] rfl) (hD.sub [0, 1, 2, 3, 4, 5, 6, 7] (by decide) rfl) hS (lv_sub hl [0, 1, 2] rfl)
theorem dX4_begin_0 : decode cX4_begin 0 = .ok (.aload_n 0, 1) := by decide +kernel
theorem dX4_begin_1 : decode cX4_begin 1 = .ok (.iconst 0, 1) := by decide +kernel
theorem dX4_begin_2 : decode cX4_begin 2 = .ok (.putfield 37, 3) := by decide +kernel
theorem dX4_begin_5 : decode cX4_begin 5 = .ok (.aload_n 0, 1) := by decide +kernel
theorem dX4_begin_6 : decode cX4_begin 6 = .ok (.iconst 0, 1) := by decide +kernel
theorem dX4_begin_7 : decode cX4_begin 7 = .ok (.putfield 40, 3) := by decide +kernel
theorem dX4_begin_10 : decode cX4_begin 10 = .ok (.aload_n 0, 1) := by decide +kernel
theorem dX4_begin_11 : decode cX4_begin 11 = .ok (.iconst (-1), 1) := by decide +kernel
theorem dX4_begin_12 : decode cX4_begin 12 = .ok (.putfield 33, 3) := by decide +kernel
theorem dX4_begin_15 : decode cX4_begin 15 = .ok (.iconst 0, 1) := by decide +kernel
theorem dX4_begin_16 : decode cX4_begin 16 = .ok (.istore_n 2, 1) := by decide +kernel
theorem dX4_begin_17 : decode cX4_begin 17 = .ok (.iload_n 2, 1) := by decide +kernel
theorem dX4_begin_18 : decode cX4_begin 18 = .ok (.bipush 6, 2) := by decide +kernel
theorem dX4_begin_20 : decode cX4_begin 20 = .ok (.if_icmp .ge 16, 3) := by decide +kernel
theorem dX4_begin_23 : decode cX4_begin 23 = .ok (.aload_n 0, 1) := by decide +kernel
theorem dX4_begin_24 : decode cX4_begin 24 = .ok (.getfield 30, 3) := by decide +kernel
theorem dX4_begin_27 : decode cX4_begin 27 = .ok (.iload_n 2, 1) := by decide +kernel
theorem dX4_begin_28 : decode cX4_begin 28 = .ok (.iconst 0, 1) := by decide +kernel
theorem dX4_begin_29 : decode cX4_begin 29 = .ok (.iastore, 1) := by decide +kernel
theorem dX4_begin_30 : decode cX4_begin 30 = .ok (.iinc 2 1, 3) := by decide +kernel
theorem dX4_begin_33 : decode cX4_begin 33 = .ok (.goto (-16), 3) := by decide +kernel
theorem dX4_begin_36 : decode cX4_begin 36 = .ok (.aload_n 0, 1) := by decide +kernel
theorem dX4_begin_37 : decode cX4_begin 37 = .ok (.aload_n 1, 1) := by decide +kernel
theorem dX4_begin_38 : decode cX4_begin 38 = .ok (.invokevirtual 43, 3) := by decide +kernel
theorem dX4_begin_41 : decode cX4_begin 41 = .ok (.return_, 1) := by decide +kernel
set_option maxRecDepth 20000 in
theorem ggX4_begin_X4_beginNight : GoodIn wsX4_begin wsX4_beginNight := goodIn_r _ [9, 10, 11, 12, 13, 14, 15, 16, 17, 18, 19, 20, 21, 22, 23, 24, 25, 26, 27, 28, 29, 30, 31, 32, 33, 34, 35, 36, 37, 38, 39, 40, 41, 42, 43, 44, 45, 46] rfl (by decide +kernel)
set_option maxRecDepth 20000 in
theorem gX4_begin_X4_beginNight : GoodIn wsX4_begin (wsV RX4 43 RX4 yX4_beginNight wsX4_beginNight) := goodIn_app (goodIn_of _ (by decide +kernel)) ggX4_begin_X4_beginNight
set_option maxHeartbeats 4000000 in
set_option maxRecDepth 100000 in
theorem mX4_begin (l : Launch) (D : va_G) (k : Nat → ClassId) (sz : Nat) (r : Nat) (td : Nat) (r0 : Nat) (r1 : Nat) (r2 : Nat) (r3 : Nat) (r4 : Nat) (r5 : Nat) (r6 : Nat) (r_inside : Int32) (r_night : Int32) (r_minute : Int32) (r_tasted : Int32) (r_lastCook : Int32) (r_stirred : Int32) (f0 : Nat → Int32) (f1 : Nat → Int32) (f2 : Nat → Int32) (f3 : Nat → Int32) (f4 : Nat → Int32) (f5 : Nat → Int32) (f6 : Nat → Int32) (td_names : Value) (td_kinds : Value) (td_yards : Value) (td_paces : Value) (td_skills : Value) (td_snow : Value) (td_law : Value) (td_snows : Int32) (td_bend : Int32) (td_hour : Int32) (td_bendTold : Int32) (td_hourTold : Int32) : Met l yX4_begin wsX4_begin ({ frames := 1, cells := 0, slots := 0, locals := 70 }) (va_Pc [.ref r, .ref td] (kz_Pre D k [(r, kO 4 [.ref r0, .ref r1, .ref r2, .ref r3, .ref r4, .ref r5, .ref r6, .int r_inside, .int r_night, .int r_minute, .int r_tasted, .int r_lastCook, .int r_stirred]), (r0, kI k 6 f0), (r1, kI k 6 f1), (r2, kI k 6 f2), (r3, kI k 6 f3), (r4, kI k 6 f4), (r5, kI k 6 f5), (r6, kI k 6 f6), (td, kO 7 [td_names, td_kinds, td_yards, td_paces, td_skills, td_snow, td_law, .int 0, .int td_snows, .int td_bend, .int td_hour, .int td_bendTold, .int td_hourTold])] sz)) (va_Qv (fun (uu : (Nat → Int32) × (Nat → Int32) × (Nat → Int32) × (Nat → Int32) × (Nat → Int32) × (Nat → Int32) × (Nat → Int32)) => True) (fun uu zt => kz_B D (va_A [(r, kO 4 [.ref r0, .ref r1, .ref r2, .ref r3, .ref r4, .ref r5, .ref r6, .int r_inside, .int r_night, .int r_minute, .int r_tasted, .int r_lastCook, .int r_stirred]), (r0, kI k 6 f0), (r1, kI k 6 f1), (r2, kI k 6 f2), (r3, kI k 6 f3), (r4, kI k 6 f4), (r5, kI k 6 f5), (r6, kI k 6 f6), (td, kO 7 [td_names, td_kinds, td_yards, td_paces, td_skills, td_snow, td_law, .int 0, .int td_snows, .int td_bend, .int td_hour, .int td_bendTold, .int td_hourTold])] sz) [(r, kO 4 [.ref r0, .ref r1, .ref r2, .ref r3, .ref r4, .ref r5, .ref r6, .int 0, .int 0, .int 0, .int 0, .int (-1), .int r_stirred]), (r0, kI k 6 uu.1), (r1, kI k 6 uu.2.1), (r2, kI k 6 uu.2.2.1), (r3, kI k 6 uu.2.2.2.1), (r4, kI k 6 uu.2.2.2.2.1), (r5, kI k 6 uu.2.2.2.2.2.1), (r6, kI k 6 uu.2.2.2.2.2.2), (td, kO 7 [td_names, td_kinds, td_yards, td_paces, td_skills, td_snow, td_law, .int 0, .int td_snows, .int td_bend, .int td_hour, .int td_bendTold, .int td_hourTold])] zt) (va_A [(r, kO 4 [.ref r0, .ref r1, .ref r2, .ref r3, .ref r4, .ref r5, .ref r6, .int r_inside, .int r_night, .int r_minute, .int r_tasted, .int r_lastCook, .int r_stirred]), (r0, kI k 6 f0), (r1, kI k 6 f1), (r2, kI k 6 f2), (r3, kI k 6 f3), (r4, kI k 6 f4), (r5, kI k 6 f5), (r6, kI k 6 f6), (td, kO 7 [td_names, td_kinds, td_yards, td_paces, td_skills, td_snow, td_law, .int 0, .int td_snows, .int td_bend, .int td_hour, .int td_bendTold, .int td_hourTold])] sz)) 0 0 (va_A [(r, kO 4 [.ref r0, .ref r1, .ref r2, .ref r3, .ref r4, .ref r5, .ref r6, .int r_inside, .int r_night, .int r_minute, .int r_tasted, .int r_lastCook, .int r_stirred]), (r0, kI k 6 f0), (r1, kI k 6 f1), (r2, kI k 6 f2), (r3, kI k 6 f3), (r4, kI k 6 f4), (r5, kI k 6 f5), (r6, kI k 6 f6), (td, kO 7 [td_names, td_kinds, td_yards, td_paces, td_skills, td_snow, td_law, .int 0, .int td_snows, .int td_bend, .int td_hour, .int td_bendTold, .int td_hourTold])] sz) := by
  refine Met.ofW (cc := cX4_begin) (maxL := 3) (ret := none) (by decide) rfl ?_
  intro p e s m args below meth c s₁ B hml hv
  obtain ⟨hav, hsz, hP, hK, hD0, hE⟩ := hv
  have hx := B.exec
  have hb := B.bytes
  have hr := B.returns
  have hts := atoms_spec (ws := wsX4_begin) B.pre
  have hown : s.vm.findClass RX4 = some m.cls := findClass_of_methodNamed B.named
  have hlocks := B.notSynchronized
  have hi4 : ∀ w ∈ u_ws RX4 TX4 13, w ∈ wsX4_begin := by decide +kernel
  have lf37 := hts (.fieldLink RX4 37 "LastCook$Road" "night" "I") (by decide +kernel)
  have lf40 := hts (.fieldLink RX4 40 "LastCook$Road" "tasted" "I") (by decide +kernel)
  have lf33 := hts (.fieldLink RX4 33 "LastCook$Road" "lastCook" "I") (by decide +kernel)
  have lf30 := hts (.fieldLink RX4 30 "LastCook$Road" "cooked" "[I") (by decide +kernel)
  subst hsz
  have hD := hD0.self (sz := s.heap.size)
  generalize hAe : va_A [(r, kO 4 [.ref r0, .ref r1, .ref r2, .ref r3, .ref r4, .ref r5, .ref r6, .int r_inside, .int r_night, .int r_minute, .int r_tasted, .int r_lastCook, .int r_stirred]), (r0, kI k 6 f0), (r1, kI k 6 f1), (r2, kI k 6 f2), (r3, kI k 6 f3), (r4, kI k 6 f4), (r5, kI k 6 f5), (r6, kI k 6 f6), (td, kO 7 [td_names, td_kinds, td_yards, td_paces, td_skills, td_snow, td_law, .int 0, .int td_snows, .int td_bend, .int td_hour, .int td_bendTold, .int td_hourTold])] s.heap.size = A at hD ⊢
  have hA : ∀ q : Nat, s.heap.size ≤ q → A q := fun q h => by rw [← hAe]; exact Or.inr h
  have hS : va_S A s.heap s.heap [] := va_S.rf
  have hl := lv_entry ([.ref r, .ref td]) (n := 3) (Nat.le_of_ble_eq_true rfl)
  rw [show entryFrame m args 3 = entryFrame m ([.ref r, .ref td] : List Value).toArray 3 by rw [hav], lg_entry_eq]
  generalize (lg_sl ([.ref r, .ref td]) ++ List.replicate (3 - (lg_sl ([.ref r, .ref td])).length) Slot.unset).toArray = ls at hl ⊢
  have hl : lv_has ls 3 [(0, .ref r), (1, .ref td)] := hl
  obtain ⟨R, hR⟩ : ∃ R, R = (headSpec wsX4_begin ({ frames := 1, cells := 0, slots := 0, locals := 70 } : Room)).room := ⟨_, rfl⟩
  rw [← hR]
  generalize hQ : MQ below _ args s 0 0 A = Q
  replace hQ := hQ.symm
  obtain ⟨H, hH⟩ : ∃ H, H = s.heap := ⟨_, rfl⟩
  rw [← hH] at hP ⊢
  have hS : va_S A s.heap H [] := by rw [hH]; exact hS
  refine lv_aload_n hx hb dX4_begin_0 rfl (lv_at hl 0 rfl) ?_
  refine lv_iconst (v := 0) hx hb dX4_begin_1 (by decide) ?_
  refine va_put (D := D) (ci := 4) (v := .int 0) (ty := .int) (C := RX4) (T := TX4) (N := 13) hx hb hts hi4 tyX4 tyX4_ok nmX4 hown hK hP hD hS 0 rfl rfl 8 (by decide) lf37 (fun _ h9 => h9) rfl (by decide +kernel) rfl rfl (Nat.le_of_ble_eq_true rfl) dX4_begin_2 (fun H locs hP hD hS => ?_)
  have hP : va_P D vwCl [(r, kO 4 [.ref r0, .ref r1, .ref r2, .ref r3, .ref r4, .ref r5, .ref r6, .int r_inside, .int 0, .int r_minute, .int r_tasted, .int r_lastCook, .int r_stirred]), (r0, kI k 6 f0), (r1, kI k 6 f1), (r2, kI k 6 f2), (r3, kI k 6 f3), (r4, kI k 6 f4), (r5, kI k 6 f5), (r6, kI k 6 f6), (td, kO 7 [td_names, td_kinds, td_yards, td_paces, td_skills, td_snow, td_law, .int 0, .int td_snows, .int td_bend, .int td_hour, .int td_bendTold, .int td_hourTold])] H := hP
  have hD : va_D A [(r, kO 4 [.ref r0, .ref r1, .ref r2, .ref r3, .ref r4, .ref r5, .ref r6, .int r_inside, .int 0, .int r_minute, .int r_tasted, .int r_lastCook, .int r_stirred]), (r0, kI k 6 f0), (r1, kI k 6 f1), (r2, kI k 6 f2), (r3, kI k 6 f3), (r4, kI k 6 f4), (r5, kI k 6 f5), (r6, kI k 6 f6), (td, kO 7 [td_names, td_kinds, td_yards, td_paces, td_skills, td_snow, td_law, .int 0, .int td_snows, .int td_bend, .int td_hour, .int td_bendTold, .int td_hourTold])] := hD
  refine lv_aload_n hx hb dX4_begin_5 rfl (lv_at hl 0 rfl) ?_
  refine lv_iconst (v := 0) hx hb dX4_begin_6 (by decide) ?_
  refine va_put (D := D) (ci := 4) (v := .int 0) (ty := .int) (C := RX4) (T := TX4) (N := 13) hx hb hts hi4 tyX4 tyX4_ok nmX4 hown hK hP hD hS 0 rfl rfl 10 (by decide) lf40 (fun _ h9 => h9) rfl (by decide +kernel) rfl rfl (Nat.le_of_ble_eq_true rfl) dX4_begin_7 (fun H locs hP hD hS => ?_)
  have hP : va_P D vwCl [(r, kO 4 [.ref r0, .ref r1, .ref r2, .ref r3, .ref r4, .ref r5, .ref r6, .int r_inside, .int 0, .int r_minute, .int 0, .int r_lastCook, .int r_stirred]), (r0, kI k 6 f0), (r1, kI k 6 f1), (r2, kI k 6 f2), (r3, kI k 6 f3), (r4, kI k 6 f4), (r5, kI k 6 f5), (r6, kI k 6 f6), (td, kO 7 [td_names, td_kinds, td_yards, td_paces, td_skills, td_snow, td_law, .int 0, .int td_snows, .int td_bend, .int td_hour, .int td_bendTold, .int td_hourTold])] H := hP
  have hD : va_D A [(r, kO 4 [.ref r0, .ref r1, .ref r2, .ref r3, .ref r4, .ref r5, .ref r6, .int r_inside, .int 0, .int r_minute, .int 0, .int r_lastCook, .int r_stirred]), (r0, kI k 6 f0), (r1, kI k 6 f1), (r2, kI k 6 f2), (r3, kI k 6 f3), (r4, kI k 6 f4), (r5, kI k 6 f5), (r6, kI k 6 f6), (td, kO 7 [td_names, td_kinds, td_yards, td_paces, td_skills, td_snow, td_law, .int 0, .int td_snows, .int td_bend, .int td_hour, .int td_bendTold, .int td_hourTold])] := hD
  refine lv_aload_n hx hb dX4_begin_10 rfl (lv_at hl 0 rfl) ?_
  refine lv_iconst (v := (-1)) hx hb dX4_begin_11 (by decide) ?_
  refine va_put (D := D) (ci := 4) (v := .int (-1)) (ty := .int) (C := RX4) (T := TX4) (N := 13) hx hb hts hi4 tyX4 tyX4_ok nmX4 hown hK hP hD hS 0 rfl rfl 11 (by decide) lf33 (fun _ h9 => h9) rfl (by decide +kernel) rfl rfl (Nat.le_of_ble_eq_true rfl) dX4_begin_12 (fun H locs hP hD hS => ?_)
  have hP : va_P D vwCl [(r, kO 4 [.ref r0, .ref r1, .ref r2, .ref r3, .ref r4, .ref r5, .ref r6, .int r_inside, .int 0, .int r_minute, .int 0, .int (-1), .int r_stirred]), (r0, kI k 6 f0), (r1, kI k 6 f1), (r2, kI k 6 f2), (r3, kI k 6 f3), (r4, kI k 6 f4), (r5, kI k 6 f5), (r6, kI k 6 f6), (td, kO 7 [td_names, td_kinds, td_yards, td_paces, td_skills, td_snow, td_law, .int 0, .int td_snows, .int td_bend, .int td_hour, .int td_bendTold, .int td_hourTold])] H := hP
  have hD : va_D A [(r, kO 4 [.ref r0, .ref r1, .ref r2, .ref r3, .ref r4, .ref r5, .ref r6, .int r_inside, .int 0, .int r_minute, .int 0, .int (-1), .int r_stirred]), (r0, kI k 6 f0), (r1, kI k 6 f1), (r2, kI k 6 f2), (r3, kI k 6 f3), (r4, kI k 6 f4), (r5, kI k 6 f5), (r6, kI k 6 f6), (td, kO 7 [td_names, td_kinds, td_yards, td_paces, td_skills, td_snow, td_law, .int 0, .int td_snows, .int td_bend, .int td_hour, .int td_bendTold, .int td_hourTold])] := hD
  refine lv_iconst (v := 0) hx hb dX4_begin_15 (by decide) ?_
  refine lv_istore_n (lv' := [(2, .int 0), (0, .ref r), (1, .ref td)]) hx hb dX4_begin_16 rfl hl (by decide) rfl (fun ls hl => ?_)
  have hloop17 : ∀ (n : Nat) (j : Nat) (h6 : Nat → Int32), 6 - j < n → (j ≤ 6) → ∀ (H : Heap) (locs : List Loc) (ls : Array Slot), va_P D vwCl [(r, kO 4 [.ref r0, .ref r1, .ref r2, .ref r3, .ref r4, .ref r5, .ref r6, .int r_inside, .int 0, .int r_minute, .int 0, .int (-1), .int r_stirred]), (r0, kI k 6 f0), (r1, kI k 6 f1), (r2, kI k 6 f2), (r3, kI k 6 f3), (r4, kI k 6 f4), (r5, kI k 6 f5), (r6, kI k 6 h6), (td, kO 7 [td_names, td_kinds, td_yards, td_paces, td_skills, td_snow, td_law, .int 0, .int td_snows, .int td_bend, .int td_hour, .int td_bendTold, .int td_hourTold])] H → va_D A [(r, kO 4 [.ref r0, .ref r1, .ref r2, .ref r3, .ref r4, .ref r5, .ref r6, .int r_inside, .int 0, .int r_minute, .int 0, .int (-1), .int r_stirred]), (r0, kI k 6 f0), (r1, kI k 6 f1), (r2, kI k 6 f2), (r3, kI k 6 f3), (r4, kI k 6 f4), (r5, kI k 6 f5), (r6, kI k 6 h6), (td, kO 7 [td_names, td_kinds, td_yards, td_paces, td_skills, td_snow, td_law, .int 0, .int td_snows, .int td_bend, .int td_hour, .int td_bendTold, .int td_hourTold])] → va_S A s.heap H locs → lv_has ls 3 [(2, .int (nI j)), (0, .ref r), (1, .ref td)] → W p l e R s m args below meth c H locs 0 0 Q (F0 m 17 ls []) := by
    intro n17
    induction n17 with
    | zero => intro j h6 hm; exact absurd hm (Nat.not_lt_zero _)
    | succ n17 ih17 =>
      intro j h6 hm17 hj H locs ls hP hD hS hl
      refine lv_iload_n hx hb dX4_begin_17 rfl (lv_at hl 0 rfl) ?_
      refine lv_bipush (v := 6) hx hb dX4_begin_18 (by decide) ?_
      refine lv_icmp_ge (tgt := 36) hx hb dX4_begin_20 (by decide) (fun c_1 => ?_) (fun c_1 => ?_)
      · skip
        have k_1 : 6 ≤ j := (nI_leI (a := 6) (b := j) (by omega) (by omega)).mp c_1
        refine lv_aload_n hx hb dX4_begin_36 rfl (lv_at hl 1 rfl) ?_
        refine lv_aload_n hx hb dX4_begin_37 rfl (lv_at hl 2 rfl) ?_
        refine kz_Vv (As := [.ref td]) (rest := []) (wc := [(r, kO 4 [.ref r0, .ref r1, .ref r2, .ref r3, .ref r4, .ref r5, .ref r6, .int r_inside, .int 0, .int r_minute, .int 0, .int (-1), .int r_stirred]), (r0, kI k 6 f0), (r1, kI k 6 f1), (r2, kI k 6 f2), (r3, kI k 6 f3), (r4, kI k 6 f4), (r5, kI k 6 f5), (td, kO 7 [td_names, td_kinds, td_yards, td_paces, td_skills, td_snow, td_law, .int 0, .int td_snows, .int td_bend, .int td_hour, .int td_bendTold, .int td_hourTold])]) (wr := [(r6, kI k 6 h6)]) ⟨hx, hb, hml, hown, hts⟩ hK hE hP hD hS hA (mX4_beginNight l D k H.size r td r0 r1 r2 r3 r4 r5 r6 r_inside 0 r_minute 0 (-1) r_stirred f0 f1 f2 f3 f4 f5 td_names td_kinds td_yards td_paces td_skills td_snow td_law td_snows td_bend td_hour td_bendTold td_hourTold) (cwV 1 hts gX4_begin_X4_beginNight rfl rfl rfl (by decide +kernel) (by rw [hR]; exact ⟨Nat.le_of_ble_eq_true rfl, Nat.le_of_ble_eq_true rfl⟩)) [0, 1, 2, 3, 4, 5, 6, 8] [7] rfl rfl (by decide) (by decide) (by decide) 0 rfl rfl rfl hl.1 rfl (Nat.le_of_ble_eq_true rfl) dX4_begin_38 (by rw [hR]; exact ⟨Nat.le_of_ble_eq_true rfl, Nat.le_of_ble_eq_true rfl⟩) (fun u2 H locs hw2 hP hD hS => ?_)
        obtain ⟨g02, g12, g22, g32, g42, g52⟩ := u2
        have hP : va_P D vwCl [(r6, kI k 6 h6), (r, kO 4 [.ref r0, .ref r1, .ref r2, .ref r3, .ref r4, .ref r5, .ref r6, .int 0, .int 0, .int 0, .int 0, .int (-1), .int r_stirred]), (r0, kI k 6 g02), (r1, kI k 6 g12), (r2, kI k 6 g22), (r3, kI k 6 g32), (r4, kI k 6 g42), (r5, kI k 6 g52), (td, kO 7 [td_names, td_kinds, td_yards, td_paces, td_skills, td_snow, td_law, .int 0, .int td_snows, .int td_bend, .int td_hour, .int td_bendTold, .int td_hourTold])] H := hP
        have hD : va_D A [(r6, kI k 6 h6), (r, kO 4 [.ref r0, .ref r1, .ref r2, .ref r3, .ref r4, .ref r5, .ref r6, .int 0, .int 0, .int 0, .int 0, .int (-1), .int r_stirred]), (r0, kI k 6 g02), (r1, kI k 6 g12), (r2, kI k 6 g22), (r3, kI k 6 g32), (r4, kI k 6 g42), (r5, kI k 6 g52), (td, kO 7 [td_names, td_kinds, td_yards, td_paces, td_skills, td_snow, td_law, .int 0, .int td_snows, .int td_bend, .int td_hour, .int td_bendTold, .int td_hourTold])] := hD
        rw [hQ]
        have hP9 := hP.sub (ws' := [(r, kO 4 [.ref r0, .ref r1, .ref r2, .ref r3, .ref r4, .ref r5, .ref r6, .int 0, .int 0, .int 0, .int 0, .int (-1), .int r_stirred]), (r0, kI k 6 g02), (r1, kI k 6 g12), (r2, kI k 6 g22), (r3, kI k 6 g32), (r4, kI k 6 g42), (r5, kI k 6 g52), (r6, kI k 6 h6), (td, kO 7 [td_names, td_kinds, td_yards, td_paces, td_skills, td_snow, td_law, .int 0, .int td_snows, .int td_bend, .int td_hour, .int td_bendTold, .int td_hourTold])]) [1, 2, 3, 4, 5, 6, 7, 0, 8] rfl
        have hD9 := hD.sub (ws' := [(r, kO 4 [.ref r0, .ref r1, .ref r2, .ref r3, .ref r4, .ref r5, .ref r6, .int 0, .int 0, .int 0, .int 0, .int (-1), .int r_stirred]), (r0, kI k 6 g02), (r1, kI k 6 g12), (r2, kI k 6 g22), (r3, kI k 6 g32), (r4, kI k 6 g42), (r5, kI k 6 g52), (r6, kI k 6 h6), (td, kO 7 [td_names, td_kinds, td_yards, td_paces, td_skills, td_snow, td_law, .int 0, .int td_snows, .int td_bend, .int td_hour, .int td_bendTold, .int td_hourTold])]) [1, 2, 3, 4, 5, 6, 7, 0, 8] (by decide) rfl
        exact W.vret hx hb hr (fun zt ht hW => ⟨⟨⟨g02, g12, g22, g32, g42, g52, h6⟩, rfl, trivial, by rw [ht]; exact hP9, hD9⟩, hS.F ht⟩) hS.2.2 dX4_begin_41
      · skip
        have k_1 : ¬ (6 ≤ j) := fun h => c_1 ((nI_leI (a := 6) (b := j) (by omega) (by omega)).mpr h)
        refine lv_aload_n hx hb dX4_begin_23 rfl (lv_at hl 1 rfl) ?_
        refine va_get (D := D) (ci := 4) (v := .ref r6) (C := RX4) (T := TX4) (N := 13) hx hb hts hi4 hown hK hP 0 rfl rfl 6 (by decide) lf30 (fun _ h9 => h9) rfl dX4_begin_24 ?_
        refine lv_iload_n hx hb dX4_begin_27 rfl (lv_at hl 0 rfl) ?_
        refine lv_iconst (v := 0) hx hb dX4_begin_28 (by decide) ?_
        refine va_iast hx hb hK hP hD hS 7 0 rfl rfl (vp_in_nI (n := j) (by omega) (by omega)) dX4_begin_29 (fun H locs hP hD hS => ?_)
        have hP : va_P D vwCl [(r, kO 4 [.ref r0, .ref r1, .ref r2, .ref r3, .ref r4, .ref r5, .ref r6, .int r_inside, .int 0, .int r_minute, .int 0, .int (-1), .int r_stirred]), (r0, kI k 6 f0), (r1, kI k 6 f1), (r2, kI k 6 f2), (r3, kI k 6 f3), (r4, kI k 6 f4), (r5, kI k 6 f5), (r6, kI k 6 (upd h6 (Int32.toNatClampNeg (nI j)) 0)), (td, kO 7 [td_names, td_kinds, td_yards, td_paces, td_skills, td_snow, td_law, .int 0, .int td_snows, .int td_bend, .int td_hour, .int td_bendTold, .int td_hourTold])] H := hP
        have hD : va_D A [(r, kO 4 [.ref r0, .ref r1, .ref r2, .ref r3, .ref r4, .ref r5, .ref r6, .int r_inside, .int 0, .int r_minute, .int 0, .int (-1), .int r_stirred]), (r0, kI k 6 f0), (r1, kI k 6 f1), (r2, kI k 6 f2), (r3, kI k 6 f3), (r4, kI k 6 f4), (r5, kI k 6 f5), (r6, kI k 6 (upd h6 (Int32.toNatClampNeg (nI j)) 0)), (td, kO 7 [td_names, td_kinds, td_yards, td_paces, td_skills, td_snow, td_law, .int 0, .int td_snows, .int td_bend, .int td_hour, .int td_bendTold, .int td_hourTold])] := hD
        refine lv_iinc (v := (nI (j + 1))) (lv' := [(2, .int (nI (j + 1))), (0, .ref r), (1, .ref td)]) hx hb dX4_begin_30 hl (k := 0) rfl (nI_1 _) (by decide) rfl (fun ls hl => ?_)
        refine lv_goto (tgt := 17) hx hb dX4_begin_33 (by decide) ?_
        exact ih17 (j + 1) (upd h6 (Int32.toNatClampNeg (nI j)) 0) (by omega) (by omega) _ _ _ (hP.sub [0, 1, 2, 3, 4, 5, 6, 7, 8] rfl) (hD.sub [0, 1, 2, 3, 4, 5, 6, 7, 8] (by decide) rfl) hS (lv_sub hl [0, 1, 2] rfl)
  exact hloop17 ((6 - 0) + 1) 0 f6 (Nat.lt_succ_self _) (by omega) _ _ _ (hP.sub [0, 1, 2, 3, 4, 5, 6, 7, 8] rfl) (hD.sub [0, 1, 2, 3, 4, 5, 6, 7, 8] (by decide) rfl) hS (lv_sub hl [0, 1, 2] rfl)
theorem dX8_judged_0 : decode cX8_judged 0 = .ok (.iload_n 1, 1) := by decide +kernel
theorem dX8_judged_1 : decode cX8_judged 1 = .ok (.iconst 0, 1) := by decide +kernel
theorem dX8_judged_2 : decode cX8_judged 2 = .ok (.iconst 2, 1) := by decide +kernel
theorem dX8_judged_3 : decode cX8_judged 3 = .ok (.invokestatic 137, 3) := by decide +kernel
theorem dX8_judged_6 : decode cX8_judged 6 = .ok (.ifCond .ne 7, 3) := by decide +kernel
theorem dX8_judged_9 : decode cX8_judged 9 = .ok (.sipush (-1000), 3) := by decide +kernel
theorem dX8_judged_12 : decode cX8_judged 12 = .ok (.ireturn, 1) := by decide +kernel
theorem dX8_judged_13 : decode cX8_judged 13 = .ok (.aload_n 0, 1) := by decide +kernel
theorem dX8_judged_14 : decode cX8_judged 14 = .ok (.getfield 43, 3) := by decide +kernel
theorem dX8_judged_17 : decode cX8_judged 17 = .ok (.aload_n 0, 1) := by decide +kernel
theorem dX8_judged_18 : decode cX8_judged 18 = .ok (.getfield 19, 3) := by decide +kernel
theorem dX8_judged_21 : decode cX8_judged 21 = .ok (.invokevirtual 91, 3) := by decide +kernel
theorem dX8_judged_24 : decode cX8_judged 24 = .ok (.iconst (-1), 1) := by decide +kernel
theorem dX8_judged_25 : decode cX8_judged 25 = .ok (.istore_n 2, 1) := by decide +kernel
theorem dX8_judged_26 : decode cX8_judged 26 = .ok (.iconst (-1), 1) := by decide +kernel
theorem dX8_judged_27 : decode cX8_judged 27 = .ok (.istore_n 3, 1) := by decide +kernel
theorem dX8_judged_28 : decode cX8_judged 28 = .ok (.iconst 0, 1) := by decide +kernel
theorem dX8_judged_29 : decode cX8_judged 29 = .ok (.istore 4, 2) := by decide +kernel
theorem dX8_judged_31 : decode cX8_judged 31 = .ok (.iload 4, 2) := by decide +kernel
theorem dX8_judged_33 : decode cX8_judged 33 = .ok (.aload_n 0, 1) := by decide +kernel
theorem dX8_judged_34 : decode cX8_judged 34 = .ok (.getfield 29, 3) := by decide +kernel
theorem dX8_judged_37 : decode cX8_judged 37 = .ok (.getfield 166, 3) := by decide +kernel
theorem dX8_judged_40 : decode cX8_judged 40 = .ok (.if_icmp .ge 55, 3) := by decide +kernel
theorem dX8_judged_95 : decode cX8_judged 95 = .ok (.iload_n 1, 1) := by decide +kernel
theorem dX8_judged_96 : decode cX8_judged 96 = .ok (.ifCond .ne 7, 3) := by decide +kernel
theorem dX8_judged_99 : decode cX8_judged 99 = .ok (.iload_n 2, 1) := by decide +kernel
theorem dX8_judged_100 : decode cX8_judged 100 = .ok (.goto 19, 3) := by decide +kernel
theorem dX8_judged_103 : decode cX8_judged 103 = .ok (.iload_n 1, 1) := by decide +kernel
theorem dX8_judged_104 : decode cX8_judged 104 = .ok (.iconst 1, 1) := by decide +kernel
theorem dX8_judged_105 : decode cX8_judged 105 = .ok (.if_icmp .ne 7, 3) := by decide +kernel
theorem dX8_judged_108 : decode cX8_judged 108 = .ok (.iload_n 3, 1) := by decide +kernel
theorem dX8_judged_109 : decode cX8_judged 109 = .ok (.goto 10, 3) := by decide +kernel
theorem dX8_judged_112 : decode cX8_judged 112 = .ok (.aload_n 0, 1) := by decide +kernel
theorem dX8_judged_113 : decode cX8_judged 113 = .ok (.getfield 43, 3) := by decide +kernel
theorem dX8_judged_116 : decode cX8_judged 116 = .ok (.getfield 176, 3) := by decide +kernel
theorem dX8_judged_119 : decode cX8_judged 119 = .ok (.ireturn, 1) := by decide +kernel
set_option maxRecDepth 20000 in
theorem ggX8_judged_X8_isWithin : GoodIn wsX8_judged wsX8_isWithin := goodIn_r _ [10] rfl (by decide +kernel)
set_option maxRecDepth 20000 in
theorem gX8_judged_X8_isWithin : GoodIn wsX8_judged (va_wsS RX8 137 yX8_isWithin wsX8_isWithin) := goodIn_app (goodIn_of _ (by decide +kernel)) ggX8_judged_X8_isWithin
set_option maxRecDepth 20000 in
theorem ggX8_judged_X4_begin : GoodIn wsX8_judged wsX4_begin := goodIn_r _ [15, 16, 17, 18, 19, 20, 21, 22, 14, 23, 24, 25, 26, 27, 28, 29, 30, 31, 32, 33, 34, 154, 155, 156, 157, 158, 159, 160, 161, 162, 163, 164, 165, 166, 167, 168, 169, 170, 171, 172, 173, 174, 175, 176, 177, 178, 179] rfl (by decide +kernel)
set_option maxRecDepth 20000 in
theorem gX8_judged_X4_begin : GoodIn wsX8_judged (wsV RX8 91 RX4 yX4_begin wsX4_begin) := goodIn_app (goodIn_of _ (by decide +kernel)) ggX8_judged_X4_begin
set_option maxHeartbeats 4000000 in
set_option maxRecDepth 100000 in
theorem mX8_judged (l : Launch) (D : va_G) (k : Nat → ClassId) (sz : Nat) (x : Nat) (q : Int32) (x_tape : Value) (td : Nat) (x_draft : Value) (li : Nat) (x_draftLines : Value) (x_now : Value) (tr : Nat) (x_sights : Value) (x_past : Value) (x_marks : Value) (x_drawn : Int64) (td_names : Value) (td_kinds : Value) (td_yards : Value) (td_paces : Value) (td_skills : Value) (td_snow : Value) (td_law : Value) (td_bend : Int32) (td_hour : Int32) (td_bendTold : Int32) (td_hourTold : Int32) (li_deeds : Value) (li_guests : Value) (li_wholes : Value) (tr0 : Nat) (tr1 : Nat) (tr2 : Nat) (tr3 : Nat) (tr4 : Nat) (tr5 : Nat) (tr6 : Nat) (tr_inside : Int32) (tr_night : Int32) (tr_minute : Int32) (tr_tasted : Int32) (tr_lastCook : Int32) (tr_stirred : Int32) (trf0 : Nat → Int32) (trf1 : Nat → Int32) (trf2 : Nat → Int32) (trf3 : Nat → Int32) (trf4 : Nat → Int32) (trf5 : Nat → Int32) (trf6 : Nat → Int32) : Met l yX8_judged wsX8_judged ({ frames := 2, cells := 0, slots := 0, locals := 140 }) (va_Pc [.ref x, .int q] (kz_Pre D k [(x, kO 8 [x_tape, .ref td, x_draft, .ref li, x_draftLines, x_now, .ref tr, x_sights, x_past, x_marks, .long x_drawn]), (td, kO 7 [td_names, td_kinds, td_yards, td_paces, td_skills, td_snow, td_law, .int 0, .int 0, .int td_bend, .int td_hour, .int td_bendTold, .int td_hourTold]), (li, kO 1 [li_deeds, li_guests, li_wholes, .int 0]), (tr, kO 4 [.ref tr0, .ref tr1, .ref tr2, .ref tr3, .ref tr4, .ref tr5, .ref tr6, .int tr_inside, .int tr_night, .int tr_minute, .int tr_tasted, .int tr_lastCook, .int tr_stirred]), (tr0, kI k 6 trf0), (tr1, kI k 6 trf1), (tr2, kI k 6 trf2), (tr3, kI k 6 trf3), (tr4, kI k 6 trf4), (tr5, kI k 6 trf5), (tr6, kI k 6 trf6)] sz)) (va_Qi (fun (rr : Int32) (uu : Unit) => rr = aJ q) (fun uu zt => kz_B D (va_A [(x, kO 8 [x_tape, .ref td, x_draft, .ref li, x_draftLines, x_now, .ref tr, x_sights, x_past, x_marks, .long x_drawn]), (td, kO 7 [td_names, td_kinds, td_yards, td_paces, td_skills, td_snow, td_law, .int 0, .int 0, .int td_bend, .int td_hour, .int td_bendTold, .int td_hourTold]), (li, kO 1 [li_deeds, li_guests, li_wholes, .int 0]), (tr, kO 4 [.ref tr0, .ref tr1, .ref tr2, .ref tr3, .ref tr4, .ref tr5, .ref tr6, .int tr_inside, .int tr_night, .int tr_minute, .int tr_tasted, .int tr_lastCook, .int tr_stirred]), (tr0, kI k 6 trf0), (tr1, kI k 6 trf1), (tr2, kI k 6 trf2), (tr3, kI k 6 trf3), (tr4, kI k 6 trf4), (tr5, kI k 6 trf5), (tr6, kI k 6 trf6)] sz) [] zt) (va_A [(x, kO 8 [x_tape, .ref td, x_draft, .ref li, x_draftLines, x_now, .ref tr, x_sights, x_past, x_marks, .long x_drawn]), (td, kO 7 [td_names, td_kinds, td_yards, td_paces, td_skills, td_snow, td_law, .int 0, .int 0, .int td_bend, .int td_hour, .int td_bendTold, .int td_hourTold]), (li, kO 1 [li_deeds, li_guests, li_wholes, .int 0]), (tr, kO 4 [.ref tr0, .ref tr1, .ref tr2, .ref tr3, .ref tr4, .ref tr5, .ref tr6, .int tr_inside, .int tr_night, .int tr_minute, .int tr_tasted, .int tr_lastCook, .int tr_stirred]), (tr0, kI k 6 trf0), (tr1, kI k 6 trf1), (tr2, kI k 6 trf2), (tr3, kI k 6 trf3), (tr4, kI k 6 trf4), (tr5, kI k 6 trf5), (tr6, kI k 6 trf6)] sz)) 0 0 (va_A [(x, kO 8 [x_tape, .ref td, x_draft, .ref li, x_draftLines, x_now, .ref tr, x_sights, x_past, x_marks, .long x_drawn]), (td, kO 7 [td_names, td_kinds, td_yards, td_paces, td_skills, td_snow, td_law, .int 0, .int 0, .int td_bend, .int td_hour, .int td_bendTold, .int td_hourTold]), (li, kO 1 [li_deeds, li_guests, li_wholes, .int 0]), (tr, kO 4 [.ref tr0, .ref tr1, .ref tr2, .ref tr3, .ref tr4, .ref tr5, .ref tr6, .int tr_inside, .int tr_night, .int tr_minute, .int tr_tasted, .int tr_lastCook, .int tr_stirred]), (tr0, kI k 6 trf0), (tr1, kI k 6 trf1), (tr2, kI k 6 trf2), (tr3, kI k 6 trf3), (tr4, kI k 6 trf4), (tr5, kI k 6 trf5), (tr6, kI k 6 trf6)] sz) := by
  refine Met.ofW (cc := cX8_judged) (maxL := 5) (ret := (some .int)) (by decide) rfl ?_
  intro p e s m args below meth c s₁ B hml hv
  obtain ⟨hav, hsz, hP, hK, hD0, hE⟩ := hv
  have hx := B.exec
  have hb := B.bytes
  have hr := B.returns
  have hts := atoms_spec (ws := wsX8_judged) B.pre
  have hown : s.vm.findClass RX8 = some m.cls := findClass_of_methodNamed B.named
  have hlocks := B.notSynchronized
  have hi1 : ∀ w ∈ u_ws RX1 TX1 4, w ∈ wsX8_judged := by decide +kernel
  have hi4 : ∀ w ∈ u_ws RX4 TX4 13, w ∈ wsX8_judged := by decide +kernel
  have hi8 : ∀ w ∈ u_ws RX8 TX8 11, w ∈ wsX8_judged := by decide +kernel
  have lf43 := hts (.fieldLink RX8 43 "LastCook" "trial" "LLastCook$Road;") (by decide +kernel)
  have lf19 := hts (.fieldLink RX8 19 "LastCook" "told" "LLastCook$Told;") (by decide +kernel)
  have lf29 := hts (.fieldLink RX8 29 "LastCook" "lines" "LLastCook$Lines;") (by decide +kernel)
  have lf166 := hts (.fieldLink RX8 166 "LastCook$Lines" "size" "I") (by decide +kernel)
  have lf176 := hts (.fieldLink RX8 176 "LastCook$Road" "tasted" "I") (by decide +kernel)
  subst hsz
  have hD := hD0.self (sz := s.heap.size)
  generalize hAe : va_A [(x, kO 8 [x_tape, .ref td, x_draft, .ref li, x_draftLines, x_now, .ref tr, x_sights, x_past, x_marks, .long x_drawn]), (td, kO 7 [td_names, td_kinds, td_yards, td_paces, td_skills, td_snow, td_law, .int 0, .int 0, .int td_bend, .int td_hour, .int td_bendTold, .int td_hourTold]), (li, kO 1 [li_deeds, li_guests, li_wholes, .int 0]), (tr, kO 4 [.ref tr0, .ref tr1, .ref tr2, .ref tr3, .ref tr4, .ref tr5, .ref tr6, .int tr_inside, .int tr_night, .int tr_minute, .int tr_tasted, .int tr_lastCook, .int tr_stirred]), (tr0, kI k 6 trf0), (tr1, kI k 6 trf1), (tr2, kI k 6 trf2), (tr3, kI k 6 trf3), (tr4, kI k 6 trf4), (tr5, kI k 6 trf5), (tr6, kI k 6 trf6)] s.heap.size = A at hD ⊢
  have hA : ∀ q : Nat, s.heap.size ≤ q → A q := fun q h => by rw [← hAe]; exact Or.inr h
  have hS : va_S A s.heap s.heap [] := va_S.rf
  have hl := lv_entry ([.ref x, .int q]) (n := 5) (Nat.le_of_ble_eq_true rfl)
  rw [show entryFrame m args 5 = entryFrame m ([.ref x, .int q] : List Value).toArray 5 by rw [hav], lg_entry_eq]
  generalize (lg_sl ([.ref x, .int q]) ++ List.replicate (5 - (lg_sl ([.ref x, .int q])).length) Slot.unset).toArray = ls at hl ⊢
  have hl : lv_has ls 5 [(0, .ref x), (1, .int q)] := hl
  obtain ⟨R, hR⟩ : ∃ R, R = (headSpec wsX8_judged ({ frames := 2, cells := 0, slots := 0, locals := 140 } : Room)).room := ⟨_, rfl⟩
  rw [← hR]
  generalize hQ : MQ below _ args s 0 0 A = Q
  replace hQ := hQ.symm
  obtain ⟨H, hH⟩ : ∃ H, H = s.heap := ⟨_, rfl⟩
  rw [← hH] at hP ⊢
  have hS : va_S A s.heap H [] := by rw [hH]; exact hS
  refine lv_iload_n hx hb dX8_judged_0 rfl (lv_at hl 1 rfl) ?_
  refine lv_iconst (v := 0) hx hb dX8_judged_1 (by decide) ?_
  refine lv_iconst (v := 2) hx hb dX8_judged_2 (by decide) ?_
  refine kz_Si (As := [.int q, .int 0, .int 2]) (rest := []) (wc := []) (wr := [(x, kO 8 [x_tape, .ref td, x_draft, .ref li, x_draftLines, x_now, .ref tr, x_sights, x_past, x_marks, .long x_drawn]), (td, kO 7 [td_names, td_kinds, td_yards, td_paces, td_skills, td_snow, td_law, .int 0, .int 0, .int td_bend, .int td_hour, .int td_bendTold, .int td_hourTold]), (li, kO 1 [li_deeds, li_guests, li_wholes, .int 0]), (tr, kO 4 [.ref tr0, .ref tr1, .ref tr2, .ref tr3, .ref tr4, .ref tr5, .ref tr6, .int tr_inside, .int tr_night, .int tr_minute, .int tr_tasted, .int tr_lastCook, .int tr_stirred]), (tr0, kI k 6 trf0), (tr1, kI k 6 trf1), (tr2, kI k 6 trf2), (tr3, kI k 6 trf3), (tr4, kI k 6 trf4), (tr5, kI k 6 trf5), (tr6, kI k 6 trf6)]) ⟨hx, hb, hml, hown, hts⟩ hK hE hP hD hS hA (mX8_isWithin l D k H.size q 0 2) (va_cwS 3 hts gX8_judged_X8_isWithin rfl rfl rfl (by decide +kernel) (by rw [hR]; exact ⟨Nat.le_of_ble_eq_true rfl, Nat.le_of_ble_eq_true rfl⟩)) [] [0, 1, 2, 3, 4, 5, 6, 7, 8, 9, 10] rfl rfl (by decide) (by decide) (by decide) rfl hl.1 rfl (Nat.le_of_ble_eq_true rfl) dX8_judged_3 (by rw [hR]; exact ⟨Nat.le_of_ble_eq_true rfl, Nat.le_of_ble_eq_true rfl⟩) (fun r1 u1 H locs hw1 hP hD hS => ?_)
  try dsimp only at hw1
  obtain rfl : r1 = bz (0 ≤ q ∧ q ≤ 2) := hw1
  have hP : va_P D vwCl [(x, kO 8 [x_tape, .ref td, x_draft, .ref li, x_draftLines, x_now, .ref tr, x_sights, x_past, x_marks, .long x_drawn]), (td, kO 7 [td_names, td_kinds, td_yards, td_paces, td_skills, td_snow, td_law, .int 0, .int 0, .int td_bend, .int td_hour, .int td_bendTold, .int td_hourTold]), (li, kO 1 [li_deeds, li_guests, li_wholes, .int 0]), (tr, kO 4 [.ref tr0, .ref tr1, .ref tr2, .ref tr3, .ref tr4, .ref tr5, .ref tr6, .int tr_inside, .int tr_night, .int tr_minute, .int tr_tasted, .int tr_lastCook, .int tr_stirred]), (tr0, kI k 6 trf0), (tr1, kI k 6 trf1), (tr2, kI k 6 trf2), (tr3, kI k 6 trf3), (tr4, kI k 6 trf4), (tr5, kI k 6 trf5), (tr6, kI k 6 trf6)] H := hP
  have hD : va_D A [(x, kO 8 [x_tape, .ref td, x_draft, .ref li, x_draftLines, x_now, .ref tr, x_sights, x_past, x_marks, .long x_drawn]), (td, kO 7 [td_names, td_kinds, td_yards, td_paces, td_skills, td_snow, td_law, .int 0, .int 0, .int td_bend, .int td_hour, .int td_bendTold, .int td_hourTold]), (li, kO 1 [li_deeds, li_guests, li_wholes, .int 0]), (tr, kO 4 [.ref tr0, .ref tr1, .ref tr2, .ref tr3, .ref tr4, .ref tr5, .ref tr6, .int tr_inside, .int tr_night, .int tr_minute, .int tr_tasted, .int tr_lastCook, .int tr_stirred]), (tr0, kI k 6 trf0), (tr1, kI k 6 trf1), (tr2, kI k 6 trf2), (tr3, kI k 6 trf3), (tr4, kI k 6 trf4), (tr5, kI k 6 trf5), (tr6, kI k 6 trf6)] := hD
  refine lv_if_ne (tgt := 13) hx hb dX8_judged_6 (by decide) (fun c_2 => ?_) (fun c_2 => ?_)
  · skip
    refine lv_aload_n hx hb dX8_judged_13 rfl (lv_at hl 0 rfl) ?_
    refine va_get (D := D) (ci := 8) (v := .ref tr) (C := RX8) (T := TX8) (N := 11) hx hb hts hi8 hown hK hP 0 rfl rfl 6 (by decide) lf43 (fun _ h9 => h9) rfl dX8_judged_14 ?_
    refine lv_aload_n hx hb dX8_judged_17 rfl (lv_at hl 0 rfl) ?_
    refine va_get (D := D) (ci := 8) (v := .ref td) (C := RX8) (T := TX8) (N := 11) hx hb hts hi8 hown hK hP 0 rfl rfl 1 (by decide) lf19 (fun _ h9 => h9) rfl dX8_judged_18 ?_
    refine kz_Vv (As := [.ref td]) (rest := []) (wc := [(tr, kO 4 [.ref tr0, .ref tr1, .ref tr2, .ref tr3, .ref tr4, .ref tr5, .ref tr6, .int tr_inside, .int tr_night, .int tr_minute, .int tr_tasted, .int tr_lastCook, .int tr_stirred]), (tr0, kI k 6 trf0), (tr1, kI k 6 trf1), (tr2, kI k 6 trf2), (tr3, kI k 6 trf3), (tr4, kI k 6 trf4), (tr5, kI k 6 trf5), (tr6, kI k 6 trf6), (td, kO 7 [td_names, td_kinds, td_yards, td_paces, td_skills, td_snow, td_law, .int 0, .int 0, .int td_bend, .int td_hour, .int td_bendTold, .int td_hourTold])]) (wr := [(x, kO 8 [x_tape, .ref td, x_draft, .ref li, x_draftLines, x_now, .ref tr, x_sights, x_past, x_marks, .long x_drawn]), (li, kO 1 [li_deeds, li_guests, li_wholes, .int 0])]) ⟨hx, hb, hml, hown, hts⟩ hK hE hP hD hS hA (mX4_begin l D k H.size tr td tr0 tr1 tr2 tr3 tr4 tr5 tr6 tr_inside tr_night tr_minute tr_tasted tr_lastCook tr_stirred trf0 trf1 trf2 trf3 trf4 trf5 trf6 td_names td_kinds td_yards td_paces td_skills td_snow td_law 0 td_bend td_hour td_bendTold td_hourTold) (cwV 1 hts gX8_judged_X4_begin rfl rfl rfl (by decide +kernel) (by rw [hR]; exact ⟨Nat.le_of_ble_eq_true rfl, Nat.le_of_ble_eq_true rfl⟩)) [3, 4, 5, 6, 7, 8, 9, 10, 1] [0, 2] rfl rfl (by decide) (by decide) (by decide) 0 rfl rfl rfl hl.1 rfl (Nat.le_of_ble_eq_true rfl) dX8_judged_21 (by rw [hR]; exact ⟨Nat.le_of_ble_eq_true rfl, Nat.le_of_ble_eq_true rfl⟩) (fun u3 H locs hw3 hP hD hS => ?_)
    obtain ⟨g03, g13, g23, g33, g43, g53, g63⟩ := u3
    have hP : va_P D vwCl [(x, kO 8 [x_tape, .ref td, x_draft, .ref li, x_draftLines, x_now, .ref tr, x_sights, x_past, x_marks, .long x_drawn]), (li, kO 1 [li_deeds, li_guests, li_wholes, .int 0]), (tr, kO 4 [.ref tr0, .ref tr1, .ref tr2, .ref tr3, .ref tr4, .ref tr5, .ref tr6, .int 0, .int 0, .int 0, .int 0, .int (-1), .int tr_stirred]), (tr0, kI k 6 g03), (tr1, kI k 6 g13), (tr2, kI k 6 g23), (tr3, kI k 6 g33), (tr4, kI k 6 g43), (tr5, kI k 6 g53), (tr6, kI k 6 g63), (td, kO 7 [td_names, td_kinds, td_yards, td_paces, td_skills, td_snow, td_law, .int 0, .int 0, .int td_bend, .int td_hour, .int td_bendTold, .int td_hourTold])] H := hP
    have hD : va_D A [(x, kO 8 [x_tape, .ref td, x_draft, .ref li, x_draftLines, x_now, .ref tr, x_sights, x_past, x_marks, .long x_drawn]), (li, kO 1 [li_deeds, li_guests, li_wholes, .int 0]), (tr, kO 4 [.ref tr0, .ref tr1, .ref tr2, .ref tr3, .ref tr4, .ref tr5, .ref tr6, .int 0, .int 0, .int 0, .int 0, .int (-1), .int tr_stirred]), (tr0, kI k 6 g03), (tr1, kI k 6 g13), (tr2, kI k 6 g23), (tr3, kI k 6 g33), (tr4, kI k 6 g43), (tr5, kI k 6 g53), (tr6, kI k 6 g63), (td, kO 7 [td_names, td_kinds, td_yards, td_paces, td_skills, td_snow, td_law, .int 0, .int 0, .int td_bend, .int td_hour, .int td_bendTold, .int td_hourTold])] := hD
    refine lv_iconst (v := (-1)) hx hb dX8_judged_24 (by decide) ?_
    refine lv_istore_n (lv' := [(2, .int (-1)), (0, .ref x), (1, .int q)]) hx hb dX8_judged_25 rfl hl (by decide) rfl (fun ls hl => ?_)
    refine lv_iconst (v := (-1)) hx hb dX8_judged_26 (by decide) ?_
    refine lv_istore_n (lv' := [(3, .int (-1)), (2, .int (-1)), (0, .ref x), (1, .int q)]) hx hb dX8_judged_27 rfl hl (by decide) rfl (fun ls hl => ?_)
    refine lv_iconst (v := 0) hx hb dX8_judged_28 (by decide) ?_
    refine lv_istore (lv' := [(4, .int 0), (3, .int (-1)), (2, .int (-1)), (0, .ref x), (1, .int q)]) hx hb dX8_judged_29 hl (by decide) rfl (fun ls hl => ?_)
    refine lv_iload hx hb dX8_judged_31 (lv_at hl 0 rfl) ?_
    refine lv_aload_n hx hb dX8_judged_33 rfl (lv_at hl 3 rfl) ?_
    refine va_get (D := D) (ci := 8) (v := .ref li) (C := RX8) (T := TX8) (N := 11) hx hb hts hi8 hown hK hP 0 rfl rfl 3 (by decide) lf29 (fun _ h9 => h9) rfl dX8_judged_34 ?_
    refine va_get (D := D) (ci := 1) (v := .int 0) (C := RX1) (T := TX1) (N := 4) hx hb hts hi1 hown hK hP 1 rfl rfl 3 (by decide) lf166 (fun _ h9 => h9) rfl dX8_judged_37 ?_
    refine lv_icmp_ge (tgt := 95) hx hb dX8_judged_40 (by decide) (fun c_4 => ?_) (fun c_4 => absurd (by decide) c_4)
    refine lv_iload_n hx hb dX8_judged_95 rfl (lv_at hl 4 rfl) ?_
    refine lv_if_ne (tgt := 103) hx hb dX8_judged_96 (by decide) (fun c_5 => ?_) (fun c_5 => ?_)
    · skip
      refine lv_iload_n hx hb dX8_judged_103 rfl (lv_at hl 4 rfl) ?_
      refine lv_iconst (v := 1) hx hb dX8_judged_104 (by decide) ?_
      refine lv_icmp_ne (tgt := 112) hx hb dX8_judged_105 (by decide) (fun c_6 => ?_) (fun c_6 => ?_)
      · skip
        refine lv_aload_n hx hb dX8_judged_112 rfl (lv_at hl 3 rfl) ?_
        refine va_get (D := D) (ci := 8) (v := .ref tr) (C := RX8) (T := TX8) (N := 11) hx hb hts hi8 hown hK hP 0 rfl rfl 6 (by decide) lf43 (fun _ h9 => h9) rfl dX8_judged_113 ?_
        refine va_get (D := D) (ci := 4) (v := .int 0) (C := RX4) (T := TX4) (N := 13) hx hb hts hi4 hown hK hP 2 rfl rfl 10 (by decide) lf176 (fun _ h9 => h9) rfl dX8_judged_116 ?_
        rw [hQ]
        have hP9 := hP.sub (ws' := []) [] rfl
        have hD9 := hD.sub (ws' := []) [] (by decide) rfl
        exact W.iret (v := 0) hx hb hr (fun zt ht hW => ⟨⟨0, (), rfl, (by unfold aJ; rw [if_pos (bz_1 c_2), if_neg c_5, if_neg c_6]), by rw [ht]; exact hP9, hD9⟩, hS.F ht⟩) hS.2.2 dX8_judged_119
      · skip
        refine lv_iload_n hx hb dX8_judged_108 rfl (lv_at hl 1 rfl) ?_
        refine lv_goto (tgt := 119) hx hb dX8_judged_109 (by decide) ?_
        rw [hQ]
        have hP9 := hP.sub (ws' := []) [] rfl
        have hD9 := hD.sub (ws' := []) [] (by decide) rfl
        exact W.iret (v := (-1)) hx hb hr (fun zt ht hW => ⟨⟨(-1), (), rfl, (by unfold aJ; rw [if_pos (bz_1 c_2), if_neg c_5, if_pos c_6]), by rw [ht]; exact hP9, hD9⟩, hS.F ht⟩) hS.2.2 dX8_judged_119
    · skip
      refine lv_iload_n hx hb dX8_judged_99 rfl (lv_at hl 2 rfl) ?_
      refine lv_goto (tgt := 119) hx hb dX8_judged_100 (by decide) ?_
      rw [hQ]
      have hP9 := hP.sub (ws' := []) [] rfl
      have hD9 := hD.sub (ws' := []) [] (by decide) rfl
      exact W.iret (v := (-1)) hx hb hr (fun zt ht hW => ⟨⟨(-1), (), rfl, (by unfold aJ; rw [if_pos (bz_1 c_2), if_pos c_5]), by rw [ht]; exact hP9, hD9⟩, hS.F ht⟩) hS.2.2 dX8_judged_119
  · skip
    refine lv_sipush (v := (-1000)) hx hb dX8_judged_9 (by decide) ?_
    rw [hQ]
    have hP9 := hP.sub (ws' := []) [] rfl
    have hD9 := hD.sub (ws' := []) [] (by decide) rfl
    exact W.iret (v := (-1000)) hx hb hr (fun zt ht hW => ⟨⟨(-1000), (), rfl, (by unfold aJ; rw [if_neg (bz_0 c_2)]), by rw [ht]; exact hP9, hD9⟩, hS.F ht⟩) hS.2.2 dX8_judged_12
theorem dX8_when_0 : decode cX8_when 0 = .ok (.aload_n 0, 1) := by decide +kernel
theorem dX8_when_1 : decode cX8_when 1 = .ok (.getfield 43, 3) := by decide +kernel
theorem dX8_when_4 : decode cX8_when 4 = .ok (.aload_n 0, 1) := by decide +kernel
theorem dX8_when_5 : decode cX8_when 5 = .ok (.getfield 39, 3) := by decide +kernel
theorem dX8_when_8 : decode cX8_when 8 = .ok (.invokevirtual 179, 3) := by decide +kernel
theorem dX8_when_11 : decode cX8_when 11 = .ok (.aload_n 0, 1) := by decide +kernel
theorem dX8_when_12 : decode cX8_when 12 = .ok (.getfield 43, 3) := by decide +kernel
theorem dX8_when_15 : decode cX8_when 15 = .ok (.aload_n 0, 1) := by decide +kernel
theorem dX8_when_16 : decode cX8_when 16 = .ok (.getfield 19, 3) := by decide +kernel
theorem dX8_when_19 : decode cX8_when 19 = .ok (.sipush 400, 3) := by decide +kernel
theorem dX8_when_22 : decode cX8_when 22 = .ok (.invokevirtual 182, 3) := by decide +kernel
theorem dX8_when_25 : decode cX8_when 25 = .ok (.ireturn, 1) := by decide +kernel
set_option maxRecDepth 20000 in
theorem ggX8_when_X4_copyFrom : GoodIn wsX8_when wsX4_copyFrom := goodIn_r _ [8, 9, 10, 11, 12, 13, 14, 15, 16, 17, 18, 19, 20, 21, 22, 23, 24, 122, 123, 124, 125, 126, 127, 128, 129, 130, 131, 132, 133, 134] rfl (by decide +kernel)
set_option maxRecDepth 20000 in
theorem gX8_when_X4_copyFrom : GoodIn wsX8_when (wsV RX8 179 RX4 yX4_copyFrom wsX4_copyFrom) := goodIn_app (goodIn_of _ (by decide +kernel)) ggX8_when_X4_copyFrom
set_option maxRecDepth 20000 in
theorem ggX8_when_X4_goOn : GoodIn wsX8_when wsX4_goOn := goodIn_r _ [28, 22, 29, 30, 31, 32, 33, 34, 35, 36, 37, 38, 39, 7, 40, 41, 20, 42, 43, 44, 45, 15, 9, 46, 47, 48, 49, 50, 14, 51, 52, 53, 17, 18, 54, 55, 56, 57, 16, 58, 59, 60, 61, 62, 63, 64, 65, 66, 67, 68, 69, 70, 71, 72, 73, 74, 75, 76, 77, 78, 79, 23, 80, 81, 21, 19, 24, 82, 83, 84, 85, 86, 87, 88, 89, 90, 91, 92, 93, 94, 95, 96, 97, 98, 99, 100, 101, 102, 103, 104, 105, 106, 107, 108, 109, 110, 122, 123, 124, 125, 126, 127, 128, 129, 130, 131, 132, 133, 134, 135, 136, 137, 138, 139, 140, 141, 142, 143, 144, 145, 146, 147, 148, 149, 150, 151, 152] rfl (by decide +kernel)
set_option maxRecDepth 20000 in
theorem gX8_when_X4_goOn : GoodIn wsX8_when (wsV RX8 182 RX4 yX4_goOn wsX4_goOn) := goodIn_app (goodIn_of _ (by decide +kernel)) ggX8_when_X4_goOn
set_option maxHeartbeats 4000000 in
set_option maxRecDepth 100000 in
theorem mX8_when (l : Launch) (D : va_G) (k : Nat → ClassId) (sz : Nat) (x : Nat) (x_tape : Value) (td : Nat) (x_draft : Value) (x_lines : Value) (x_draftLines : Value) (nw : Nat) (tr : Nat) (x_sights : Value) (x_past : Value) (x_marks : Value) (x_drawn : Int64) (td_names : Value) (td_kinds : Value) (td_yards : Value) (td_paces : Value) (td_skills : Value) (td_snow : Value) (td_law : Value) (td_bend : Int32) (td_hour : Int32) (td_bendTold : Int32) (td_hourTold : Int32) (tr0 : Nat) (tr1 : Nat) (tr2 : Nat) (tr3 : Nat) (tr4 : Nat) (tr5 : Nat) (tr6 : Nat) (tr_inside : Int32) (tr_night : Int32) (tr_minute : Int32) (tr_tasted : Int32) (tr_lastCook : Int32) (tr_stirred : Int32) (trf0 : Nat → Int32) (trf1 : Nat → Int32) (trf2 : Nat → Int32) (trf3 : Nat → Int32) (trf4 : Nat → Int32) (trf5 : Nat → Int32) (trf6 : Nat → Int32) (nw0 : Nat) (nw1 : Nat) (nw2 : Nat) (nw3 : Nat) (nw4 : Nat) (nw5 : Nat) (nw6 : Nat) (nw_inside : Int32) (nw_night : Int32) (nw_minute : Int32) (nw_tasted : Int32) (nw_lastCook : Int32) (nw_stirred : Int32) (nwf0 : Nat → Int32) (nwf1 : Nat → Int32) (nwf2 : Nat → Int32) (nwf3 : Nat → Int32) (nwf4 : Nat → Int32) (nwf5 : Nat → Int32) (nwf6 : Nat → Int32) : Met l yX8_when wsX8_when ({ frames := 5, cells := 0, slots := 0, locals := 350 }) (va_Pc [.ref x] (kz_Pre D k [(x, kO 8 [x_tape, .ref td, x_draft, x_lines, x_draftLines, .ref nw, .ref tr, x_sights, x_past, x_marks, .long x_drawn]), (td, kO 7 [td_names, td_kinds, td_yards, td_paces, td_skills, td_snow, td_law, .int 0, .int 0, .int td_bend, .int td_hour, .int td_bendTold, .int td_hourTold]), (tr, kO 4 [.ref tr0, .ref tr1, .ref tr2, .ref tr3, .ref tr4, .ref tr5, .ref tr6, .int tr_inside, .int tr_night, .int tr_minute, .int tr_tasted, .int tr_lastCook, .int tr_stirred]), (tr0, kI k 6 trf0), (tr1, kI k 6 trf1), (tr2, kI k 6 trf2), (tr3, kI k 6 trf3), (tr4, kI k 6 trf4), (tr5, kI k 6 trf5), (tr6, kI k 6 trf6), (nw, kO 4 [.ref nw0, .ref nw1, .ref nw2, .ref nw3, .ref nw4, .ref nw5, .ref nw6, .int nw_inside, .int nw_night, .int nw_minute, .int nw_tasted, .int nw_lastCook, .int nw_stirred]), (nw0, kI k 6 nwf0), (nw1, kI k 6 nwf1), (nw2, kI k 6 nwf2), (nw3, kI k 6 nwf3), (nw4, kI k 6 nwf4), (nw5, kI k 6 nwf5), (nw6, kI k 6 nwf6)] sz)) (va_Qi (fun (rr : Int32) (uu : Unit) => rr = (-1)) (fun uu zt => kz_B D (va_A [(x, kO 8 [x_tape, .ref td, x_draft, x_lines, x_draftLines, .ref nw, .ref tr, x_sights, x_past, x_marks, .long x_drawn]), (td, kO 7 [td_names, td_kinds, td_yards, td_paces, td_skills, td_snow, td_law, .int 0, .int 0, .int td_bend, .int td_hour, .int td_bendTold, .int td_hourTold]), (tr, kO 4 [.ref tr0, .ref tr1, .ref tr2, .ref tr3, .ref tr4, .ref tr5, .ref tr6, .int tr_inside, .int tr_night, .int tr_minute, .int tr_tasted, .int tr_lastCook, .int tr_stirred]), (tr0, kI k 6 trf0), (tr1, kI k 6 trf1), (tr2, kI k 6 trf2), (tr3, kI k 6 trf3), (tr4, kI k 6 trf4), (tr5, kI k 6 trf5), (tr6, kI k 6 trf6), (nw, kO 4 [.ref nw0, .ref nw1, .ref nw2, .ref nw3, .ref nw4, .ref nw5, .ref nw6, .int nw_inside, .int nw_night, .int nw_minute, .int nw_tasted, .int nw_lastCook, .int nw_stirred]), (nw0, kI k 6 nwf0), (nw1, kI k 6 nwf1), (nw2, kI k 6 nwf2), (nw3, kI k 6 nwf3), (nw4, kI k 6 nwf4), (nw5, kI k 6 nwf5), (nw6, kI k 6 nwf6)] sz) [] zt) (va_A [(x, kO 8 [x_tape, .ref td, x_draft, x_lines, x_draftLines, .ref nw, .ref tr, x_sights, x_past, x_marks, .long x_drawn]), (td, kO 7 [td_names, td_kinds, td_yards, td_paces, td_skills, td_snow, td_law, .int 0, .int 0, .int td_bend, .int td_hour, .int td_bendTold, .int td_hourTold]), (tr, kO 4 [.ref tr0, .ref tr1, .ref tr2, .ref tr3, .ref tr4, .ref tr5, .ref tr6, .int tr_inside, .int tr_night, .int tr_minute, .int tr_tasted, .int tr_lastCook, .int tr_stirred]), (tr0, kI k 6 trf0), (tr1, kI k 6 trf1), (tr2, kI k 6 trf2), (tr3, kI k 6 trf3), (tr4, kI k 6 trf4), (tr5, kI k 6 trf5), (tr6, kI k 6 trf6), (nw, kO 4 [.ref nw0, .ref nw1, .ref nw2, .ref nw3, .ref nw4, .ref nw5, .ref nw6, .int nw_inside, .int nw_night, .int nw_minute, .int nw_tasted, .int nw_lastCook, .int nw_stirred]), (nw0, kI k 6 nwf0), (nw1, kI k 6 nwf1), (nw2, kI k 6 nwf2), (nw3, kI k 6 nwf3), (nw4, kI k 6 nwf4), (nw5, kI k 6 nwf5), (nw6, kI k 6 nwf6)] sz)) 0 0 (va_A [(x, kO 8 [x_tape, .ref td, x_draft, x_lines, x_draftLines, .ref nw, .ref tr, x_sights, x_past, x_marks, .long x_drawn]), (td, kO 7 [td_names, td_kinds, td_yards, td_paces, td_skills, td_snow, td_law, .int 0, .int 0, .int td_bend, .int td_hour, .int td_bendTold, .int td_hourTold]), (tr, kO 4 [.ref tr0, .ref tr1, .ref tr2, .ref tr3, .ref tr4, .ref tr5, .ref tr6, .int tr_inside, .int tr_night, .int tr_minute, .int tr_tasted, .int tr_lastCook, .int tr_stirred]), (tr0, kI k 6 trf0), (tr1, kI k 6 trf1), (tr2, kI k 6 trf2), (tr3, kI k 6 trf3), (tr4, kI k 6 trf4), (tr5, kI k 6 trf5), (tr6, kI k 6 trf6), (nw, kO 4 [.ref nw0, .ref nw1, .ref nw2, .ref nw3, .ref nw4, .ref nw5, .ref nw6, .int nw_inside, .int nw_night, .int nw_minute, .int nw_tasted, .int nw_lastCook, .int nw_stirred]), (nw0, kI k 6 nwf0), (nw1, kI k 6 nwf1), (nw2, kI k 6 nwf2), (nw3, kI k 6 nwf3), (nw4, kI k 6 nwf4), (nw5, kI k 6 nwf5), (nw6, kI k 6 nwf6)] sz) := by
  refine Met.ofW (cc := cX8_when) (maxL := 1) (ret := (some .int)) (by decide) rfl ?_
  intro p e s m args below meth c s₁ B hml hv
  obtain ⟨hav, hsz, hP, hK, hD0, hE⟩ := hv
  have hx := B.exec
  have hb := B.bytes
  have hr := B.returns
  have hts := atoms_spec (ws := wsX8_when) B.pre
  have hown : s.vm.findClass RX8 = some m.cls := findClass_of_methodNamed B.named
  have hlocks := B.notSynchronized
  have hi8 : ∀ w ∈ u_ws RX8 TX8 11, w ∈ wsX8_when := by decide +kernel
  have lf43 := hts (.fieldLink RX8 43 "LastCook" "trial" "LLastCook$Road;") (by decide +kernel)
  have lf39 := hts (.fieldLink RX8 39 "LastCook" "now" "LLastCook$Road;") (by decide +kernel)
  have lf19 := hts (.fieldLink RX8 19 "LastCook" "told" "LLastCook$Told;") (by decide +kernel)
  subst hsz
  have hD := hD0.self (sz := s.heap.size)
  generalize hAe : va_A [(x, kO 8 [x_tape, .ref td, x_draft, x_lines, x_draftLines, .ref nw, .ref tr, x_sights, x_past, x_marks, .long x_drawn]), (td, kO 7 [td_names, td_kinds, td_yards, td_paces, td_skills, td_snow, td_law, .int 0, .int 0, .int td_bend, .int td_hour, .int td_bendTold, .int td_hourTold]), (tr, kO 4 [.ref tr0, .ref tr1, .ref tr2, .ref tr3, .ref tr4, .ref tr5, .ref tr6, .int tr_inside, .int tr_night, .int tr_minute, .int tr_tasted, .int tr_lastCook, .int tr_stirred]), (tr0, kI k 6 trf0), (tr1, kI k 6 trf1), (tr2, kI k 6 trf2), (tr3, kI k 6 trf3), (tr4, kI k 6 trf4), (tr5, kI k 6 trf5), (tr6, kI k 6 trf6), (nw, kO 4 [.ref nw0, .ref nw1, .ref nw2, .ref nw3, .ref nw4, .ref nw5, .ref nw6, .int nw_inside, .int nw_night, .int nw_minute, .int nw_tasted, .int nw_lastCook, .int nw_stirred]), (nw0, kI k 6 nwf0), (nw1, kI k 6 nwf1), (nw2, kI k 6 nwf2), (nw3, kI k 6 nwf3), (nw4, kI k 6 nwf4), (nw5, kI k 6 nwf5), (nw6, kI k 6 nwf6)] s.heap.size = A at hD ⊢
  have hA : ∀ q : Nat, s.heap.size ≤ q → A q := fun q h => by rw [← hAe]; exact Or.inr h
  have hS : va_S A s.heap s.heap [] := va_S.rf
  have hl := lv_entry ([.ref x]) (n := 1) (Nat.le_of_ble_eq_true rfl)
  rw [show entryFrame m args 1 = entryFrame m ([.ref x] : List Value).toArray 1 by rw [hav], lg_entry_eq]
  generalize (lg_sl ([.ref x]) ++ List.replicate (1 - (lg_sl ([.ref x])).length) Slot.unset).toArray = ls at hl ⊢
  have hl : lv_has ls 1 [(0, .ref x)] := hl
  obtain ⟨R, hR⟩ : ∃ R, R = (headSpec wsX8_when ({ frames := 5, cells := 0, slots := 0, locals := 350 } : Room)).room := ⟨_, rfl⟩
  rw [← hR]
  generalize hQ : MQ below _ args s 0 0 A = Q
  replace hQ := hQ.symm
  obtain ⟨H, hH⟩ : ∃ H, H = s.heap := ⟨_, rfl⟩
  rw [← hH] at hP ⊢
  have hS : va_S A s.heap H [] := by rw [hH]; exact hS
  refine lv_aload_n hx hb dX8_when_0 rfl (lv_at hl 0 rfl) ?_
  refine va_get (D := D) (ci := 8) (v := .ref tr) (C := RX8) (T := TX8) (N := 11) hx hb hts hi8 hown hK hP 0 rfl rfl 6 (by decide) lf43 (fun _ h9 => h9) rfl dX8_when_1 ?_
  refine lv_aload_n hx hb dX8_when_4 rfl (lv_at hl 0 rfl) ?_
  refine va_get (D := D) (ci := 8) (v := .ref nw) (C := RX8) (T := TX8) (N := 11) hx hb hts hi8 hown hK hP 0 rfl rfl 5 (by decide) lf39 (fun _ h9 => h9) rfl dX8_when_5 ?_
  refine kz_Vv (As := [.ref nw]) (rest := []) (wc := [(tr, kO 4 [.ref tr0, .ref tr1, .ref tr2, .ref tr3, .ref tr4, .ref tr5, .ref tr6, .int tr_inside, .int tr_night, .int tr_minute, .int tr_tasted, .int tr_lastCook, .int tr_stirred]), (tr0, kI k 6 trf0), (tr1, kI k 6 trf1), (tr2, kI k 6 trf2), (tr3, kI k 6 trf3), (tr4, kI k 6 trf4), (tr5, kI k 6 trf5), (tr6, kI k 6 trf6), (nw, kO 4 [.ref nw0, .ref nw1, .ref nw2, .ref nw3, .ref nw4, .ref nw5, .ref nw6, .int nw_inside, .int nw_night, .int nw_minute, .int nw_tasted, .int nw_lastCook, .int nw_stirred]), (nw0, kI k 6 nwf0), (nw1, kI k 6 nwf1), (nw2, kI k 6 nwf2), (nw3, kI k 6 nwf3), (nw4, kI k 6 nwf4), (nw5, kI k 6 nwf5), (nw6, kI k 6 nwf6)]) (wr := [(x, kO 8 [x_tape, .ref td, x_draft, x_lines, x_draftLines, .ref nw, .ref tr, x_sights, x_past, x_marks, .long x_drawn]), (td, kO 7 [td_names, td_kinds, td_yards, td_paces, td_skills, td_snow, td_law, .int 0, .int 0, .int td_bend, .int td_hour, .int td_bendTold, .int td_hourTold])]) ⟨hx, hb, hml, hown, hts⟩ hK hE hP hD hS hA (mX4_copyFrom l D k H.size tr nw tr0 tr1 tr2 tr3 tr4 tr5 tr6 tr_inside tr_night tr_minute tr_tasted tr_lastCook tr_stirred trf0 trf1 trf2 trf3 trf4 trf5 trf6 nw0 nw1 nw2 nw3 nw4 nw5 nw6 nw_inside nw_night nw_minute nw_tasted nw_lastCook nw_stirred nwf0 nwf1 nwf2 nwf3 nwf4 nwf5 nwf6) (cwV 1 hts gX8_when_X4_copyFrom rfl rfl rfl (by decide +kernel) (by rw [hR]; exact ⟨Nat.le_of_ble_eq_true rfl, Nat.le_of_ble_eq_true rfl⟩)) [2, 3, 4, 5, 6, 7, 8, 9, 10, 11, 12, 13, 14, 15, 16, 17] [0, 1] rfl rfl (by decide) (by decide) (by decide) 0 rfl rfl rfl hl.1 rfl (Nat.le_of_ble_eq_true rfl) dX8_when_8 (by rw [hR]; exact ⟨Nat.le_of_ble_eq_true rfl, Nat.le_of_ble_eq_true rfl⟩) (fun u1 H locs hw1 hP hD hS => ?_)
  have hP : va_P D vwCl [(x, kO 8 [x_tape, .ref td, x_draft, x_lines, x_draftLines, .ref nw, .ref tr, x_sights, x_past, x_marks, .long x_drawn]), (td, kO 7 [td_names, td_kinds, td_yards, td_paces, td_skills, td_snow, td_law, .int 0, .int 0, .int td_bend, .int td_hour, .int td_bendTold, .int td_hourTold]), (tr, kO 4 [.ref tr0, .ref tr1, .ref tr2, .ref tr3, .ref tr4, .ref tr5, .ref tr6, .int nw_inside, .int nw_night, .int nw_minute, .int nw_tasted, .int nw_lastCook, .int tr_stirred]), (tr0, kI k 6 (va_cpy nwf0 trf0 0 0 6)), (tr1, kI k 6 (va_cpy nwf1 trf1 0 0 6)), (tr2, kI k 6 (va_cpy nwf2 trf2 0 0 6)), (tr3, kI k 6 (va_cpy nwf3 trf3 0 0 6)), (tr4, kI k 6 (va_cpy nwf4 trf4 0 0 6)), (tr5, kI k 6 (va_cpy nwf5 trf5 0 0 6)), (tr6, kI k 6 (va_cpy nwf6 trf6 0 0 6)), (nw, kO 4 [.ref nw0, .ref nw1, .ref nw2, .ref nw3, .ref nw4, .ref nw5, .ref nw6, .int nw_inside, .int nw_night, .int nw_minute, .int nw_tasted, .int nw_lastCook, .int nw_stirred]), (nw0, kI k 6 nwf0), (nw1, kI k 6 nwf1), (nw2, kI k 6 nwf2), (nw3, kI k 6 nwf3), (nw4, kI k 6 nwf4), (nw5, kI k 6 nwf5), (nw6, kI k 6 nwf6)] H := hP
  have hD : va_D A [(x, kO 8 [x_tape, .ref td, x_draft, x_lines, x_draftLines, .ref nw, .ref tr, x_sights, x_past, x_marks, .long x_drawn]), (td, kO 7 [td_names, td_kinds, td_yards, td_paces, td_skills, td_snow, td_law, .int 0, .int 0, .int td_bend, .int td_hour, .int td_bendTold, .int td_hourTold]), (tr, kO 4 [.ref tr0, .ref tr1, .ref tr2, .ref tr3, .ref tr4, .ref tr5, .ref tr6, .int nw_inside, .int nw_night, .int nw_minute, .int nw_tasted, .int nw_lastCook, .int tr_stirred]), (tr0, kI k 6 (va_cpy nwf0 trf0 0 0 6)), (tr1, kI k 6 (va_cpy nwf1 trf1 0 0 6)), (tr2, kI k 6 (va_cpy nwf2 trf2 0 0 6)), (tr3, kI k 6 (va_cpy nwf3 trf3 0 0 6)), (tr4, kI k 6 (va_cpy nwf4 trf4 0 0 6)), (tr5, kI k 6 (va_cpy nwf5 trf5 0 0 6)), (tr6, kI k 6 (va_cpy nwf6 trf6 0 0 6)), (nw, kO 4 [.ref nw0, .ref nw1, .ref nw2, .ref nw3, .ref nw4, .ref nw5, .ref nw6, .int nw_inside, .int nw_night, .int nw_minute, .int nw_tasted, .int nw_lastCook, .int nw_stirred]), (nw0, kI k 6 nwf0), (nw1, kI k 6 nwf1), (nw2, kI k 6 nwf2), (nw3, kI k 6 nwf3), (nw4, kI k 6 nwf4), (nw5, kI k 6 nwf5), (nw6, kI k 6 nwf6)] := hD
  refine lv_aload_n hx hb dX8_when_11 rfl (lv_at hl 0 rfl) ?_
  refine va_get (D := D) (ci := 8) (v := .ref tr) (C := RX8) (T := TX8) (N := 11) hx hb hts hi8 hown hK hP 0 rfl rfl 6 (by decide) lf43 (fun _ h9 => h9) rfl dX8_when_12 ?_
  refine lv_aload_n hx hb dX8_when_15 rfl (lv_at hl 0 rfl) ?_
  refine va_get (D := D) (ci := 8) (v := .ref td) (C := RX8) (T := TX8) (N := 11) hx hb hts hi8 hown hK hP 0 rfl rfl 1 (by decide) lf19 (fun _ h9 => h9) rfl dX8_when_16 ?_
  refine lv_sipush (v := 400) hx hb dX8_when_19 (by decide) ?_
  refine kz_Vi (As := [.ref td, .int 400]) (rest := []) (wc := [(tr, kO 4 [.ref tr0, .ref tr1, .ref tr2, .ref tr3, .ref tr4, .ref tr5, .ref tr6, .int nw_inside, .int nw_night, .int nw_minute, .int nw_tasted, .int nw_lastCook, .int tr_stirred]), (td, kO 7 [td_names, td_kinds, td_yards, td_paces, td_skills, td_snow, td_law, .int 0, .int 0, .int td_bend, .int td_hour, .int td_bendTold, .int td_hourTold])]) (wr := [(x, kO 8 [x_tape, .ref td, x_draft, x_lines, x_draftLines, .ref nw, .ref tr, x_sights, x_past, x_marks, .long x_drawn]), (tr0, kI k 6 (va_cpy nwf0 trf0 0 0 6)), (tr1, kI k 6 (va_cpy nwf1 trf1 0 0 6)), (tr2, kI k 6 (va_cpy nwf2 trf2 0 0 6)), (tr3, kI k 6 (va_cpy nwf3 trf3 0 0 6)), (tr4, kI k 6 (va_cpy nwf4 trf4 0 0 6)), (tr5, kI k 6 (va_cpy nwf5 trf5 0 0 6)), (tr6, kI k 6 (va_cpy nwf6 trf6 0 0 6)), (nw, kO 4 [.ref nw0, .ref nw1, .ref nw2, .ref nw3, .ref nw4, .ref nw5, .ref nw6, .int nw_inside, .int nw_night, .int nw_minute, .int nw_tasted, .int nw_lastCook, .int nw_stirred]), (nw0, kI k 6 nwf0), (nw1, kI k 6 nwf1), (nw2, kI k 6 nwf2), (nw3, kI k 6 nwf3), (nw4, kI k 6 nwf4), (nw5, kI k 6 nwf5), (nw6, kI k 6 nwf6)]) ⟨hx, hb, hml, hown, hts⟩ hK hE hP hD hS hA (mX4_goOn1 l D k H.size tr td 400 (.ref tr0) (.ref tr1) (.ref tr2) (.ref tr3) (.ref tr4) (.ref tr5) (.ref tr6) nw_inside nw_night nw_minute nw_tasted nw_lastCook tr_stirred td_names td_kinds td_yards td_paces td_skills td_snow td_law td_bend td_hour td_bendTold td_hourTold (by first | decide | omega)) (cwV 2 hts gX8_when_X4_goOn rfl rfl rfl (by decide +kernel) (by rw [hR]; exact ⟨Nat.le_of_ble_eq_true rfl, Nat.le_of_ble_eq_true rfl⟩)) [2, 1] [0, 3, 4, 5, 6, 7, 8, 9, 10, 11, 12, 13, 14, 15, 16, 17] rfl rfl (by decide) (by decide) (by decide) 0 rfl rfl rfl hl.1 rfl (Nat.le_of_ble_eq_true rfl) dX8_when_22 (by rw [hR]; exact ⟨Nat.le_of_ble_eq_true rfl, Nat.le_of_ble_eq_true rfl⟩) (fun r2 u2 H locs hw2 hP hD hS => ?_)
  try dsimp only at hw2
  obtain rfl : r2 = (-1) := hw2
  have hP : va_P D vwCl [(x, kO 8 [x_tape, .ref td, x_draft, x_lines, x_draftLines, .ref nw, .ref tr, x_sights, x_past, x_marks, .long x_drawn]), (tr0, kI k 6 (va_cpy nwf0 trf0 0 0 6)), (tr1, kI k 6 (va_cpy nwf1 trf1 0 0 6)), (tr2, kI k 6 (va_cpy nwf2 trf2 0 0 6)), (tr3, kI k 6 (va_cpy nwf3 trf3 0 0 6)), (tr4, kI k 6 (va_cpy nwf4 trf4 0 0 6)), (tr5, kI k 6 (va_cpy nwf5 trf5 0 0 6)), (tr6, kI k 6 (va_cpy nwf6 trf6 0 0 6)), (nw, kO 4 [.ref nw0, .ref nw1, .ref nw2, .ref nw3, .ref nw4, .ref nw5, .ref nw6, .int nw_inside, .int nw_night, .int nw_minute, .int nw_tasted, .int nw_lastCook, .int nw_stirred]), (nw0, kI k 6 nwf0), (nw1, kI k 6 nwf1), (nw2, kI k 6 nwf2), (nw3, kI k 6 nwf3), (nw4, kI k 6 nwf4), (nw5, kI k 6 nwf5), (nw6, kI k 6 nwf6), (tr, kO 4 [.ref tr0, .ref tr1, .ref tr2, .ref tr3, .ref tr4, .ref tr5, .ref tr6, .int nw_inside, .int nw_night, .int (nw_minute + 1), .int nw_tasted, .int nw_lastCook, .int 0]), (td, kO 7 [td_names, td_kinds, td_yards, td_paces, td_skills, td_snow, td_law, .int 0, .int 0, .int td_bend, .int td_hour, .int td_bendTold, .int td_hourTold])] H := hP
  have hD : va_D A [(x, kO 8 [x_tape, .ref td, x_draft, x_lines, x_draftLines, .ref nw, .ref tr, x_sights, x_past, x_marks, .long x_drawn]), (tr0, kI k 6 (va_cpy nwf0 trf0 0 0 6)), (tr1, kI k 6 (va_cpy nwf1 trf1 0 0 6)), (tr2, kI k 6 (va_cpy nwf2 trf2 0 0 6)), (tr3, kI k 6 (va_cpy nwf3 trf3 0 0 6)), (tr4, kI k 6 (va_cpy nwf4 trf4 0 0 6)), (tr5, kI k 6 (va_cpy nwf5 trf5 0 0 6)), (tr6, kI k 6 (va_cpy nwf6 trf6 0 0 6)), (nw, kO 4 [.ref nw0, .ref nw1, .ref nw2, .ref nw3, .ref nw4, .ref nw5, .ref nw6, .int nw_inside, .int nw_night, .int nw_minute, .int nw_tasted, .int nw_lastCook, .int nw_stirred]), (nw0, kI k 6 nwf0), (nw1, kI k 6 nwf1), (nw2, kI k 6 nwf2), (nw3, kI k 6 nwf3), (nw4, kI k 6 nwf4), (nw5, kI k 6 nwf5), (nw6, kI k 6 nwf6), (tr, kO 4 [.ref tr0, .ref tr1, .ref tr2, .ref tr3, .ref tr4, .ref tr5, .ref tr6, .int nw_inside, .int nw_night, .int (nw_minute + 1), .int nw_tasted, .int nw_lastCook, .int 0]), (td, kO 7 [td_names, td_kinds, td_yards, td_paces, td_skills, td_snow, td_law, .int 0, .int 0, .int td_bend, .int td_hour, .int td_bendTold, .int td_hourTold])] := hD
  rw [hQ]
  have hP9 := hP.sub (ws' := []) [] rfl
  have hD9 := hD.sub (ws' := []) [] (by decide) rfl
  exact W.iret (v := (-1)) hx hb hr (fun zt ht hW => ⟨⟨(-1), (), rfl, rfl, by rw [ht]; exact hP9, hD9⟩, hS.F ht⟩) hS.2.2 dX8_when_25
theorem dX8_nextCook_0 : decode cX8_nextCook 0 = .ok (.aload_n 0, 1) := by decide +kernel
theorem dX8_nextCook_1 : decode cX8_nextCook 1 = .ok (.getfield 43, 3) := by decide +kernel
theorem dX8_nextCook_4 : decode cX8_nextCook 4 = .ok (.aload_n 0, 1) := by decide +kernel
theorem dX8_nextCook_5 : decode cX8_nextCook 5 = .ok (.getfield 19, 3) := by decide +kernel
theorem dX8_nextCook_8 : decode cX8_nextCook 8 = .ok (.sipush 400, 3) := by decide +kernel
theorem dX8_nextCook_11 : decode cX8_nextCook 11 = .ok (.invokevirtual 182, 3) := by decide +kernel
theorem dX8_nextCook_14 : decode cX8_nextCook 14 = .ok (.iconst (-1), 1) := by decide +kernel
theorem dX8_nextCook_15 : decode cX8_nextCook 15 = .ok (.if_icmp .ne 7, 3) := by decide +kernel
theorem dX8_nextCook_18 : decode cX8_nextCook 18 = .ok (.iconst (-1), 1) := by decide +kernel
theorem dX8_nextCook_19 : decode cX8_nextCook 19 = .ok (.goto 10, 3) := by decide +kernel
theorem dX8_nextCook_29 : decode cX8_nextCook 29 = .ok (.ireturn, 1) := by decide +kernel
set_option maxRecDepth 20000 in
theorem ggX8_nextCook_X4_goOn : GoodIn wsX8_nextCook wsX4_goOn := goodIn_r _ [8, 9, 10, 11, 12, 13, 14, 15, 16, 17, 18, 19, 20, 7, 21, 22, 23, 24, 25, 26, 27, 28, 29, 30, 31, 32, 33, 34, 35, 36, 37, 38, 39, 40, 41, 42, 43, 44, 45, 46, 47, 48, 49, 50, 51, 52, 53, 54, 55, 56, 57, 58, 59, 60, 61, 62, 63, 64, 65, 66, 67, 68, 69, 70, 71, 72, 73, 74, 75, 76, 77, 78, 79, 80, 81, 82, 83, 84, 85, 86, 87, 88, 89, 90, 91, 92, 93, 94, 95, 96, 97, 98, 99, 100, 101, 102, 114, 115, 116, 117, 118, 119, 120, 121, 122, 123, 124, 125, 126, 127, 128, 129, 130, 131, 132, 133, 134, 135, 136, 137, 138, 139, 140, 141, 142, 143, 144] rfl (by decide +kernel)
set_option maxRecDepth 20000 in
theorem gX8_nextCook_X4_goOn : GoodIn wsX8_nextCook (wsV RX8 182 RX4 yX4_goOn wsX4_goOn) := goodIn_app (goodIn_of _ (by decide +kernel)) ggX8_nextCook_X4_goOn
set_option maxHeartbeats 4000000 in
set_option maxRecDepth 100000 in
theorem mX8_nextCook (l : Launch) (D : va_G) (k : Nat → ClassId) (sz : Nat) (x : Nat) (x_tape : Value) (td : Nat) (x_draft : Value) (x_lines : Value) (x_draftLines : Value) (x_now : Value) (tr : Nat) (x_sights : Value) (x_past : Value) (x_marks : Value) (x_drawn : Int64) (td_names : Value) (td_kinds : Value) (td_yards : Value) (td_paces : Value) (td_skills : Value) (td_snow : Value) (td_law : Value) (td_bend : Int32) (td_hour : Int32) (td_bendTold : Int32) (td_hourTold : Int32) (tr_yards : Value) (tr_paces : Value) (tr_stuck : Value) (tr_hirers : Value) (tr_places : Value) (tr_cameAt : Value) (tr_cooked : Value) (tr_inside : Int32) (tr_night : Int32) (tr_minute : Int32) (tr_tasted : Int32) (tr_lastCook : Int32) (tr_stirred : Int32) : Met l yX8_nextCook wsX8_nextCook ({ frames := 5, cells := 0, slots := 0, locals := 350 }) (va_Pc [.ref x] (kz_Pre D k [(x, kO 8 [x_tape, .ref td, x_draft, x_lines, x_draftLines, x_now, .ref tr, x_sights, x_past, x_marks, .long x_drawn]), (td, kO 7 [td_names, td_kinds, td_yards, td_paces, td_skills, td_snow, td_law, .int 0, .int 0, .int td_bend, .int td_hour, .int td_bendTold, .int td_hourTold]), (tr, kO 4 [tr_yards, tr_paces, tr_stuck, tr_hirers, tr_places, tr_cameAt, tr_cooked, .int tr_inside, .int tr_night, .int tr_minute, .int tr_tasted, .int tr_lastCook, .int tr_stirred])] sz)) (va_Qi (fun (rr : Int32) (uu : Unit) => rr = (-1)) (fun uu zt => kz_B D (va_A [(x, kO 8 [x_tape, .ref td, x_draft, x_lines, x_draftLines, x_now, .ref tr, x_sights, x_past, x_marks, .long x_drawn]), (td, kO 7 [td_names, td_kinds, td_yards, td_paces, td_skills, td_snow, td_law, .int 0, .int 0, .int td_bend, .int td_hour, .int td_bendTold, .int td_hourTold]), (tr, kO 4 [tr_yards, tr_paces, tr_stuck, tr_hirers, tr_places, tr_cameAt, tr_cooked, .int tr_inside, .int tr_night, .int tr_minute, .int tr_tasted, .int tr_lastCook, .int tr_stirred])] sz) [(x, kO 8 [x_tape, .ref td, x_draft, x_lines, x_draftLines, x_now, .ref tr, x_sights, x_past, x_marks, .long x_drawn]), (td, kO 7 [td_names, td_kinds, td_yards, td_paces, td_skills, td_snow, td_law, .int 0, .int 0, .int td_bend, .int td_hour, .int td_bendTold, .int td_hourTold]), (tr, kO 4 [tr_yards, tr_paces, tr_stuck, tr_hirers, tr_places, tr_cameAt, tr_cooked, .int tr_inside, .int tr_night, .int (tr_minute + 1), .int tr_tasted, .int tr_lastCook, .int 0])] zt) (va_A [(x, kO 8 [x_tape, .ref td, x_draft, x_lines, x_draftLines, x_now, .ref tr, x_sights, x_past, x_marks, .long x_drawn]), (td, kO 7 [td_names, td_kinds, td_yards, td_paces, td_skills, td_snow, td_law, .int 0, .int 0, .int td_bend, .int td_hour, .int td_bendTold, .int td_hourTold]), (tr, kO 4 [tr_yards, tr_paces, tr_stuck, tr_hirers, tr_places, tr_cameAt, tr_cooked, .int tr_inside, .int tr_night, .int tr_minute, .int tr_tasted, .int tr_lastCook, .int tr_stirred])] sz)) 0 0 (va_A [(x, kO 8 [x_tape, .ref td, x_draft, x_lines, x_draftLines, x_now, .ref tr, x_sights, x_past, x_marks, .long x_drawn]), (td, kO 7 [td_names, td_kinds, td_yards, td_paces, td_skills, td_snow, td_law, .int 0, .int 0, .int td_bend, .int td_hour, .int td_bendTold, .int td_hourTold]), (tr, kO 4 [tr_yards, tr_paces, tr_stuck, tr_hirers, tr_places, tr_cameAt, tr_cooked, .int tr_inside, .int tr_night, .int tr_minute, .int tr_tasted, .int tr_lastCook, .int tr_stirred])] sz) := by
  refine Met.ofW (cc := cX8_nextCook) (maxL := 1) (ret := (some .int)) (by decide) rfl ?_
  intro p e s m args below meth c s₁ B hml hv
  obtain ⟨hav, hsz, hP, hK, hD0, hE⟩ := hv
  have hx := B.exec
  have hb := B.bytes
  have hr := B.returns
  have hts := atoms_spec (ws := wsX8_nextCook) B.pre
  have hown : s.vm.findClass RX8 = some m.cls := findClass_of_methodNamed B.named
  have hlocks := B.notSynchronized
  have hi8 : ∀ w ∈ u_ws RX8 TX8 11, w ∈ wsX8_nextCook := by decide +kernel
  have lf43 := hts (.fieldLink RX8 43 "LastCook" "trial" "LLastCook$Road;") (by decide +kernel)
  have lf19 := hts (.fieldLink RX8 19 "LastCook" "told" "LLastCook$Told;") (by decide +kernel)
  subst hsz
  have hD := hD0.self (sz := s.heap.size)
  generalize hAe : va_A [(x, kO 8 [x_tape, .ref td, x_draft, x_lines, x_draftLines, x_now, .ref tr, x_sights, x_past, x_marks, .long x_drawn]), (td, kO 7 [td_names, td_kinds, td_yards, td_paces, td_skills, td_snow, td_law, .int 0, .int 0, .int td_bend, .int td_hour, .int td_bendTold, .int td_hourTold]), (tr, kO 4 [tr_yards, tr_paces, tr_stuck, tr_hirers, tr_places, tr_cameAt, tr_cooked, .int tr_inside, .int tr_night, .int tr_minute, .int tr_tasted, .int tr_lastCook, .int tr_stirred])] s.heap.size = A at hD ⊢
  have hA : ∀ q : Nat, s.heap.size ≤ q → A q := fun q h => by rw [← hAe]; exact Or.inr h
  have hS : va_S A s.heap s.heap [] := va_S.rf
  have hl := lv_entry ([.ref x]) (n := 1) (Nat.le_of_ble_eq_true rfl)
  rw [show entryFrame m args 1 = entryFrame m ([.ref x] : List Value).toArray 1 by rw [hav], lg_entry_eq]
  generalize (lg_sl ([.ref x]) ++ List.replicate (1 - (lg_sl ([.ref x])).length) Slot.unset).toArray = ls at hl ⊢
  have hl : lv_has ls 1 [(0, .ref x)] := hl
  obtain ⟨R, hR⟩ : ∃ R, R = (headSpec wsX8_nextCook ({ frames := 5, cells := 0, slots := 0, locals := 350 } : Room)).room := ⟨_, rfl⟩
  rw [← hR]
  generalize hQ : MQ below _ args s 0 0 A = Q
  replace hQ := hQ.symm
  obtain ⟨H, hH⟩ : ∃ H, H = s.heap := ⟨_, rfl⟩
  rw [← hH] at hP ⊢
  have hS : va_S A s.heap H [] := by rw [hH]; exact hS
  refine lv_aload_n hx hb dX8_nextCook_0 rfl (lv_at hl 0 rfl) ?_
  refine va_get (D := D) (ci := 8) (v := .ref tr) (C := RX8) (T := TX8) (N := 11) hx hb hts hi8 hown hK hP 0 rfl rfl 6 (by decide) lf43 (fun _ h9 => h9) rfl dX8_nextCook_1 ?_
  refine lv_aload_n hx hb dX8_nextCook_4 rfl (lv_at hl 0 rfl) ?_
  refine va_get (D := D) (ci := 8) (v := .ref td) (C := RX8) (T := TX8) (N := 11) hx hb hts hi8 hown hK hP 0 rfl rfl 1 (by decide) lf19 (fun _ h9 => h9) rfl dX8_nextCook_5 ?_
  refine lv_sipush (v := 400) hx hb dX8_nextCook_8 (by decide) ?_
  refine kz_Vi (As := [.ref td, .int 400]) (rest := []) (wc := [(tr, kO 4 [tr_yards, tr_paces, tr_stuck, tr_hirers, tr_places, tr_cameAt, tr_cooked, .int tr_inside, .int tr_night, .int tr_minute, .int tr_tasted, .int tr_lastCook, .int tr_stirred]), (td, kO 7 [td_names, td_kinds, td_yards, td_paces, td_skills, td_snow, td_law, .int 0, .int 0, .int td_bend, .int td_hour, .int td_bendTold, .int td_hourTold])]) (wr := [(x, kO 8 [x_tape, .ref td, x_draft, x_lines, x_draftLines, x_now, .ref tr, x_sights, x_past, x_marks, .long x_drawn])]) ⟨hx, hb, hml, hown, hts⟩ hK hE hP hD hS hA (mX4_goOn1 l D k H.size tr td 400 tr_yards tr_paces tr_stuck tr_hirers tr_places tr_cameAt tr_cooked tr_inside tr_night tr_minute tr_tasted tr_lastCook tr_stirred td_names td_kinds td_yards td_paces td_skills td_snow td_law td_bend td_hour td_bendTold td_hourTold (by first | decide | omega)) (cwV 2 hts gX8_nextCook_X4_goOn rfl rfl rfl (by decide +kernel) (by rw [hR]; exact ⟨Nat.le_of_ble_eq_true rfl, Nat.le_of_ble_eq_true rfl⟩)) [2, 1] [0] rfl rfl (by decide) (by decide) (by decide) 0 rfl rfl rfl hl.1 rfl (Nat.le_of_ble_eq_true rfl) dX8_nextCook_11 (by rw [hR]; exact ⟨Nat.le_of_ble_eq_true rfl, Nat.le_of_ble_eq_true rfl⟩) (fun r1 u1 H locs hw1 hP hD hS => ?_)
  try dsimp only at hw1
  obtain rfl : r1 = (-1) := hw1
  have hP : va_P D vwCl [(x, kO 8 [x_tape, .ref td, x_draft, x_lines, x_draftLines, x_now, .ref tr, x_sights, x_past, x_marks, .long x_drawn]), (tr, kO 4 [tr_yards, tr_paces, tr_stuck, tr_hirers, tr_places, tr_cameAt, tr_cooked, .int tr_inside, .int tr_night, .int (tr_minute + 1), .int tr_tasted, .int tr_lastCook, .int 0]), (td, kO 7 [td_names, td_kinds, td_yards, td_paces, td_skills, td_snow, td_law, .int 0, .int 0, .int td_bend, .int td_hour, .int td_bendTold, .int td_hourTold])] H := hP
  have hD : va_D A [(x, kO 8 [x_tape, .ref td, x_draft, x_lines, x_draftLines, x_now, .ref tr, x_sights, x_past, x_marks, .long x_drawn]), (tr, kO 4 [tr_yards, tr_paces, tr_stuck, tr_hirers, tr_places, tr_cameAt, tr_cooked, .int tr_inside, .int tr_night, .int (tr_minute + 1), .int tr_tasted, .int tr_lastCook, .int 0]), (td, kO 7 [td_names, td_kinds, td_yards, td_paces, td_skills, td_snow, td_law, .int 0, .int 0, .int td_bend, .int td_hour, .int td_bendTold, .int td_hourTold])] := hD
  refine lv_iconst (v := (-1)) hx hb dX8_nextCook_14 (by decide) ?_
  refine lv_icmp_ne (tgt := 22) hx hb dX8_nextCook_15 (by decide) (fun c_2 => absurd (by decide) c_2) (fun c_2 => ?_)
  refine lv_iconst (v := (-1)) hx hb dX8_nextCook_18 (by decide) ?_
  refine lv_goto (tgt := 29) hx hb dX8_nextCook_19 (by decide) ?_
  rw [hQ]
  have hP9 := hP.sub (ws' := [(x, kO 8 [x_tape, .ref td, x_draft, x_lines, x_draftLines, x_now, .ref tr, x_sights, x_past, x_marks, .long x_drawn]), (td, kO 7 [td_names, td_kinds, td_yards, td_paces, td_skills, td_snow, td_law, .int 0, .int 0, .int td_bend, .int td_hour, .int td_bendTold, .int td_hourTold]), (tr, kO 4 [tr_yards, tr_paces, tr_stuck, tr_hirers, tr_places, tr_cameAt, tr_cooked, .int tr_inside, .int tr_night, .int (tr_minute + 1), .int tr_tasted, .int tr_lastCook, .int 0])]) [0, 2, 1] rfl
  have hD9 := hD.sub (ws' := [(x, kO 8 [x_tape, .ref td, x_draft, x_lines, x_draftLines, x_now, .ref tr, x_sights, x_past, x_marks, .long x_drawn]), (td, kO 7 [td_names, td_kinds, td_yards, td_paces, td_skills, td_snow, td_law, .int 0, .int 0, .int td_bend, .int td_hour, .int td_bendTold, .int td_hourTold]), (tr, kO 4 [tr_yards, tr_paces, tr_stuck, tr_hirers, tr_places, tr_cameAt, tr_cooked, .int tr_inside, .int tr_night, .int (tr_minute + 1), .int tr_tasted, .int tr_lastCook, .int 0])]) [0, 2, 1] (by decide) rfl
  exact W.iret (v := (-1)) hx hb hr (fun zt ht hW => ⟨⟨(-1), (), rfl, rfl, by rw [ht]; exact hP9, hD9⟩, hS.F ht⟩) hS.2.2 dX8_nextCook_29
theorem dX8_nextTaste_0 : decode cX8_nextTaste 0 = .ok (.aload_n 0, 1) := by decide +kernel
theorem dX8_nextTaste_1 : decode cX8_nextTaste 1 = .ok (.getfield 43, 3) := by decide +kernel
theorem dX8_nextTaste_4 : decode cX8_nextTaste 4 = .ok (.getfield 176, 3) := by decide +kernel
theorem dX8_nextTaste_7 : decode cX8_nextTaste 7 = .ok (.istore_n 1, 1) := by decide +kernel
theorem dX8_nextTaste_8 : decode cX8_nextTaste 8 = .ok (.aload_n 0, 1) := by decide +kernel
theorem dX8_nextTaste_9 : decode cX8_nextTaste 9 = .ok (.getfield 43, 3) := by decide +kernel
theorem dX8_nextTaste_12 : decode cX8_nextTaste 12 = .ok (.aload_n 0, 1) := by decide +kernel
theorem dX8_nextTaste_13 : decode cX8_nextTaste 13 = .ok (.getfield 19, 3) := by decide +kernel
theorem dX8_nextTaste_16 : decode cX8_nextTaste 16 = .ok (.sipush 400, 3) := by decide +kernel
theorem dX8_nextTaste_19 : decode cX8_nextTaste 19 = .ok (.invokevirtual 182, 3) := by decide +kernel
theorem dX8_nextTaste_22 : decode cX8_nextTaste 22 = .ok (.iconst (-1), 1) := by decide +kernel
theorem dX8_nextTaste_23 : decode cX8_nextTaste 23 = .ok (.if_icmp .ne 9, 3) := by decide +kernel
theorem dX8_nextTaste_26 : decode cX8_nextTaste 26 = .ok (.sipush (-1000), 3) := by decide +kernel
theorem dX8_nextTaste_29 : decode cX8_nextTaste 29 = .ok (.goto 12, 3) := by decide +kernel
theorem dX8_nextTaste_41 : decode cX8_nextTaste 41 = .ok (.ireturn, 1) := by decide +kernel
set_option maxRecDepth 20000 in
theorem ggX8_nextTaste_X4_goOn : GoodIn wsX8_nextTaste wsX4_goOn := goodIn_r _ [8, 9, 10, 11, 12, 13, 14, 15, 16, 17, 18, 19, 20, 7, 21, 22, 23, 24, 25, 26, 27, 28, 29, 30, 31, 32, 33, 34, 35, 36, 37, 38, 39, 40, 41, 42, 43, 44, 45, 46, 47, 48, 49, 50, 51, 52, 53, 54, 55, 56, 57, 58, 59, 60, 61, 62, 63, 64, 65, 66, 67, 68, 69, 70, 71, 72, 73, 74, 75, 76, 77, 78, 79, 80, 81, 82, 83, 84, 85, 86, 87, 88, 89, 90, 91, 92, 93, 94, 95, 96, 97, 98, 99, 100, 101, 102, 114, 115, 116, 117, 118, 119, 120, 121, 122, 123, 124, 125, 126, 127, 128, 129, 130, 131, 132, 133, 134, 135, 136, 137, 138, 139, 140, 141, 142, 143, 144] rfl (by decide +kernel)
set_option maxRecDepth 20000 in
theorem gX8_nextTaste_X4_goOn : GoodIn wsX8_nextTaste (wsV RX8 182 RX4 yX4_goOn wsX4_goOn) := goodIn_app (goodIn_of _ (by decide +kernel)) ggX8_nextTaste_X4_goOn
set_option maxHeartbeats 4000000 in
set_option maxRecDepth 100000 in
theorem mX8_nextTaste (l : Launch) (D : va_G) (k : Nat → ClassId) (sz : Nat) (x : Nat) (x_tape : Value) (td : Nat) (x_draft : Value) (x_lines : Value) (x_draftLines : Value) (x_now : Value) (tr : Nat) (x_sights : Value) (x_past : Value) (x_marks : Value) (x_drawn : Int64) (td_names : Value) (td_kinds : Value) (td_yards : Value) (td_paces : Value) (td_skills : Value) (td_snow : Value) (td_law : Value) (td_bend : Int32) (td_hour : Int32) (td_bendTold : Int32) (td_hourTold : Int32) (tr_yards : Value) (tr_paces : Value) (tr_stuck : Value) (tr_hirers : Value) (tr_places : Value) (tr_cameAt : Value) (tr_cooked : Value) (tr_inside : Int32) (tr_night : Int32) (tr_minute : Int32) (tr_tasted : Int32) (tr_lastCook : Int32) (tr_stirred : Int32) : Met l yX8_nextTaste wsX8_nextTaste ({ frames := 5, cells := 0, slots := 0, locals := 350 }) (va_Pc [.ref x] (kz_Pre D k [(x, kO 8 [x_tape, .ref td, x_draft, x_lines, x_draftLines, x_now, .ref tr, x_sights, x_past, x_marks, .long x_drawn]), (td, kO 7 [td_names, td_kinds, td_yards, td_paces, td_skills, td_snow, td_law, .int 0, .int 0, .int td_bend, .int td_hour, .int td_bendTold, .int td_hourTold]), (tr, kO 4 [tr_yards, tr_paces, tr_stuck, tr_hirers, tr_places, tr_cameAt, tr_cooked, .int tr_inside, .int tr_night, .int tr_minute, .int tr_tasted, .int tr_lastCook, .int tr_stirred])] sz)) (va_Qi (fun (rr : Int32) (uu : Unit) => rr = (-1000)) (fun uu zt => kz_B D (va_A [(x, kO 8 [x_tape, .ref td, x_draft, x_lines, x_draftLines, x_now, .ref tr, x_sights, x_past, x_marks, .long x_drawn]), (td, kO 7 [td_names, td_kinds, td_yards, td_paces, td_skills, td_snow, td_law, .int 0, .int 0, .int td_bend, .int td_hour, .int td_bendTold, .int td_hourTold]), (tr, kO 4 [tr_yards, tr_paces, tr_stuck, tr_hirers, tr_places, tr_cameAt, tr_cooked, .int tr_inside, .int tr_night, .int tr_minute, .int tr_tasted, .int tr_lastCook, .int tr_stirred])] sz) [(x, kO 8 [x_tape, .ref td, x_draft, x_lines, x_draftLines, x_now, .ref tr, x_sights, x_past, x_marks, .long x_drawn]), (td, kO 7 [td_names, td_kinds, td_yards, td_paces, td_skills, td_snow, td_law, .int 0, .int 0, .int td_bend, .int td_hour, .int td_bendTold, .int td_hourTold]), (tr, kO 4 [tr_yards, tr_paces, tr_stuck, tr_hirers, tr_places, tr_cameAt, tr_cooked, .int tr_inside, .int tr_night, .int (tr_minute + 1), .int tr_tasted, .int tr_lastCook, .int 0])] zt) (va_A [(x, kO 8 [x_tape, .ref td, x_draft, x_lines, x_draftLines, x_now, .ref tr, x_sights, x_past, x_marks, .long x_drawn]), (td, kO 7 [td_names, td_kinds, td_yards, td_paces, td_skills, td_snow, td_law, .int 0, .int 0, .int td_bend, .int td_hour, .int td_bendTold, .int td_hourTold]), (tr, kO 4 [tr_yards, tr_paces, tr_stuck, tr_hirers, tr_places, tr_cameAt, tr_cooked, .int tr_inside, .int tr_night, .int tr_minute, .int tr_tasted, .int tr_lastCook, .int tr_stirred])] sz)) 0 0 (va_A [(x, kO 8 [x_tape, .ref td, x_draft, x_lines, x_draftLines, x_now, .ref tr, x_sights, x_past, x_marks, .long x_drawn]), (td, kO 7 [td_names, td_kinds, td_yards, td_paces, td_skills, td_snow, td_law, .int 0, .int 0, .int td_bend, .int td_hour, .int td_bendTold, .int td_hourTold]), (tr, kO 4 [tr_yards, tr_paces, tr_stuck, tr_hirers, tr_places, tr_cameAt, tr_cooked, .int tr_inside, .int tr_night, .int tr_minute, .int tr_tasted, .int tr_lastCook, .int tr_stirred])] sz) := by
  refine Met.ofW (cc := cX8_nextTaste) (maxL := 2) (ret := (some .int)) (by decide) rfl ?_
  intro p e s m args below meth c s₁ B hml hv
  obtain ⟨hav, hsz, hP, hK, hD0, hE⟩ := hv
  have hx := B.exec
  have hb := B.bytes
  have hr := B.returns
  have hts := atoms_spec (ws := wsX8_nextTaste) B.pre
  have hown : s.vm.findClass RX8 = some m.cls := findClass_of_methodNamed B.named
  have hlocks := B.notSynchronized
  have hi4 : ∀ w ∈ u_ws RX4 TX4 13, w ∈ wsX8_nextTaste := by decide +kernel
  have hi8 : ∀ w ∈ u_ws RX8 TX8 11, w ∈ wsX8_nextTaste := by decide +kernel
  have lf43 := hts (.fieldLink RX8 43 "LastCook" "trial" "LLastCook$Road;") (by decide +kernel)
  have lf176 := hts (.fieldLink RX8 176 "LastCook$Road" "tasted" "I") (by decide +kernel)
  have lf19 := hts (.fieldLink RX8 19 "LastCook" "told" "LLastCook$Told;") (by decide +kernel)
  subst hsz
  have hD := hD0.self (sz := s.heap.size)
  generalize hAe : va_A [(x, kO 8 [x_tape, .ref td, x_draft, x_lines, x_draftLines, x_now, .ref tr, x_sights, x_past, x_marks, .long x_drawn]), (td, kO 7 [td_names, td_kinds, td_yards, td_paces, td_skills, td_snow, td_law, .int 0, .int 0, .int td_bend, .int td_hour, .int td_bendTold, .int td_hourTold]), (tr, kO 4 [tr_yards, tr_paces, tr_stuck, tr_hirers, tr_places, tr_cameAt, tr_cooked, .int tr_inside, .int tr_night, .int tr_minute, .int tr_tasted, .int tr_lastCook, .int tr_stirred])] s.heap.size = A at hD ⊢
  have hA : ∀ q : Nat, s.heap.size ≤ q → A q := fun q h => by rw [← hAe]; exact Or.inr h
  have hS : va_S A s.heap s.heap [] := va_S.rf
  have hl := lv_entry ([.ref x]) (n := 2) (Nat.le_of_ble_eq_true rfl)
  rw [show entryFrame m args 2 = entryFrame m ([.ref x] : List Value).toArray 2 by rw [hav], lg_entry_eq]
  generalize (lg_sl ([.ref x]) ++ List.replicate (2 - (lg_sl ([.ref x])).length) Slot.unset).toArray = ls at hl ⊢
  have hl : lv_has ls 2 [(0, .ref x)] := hl
  obtain ⟨R, hR⟩ : ∃ R, R = (headSpec wsX8_nextTaste ({ frames := 5, cells := 0, slots := 0, locals := 350 } : Room)).room := ⟨_, rfl⟩
  rw [← hR]
  generalize hQ : MQ below _ args s 0 0 A = Q
  replace hQ := hQ.symm
  obtain ⟨H, hH⟩ : ∃ H, H = s.heap := ⟨_, rfl⟩
  rw [← hH] at hP ⊢
  have hS : va_S A s.heap H [] := by rw [hH]; exact hS
  refine lv_aload_n hx hb dX8_nextTaste_0 rfl (lv_at hl 0 rfl) ?_
  refine va_get (D := D) (ci := 8) (v := .ref tr) (C := RX8) (T := TX8) (N := 11) hx hb hts hi8 hown hK hP 0 rfl rfl 6 (by decide) lf43 (fun _ h9 => h9) rfl dX8_nextTaste_1 ?_
  refine va_get (D := D) (ci := 4) (v := .int tr_tasted) (C := RX4) (T := TX4) (N := 13) hx hb hts hi4 hown hK hP 2 rfl rfl 10 (by decide) lf176 (fun _ h9 => h9) rfl dX8_nextTaste_4 ?_
  refine lv_istore_n (lv' := [(1, .int tr_tasted), (0, .ref x)]) hx hb dX8_nextTaste_7 rfl hl (by decide) rfl (fun ls hl => ?_)
  refine lv_aload_n hx hb dX8_nextTaste_8 rfl (lv_at hl 1 rfl) ?_
  refine va_get (D := D) (ci := 8) (v := .ref tr) (C := RX8) (T := TX8) (N := 11) hx hb hts hi8 hown hK hP 0 rfl rfl 6 (by decide) lf43 (fun _ h9 => h9) rfl dX8_nextTaste_9 ?_
  refine lv_aload_n hx hb dX8_nextTaste_12 rfl (lv_at hl 1 rfl) ?_
  refine va_get (D := D) (ci := 8) (v := .ref td) (C := RX8) (T := TX8) (N := 11) hx hb hts hi8 hown hK hP 0 rfl rfl 1 (by decide) lf19 (fun _ h9 => h9) rfl dX8_nextTaste_13 ?_
  refine lv_sipush (v := 400) hx hb dX8_nextTaste_16 (by decide) ?_
  refine kz_Vi (As := [.ref td, .int 400]) (rest := []) (wc := [(tr, kO 4 [tr_yards, tr_paces, tr_stuck, tr_hirers, tr_places, tr_cameAt, tr_cooked, .int tr_inside, .int tr_night, .int tr_minute, .int tr_tasted, .int tr_lastCook, .int tr_stirred]), (td, kO 7 [td_names, td_kinds, td_yards, td_paces, td_skills, td_snow, td_law, .int 0, .int 0, .int td_bend, .int td_hour, .int td_bendTold, .int td_hourTold])]) (wr := [(x, kO 8 [x_tape, .ref td, x_draft, x_lines, x_draftLines, x_now, .ref tr, x_sights, x_past, x_marks, .long x_drawn])]) ⟨hx, hb, hml, hown, hts⟩ hK hE hP hD hS hA (mX4_goOn1 l D k H.size tr td 400 tr_yards tr_paces tr_stuck tr_hirers tr_places tr_cameAt tr_cooked tr_inside tr_night tr_minute tr_tasted tr_lastCook tr_stirred td_names td_kinds td_yards td_paces td_skills td_snow td_law td_bend td_hour td_bendTold td_hourTold (by first | decide | omega)) (cwV 2 hts gX8_nextTaste_X4_goOn rfl rfl rfl (by decide +kernel) (by rw [hR]; exact ⟨Nat.le_of_ble_eq_true rfl, Nat.le_of_ble_eq_true rfl⟩)) [2, 1] [0] rfl rfl (by decide) (by decide) (by decide) 0 rfl rfl rfl hl.1 rfl (Nat.le_of_ble_eq_true rfl) dX8_nextTaste_19 (by rw [hR]; exact ⟨Nat.le_of_ble_eq_true rfl, Nat.le_of_ble_eq_true rfl⟩) (fun r1 u1 H locs hw1 hP hD hS => ?_)
  try dsimp only at hw1
  obtain rfl : r1 = (-1) := hw1
  have hP : va_P D vwCl [(x, kO 8 [x_tape, .ref td, x_draft, x_lines, x_draftLines, x_now, .ref tr, x_sights, x_past, x_marks, .long x_drawn]), (tr, kO 4 [tr_yards, tr_paces, tr_stuck, tr_hirers, tr_places, tr_cameAt, tr_cooked, .int tr_inside, .int tr_night, .int (tr_minute + 1), .int tr_tasted, .int tr_lastCook, .int 0]), (td, kO 7 [td_names, td_kinds, td_yards, td_paces, td_skills, td_snow, td_law, .int 0, .int 0, .int td_bend, .int td_hour, .int td_bendTold, .int td_hourTold])] H := hP
  have hD : va_D A [(x, kO 8 [x_tape, .ref td, x_draft, x_lines, x_draftLines, x_now, .ref tr, x_sights, x_past, x_marks, .long x_drawn]), (tr, kO 4 [tr_yards, tr_paces, tr_stuck, tr_hirers, tr_places, tr_cameAt, tr_cooked, .int tr_inside, .int tr_night, .int (tr_minute + 1), .int tr_tasted, .int tr_lastCook, .int 0]), (td, kO 7 [td_names, td_kinds, td_yards, td_paces, td_skills, td_snow, td_law, .int 0, .int 0, .int td_bend, .int td_hour, .int td_bendTold, .int td_hourTold])] := hD
  refine lv_iconst (v := (-1)) hx hb dX8_nextTaste_22 (by decide) ?_
  refine lv_icmp_ne (tgt := 32) hx hb dX8_nextTaste_23 (by decide) (fun c_2 => absurd (by decide) c_2) (fun c_2 => ?_)
  refine lv_sipush (v := (-1000)) hx hb dX8_nextTaste_26 (by decide) ?_
  refine lv_goto (tgt := 41) hx hb dX8_nextTaste_29 (by decide) ?_
  rw [hQ]
  have hP9 := hP.sub (ws' := [(x, kO 8 [x_tape, .ref td, x_draft, x_lines, x_draftLines, x_now, .ref tr, x_sights, x_past, x_marks, .long x_drawn]), (td, kO 7 [td_names, td_kinds, td_yards, td_paces, td_skills, td_snow, td_law, .int 0, .int 0, .int td_bend, .int td_hour, .int td_bendTold, .int td_hourTold]), (tr, kO 4 [tr_yards, tr_paces, tr_stuck, tr_hirers, tr_places, tr_cameAt, tr_cooked, .int tr_inside, .int tr_night, .int (tr_minute + 1), .int tr_tasted, .int tr_lastCook, .int 0])]) [0, 2, 1] rfl
  have hD9 := hD.sub (ws' := [(x, kO 8 [x_tape, .ref td, x_draft, x_lines, x_draftLines, x_now, .ref tr, x_sights, x_past, x_marks, .long x_drawn]), (td, kO 7 [td_names, td_kinds, td_yards, td_paces, td_skills, td_snow, td_law, .int 0, .int 0, .int td_bend, .int td_hour, .int td_bendTold, .int td_hourTold]), (tr, kO 4 [tr_yards, tr_paces, tr_stuck, tr_hirers, tr_places, tr_cameAt, tr_cooked, .int tr_inside, .int tr_night, .int (tr_minute + 1), .int tr_tasted, .int tr_lastCook, .int 0])]) [0, 2, 1] (by decide) rfl
  exact W.iret (v := (-1000)) hx hb hr (fun zt ht hW => ⟨⟨(-1000), (), rfl, rfl, by rw [ht]; exact hP9, hD9⟩, hS.F ht⟩) hS.2.2 dX8_nextTaste_41
