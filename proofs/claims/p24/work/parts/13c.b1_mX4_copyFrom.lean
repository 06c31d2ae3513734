theorem dX4_copyFrom_0 : decode cX4_copyFrom 0 = .ok (.aload_n 1, 1) := dk_aload_n_1 (by decide +kernel)
theorem dX4_copyFrom_1 : decode cX4_copyFrom 1 = .ok (.getfield 9, 3) := dk_getfield (by decide +kernel)
theorem dX4_copyFrom_4 : decode cX4_copyFrom 4 = .ok (.iconst 0, 1) := dk_iconst_0 (by decide +kernel)
theorem dX4_copyFrom_5 : decode cX4_copyFrom 5 = .ok (.aload_n 0, 1) := dk_aload_n_0 (by decide +kernel)
theorem dX4_copyFrom_6 : decode cX4_copyFrom 6 = .ok (.getfield 9, 3) := dk_getfield (by decide +kernel)
theorem dX4_copyFrom_9 : decode cX4_copyFrom 9 = .ok (.iconst 0, 1) := dk_iconst_0 (by decide +kernel)
theorem dX4_copyFrom_10 : decode cX4_copyFrom 10 = .ok (.bipush 6, 2) := dk_bipush (by decide +kernel)
theorem dX4_copyFrom_12 : decode cX4_copyFrom 12 = .ok (.invokestatic 60, 3) := dk_invokestatic (by decide +kernel)
theorem dX4_copyFrom_15 : decode cX4_copyFrom 15 = .ok (.aload_n 1, 1) := dk_aload_n_1 (by decide +kernel)
theorem dX4_copyFrom_16 : decode cX4_copyFrom 16 = .ok (.getfield 15, 3) := dk_getfield (by decide +kernel)
theorem dX4_copyFrom_19 : decode cX4_copyFrom 19 = .ok (.iconst 0, 1) := dk_iconst_0 (by decide +kernel)
theorem dX4_copyFrom_20 : decode cX4_copyFrom 20 = .ok (.aload_n 0, 1) := dk_aload_n_0 (by decide +kernel)
theorem dX4_copyFrom_21 : decode cX4_copyFrom 21 = .ok (.getfield 15, 3) := dk_getfield (by decide +kernel)
theorem dX4_copyFrom_24 : decode cX4_copyFrom 24 = .ok (.iconst 0, 1) := dk_iconst_0 (by decide +kernel)
theorem dX4_copyFrom_25 : decode cX4_copyFrom 25 = .ok (.bipush 6, 2) := dk_bipush (by decide +kernel)
theorem dX4_copyFrom_27 : decode cX4_copyFrom 27 = .ok (.invokestatic 60, 3) := dk_invokestatic (by decide +kernel)
theorem dX4_copyFrom_30 : decode cX4_copyFrom 30 = .ok (.aload_n 1, 1) := dk_aload_n_1 (by decide +kernel)
theorem dX4_copyFrom_31 : decode cX4_copyFrom 31 = .ok (.getfield 18, 3) := dk_getfield (by decide +kernel)
theorem dX4_copyFrom_34 : decode cX4_copyFrom 34 = .ok (.iconst 0, 1) := dk_iconst_0 (by decide +kernel)
theorem dX4_copyFrom_35 : decode cX4_copyFrom 35 = .ok (.aload_n 0, 1) := dk_aload_n_0 (by decide +kernel)
theorem dX4_copyFrom_36 : decode cX4_copyFrom 36 = .ok (.getfield 18, 3) := dk_getfield (by decide +kernel)
theorem dX4_copyFrom_39 : decode cX4_copyFrom 39 = .ok (.iconst 0, 1) := dk_iconst_0 (by decide +kernel)
theorem dX4_copyFrom_40 : decode cX4_copyFrom 40 = .ok (.bipush 6, 2) := dk_bipush (by decide +kernel)
theorem dX4_copyFrom_42 : decode cX4_copyFrom 42 = .ok (.invokestatic 60, 3) := dk_invokestatic (by decide +kernel)
theorem dX4_copyFrom_45 : decode cX4_copyFrom 45 = .ok (.aload_n 1, 1) := dk_aload_n_1 (by decide +kernel)
theorem dX4_copyFrom_46 : decode cX4_copyFrom 46 = .ok (.getfield 21, 3) := dk_getfield (by decide +kernel)
theorem dX4_copyFrom_49 : decode cX4_copyFrom 49 = .ok (.iconst 0, 1) := dk_iconst_0 (by decide +kernel)
theorem dX4_copyFrom_50 : decode cX4_copyFrom 50 = .ok (.aload_n 0, 1) := dk_aload_n_0 (by decide +kernel)
theorem dX4_copyFrom_51 : decode cX4_copyFrom 51 = .ok (.getfield 21, 3) := dk_getfield (by decide +kernel)
theorem dX4_copyFrom_54 : decode cX4_copyFrom 54 = .ok (.iconst 0, 1) := dk_iconst_0 (by decide +kernel)
theorem dX4_copyFrom_55 : decode cX4_copyFrom 55 = .ok (.bipush 6, 2) := dk_bipush (by decide +kernel)
theorem dX4_copyFrom_57 : decode cX4_copyFrom 57 = .ok (.invokestatic 60, 3) := dk_invokestatic (by decide +kernel)
theorem dX4_copyFrom_60 : decode cX4_copyFrom 60 = .ok (.aload_n 1, 1) := dk_aload_n_1 (by decide +kernel)
theorem dX4_copyFrom_61 : decode cX4_copyFrom 61 = .ok (.getfield 24, 3) := dk_getfield (by decide +kernel)
theorem dX4_copyFrom_64 : decode cX4_copyFrom 64 = .ok (.iconst 0, 1) := dk_iconst_0 (by decide +kernel)
theorem dX4_copyFrom_65 : decode cX4_copyFrom 65 = .ok (.aload_n 0, 1) := dk_aload_n_0 (by decide +kernel)
theorem dX4_copyFrom_66 : decode cX4_copyFrom 66 = .ok (.getfield 24, 3) := dk_getfield (by decide +kernel)
theorem dX4_copyFrom_69 : decode cX4_copyFrom 69 = .ok (.iconst 0, 1) := dk_iconst_0 (by decide +kernel)
theorem dX4_copyFrom_70 : decode cX4_copyFrom 70 = .ok (.bipush 6, 2) := dk_bipush (by decide +kernel)
theorem dX4_copyFrom_72 : decode cX4_copyFrom 72 = .ok (.invokestatic 60, 3) := dk_invokestatic (by decide +kernel)
theorem dX4_copyFrom_75 : decode cX4_copyFrom 75 = .ok (.aload_n 1, 1) := dk_aload_n_1 (by decide +kernel)
theorem dX4_copyFrom_76 : decode cX4_copyFrom 76 = .ok (.getfield 27, 3) := dk_getfield (by decide +kernel)
theorem dX4_copyFrom_79 : decode cX4_copyFrom 79 = .ok (.iconst 0, 1) := dk_iconst_0 (by decide +kernel)
theorem dX4_copyFrom_80 : decode cX4_copyFrom 80 = .ok (.aload_n 0, 1) := dk_aload_n_0 (by decide +kernel)
theorem dX4_copyFrom_81 : decode cX4_copyFrom 81 = .ok (.getfield 27, 3) := dk_getfield (by decide +kernel)
theorem dX4_copyFrom_84 : decode cX4_copyFrom 84 = .ok (.iconst 0, 1) := dk_iconst_0 (by decide +kernel)
theorem dX4_copyFrom_85 : decode cX4_copyFrom 85 = .ok (.bipush 6, 2) := dk_bipush (by decide +kernel)
theorem dX4_copyFrom_87 : decode cX4_copyFrom 87 = .ok (.invokestatic 60, 3) := dk_invokestatic (by decide +kernel)
theorem dX4_copyFrom_90 : decode cX4_copyFrom 90 = .ok (.aload_n 1, 1) := dk_aload_n_1 (by decide +kernel)
theorem dX4_copyFrom_91 : decode cX4_copyFrom 91 = .ok (.getfield 30, 3) := dk_getfield (by decide +kernel)
theorem dX4_copyFrom_94 : decode cX4_copyFrom 94 = .ok (.iconst 0, 1) := dk_iconst_0 (by decide +kernel)
theorem dX4_copyFrom_95 : decode cX4_copyFrom 95 = .ok (.aload_n 0, 1) := dk_aload_n_0 (by decide +kernel)
theorem dX4_copyFrom_96 : decode cX4_copyFrom 96 = .ok (.getfield 30, 3) := dk_getfield (by decide +kernel)
theorem dX4_copyFrom_99 : decode cX4_copyFrom 99 = .ok (.iconst 0, 1) := dk_iconst_0 (by decide +kernel)
theorem dX4_copyFrom_100 : decode cX4_copyFrom 100 = .ok (.bipush 6, 2) := dk_bipush (by decide +kernel)
theorem dX4_copyFrom_102 : decode cX4_copyFrom 102 = .ok (.invokestatic 60, 3) := dk_invokestatic (by decide +kernel)
theorem dX4_copyFrom_105 : decode cX4_copyFrom 105 = .ok (.aload_n 0, 1) := dk_aload_n_0 (by decide +kernel)
theorem dX4_copyFrom_106 : decode cX4_copyFrom 106 = .ok (.aload_n 1, 1) := dk_aload_n_1 (by decide +kernel)
theorem dX4_copyFrom_107 : decode cX4_copyFrom 107 = .ok (.getfield 50, 3) := dk_getfield (by decide +kernel)
theorem dX4_copyFrom_110 : decode cX4_copyFrom 110 = .ok (.putfield 50, 3) := dk_putfield (by decide +kernel)
theorem dX4_copyFrom_113 : decode cX4_copyFrom 113 = .ok (.aload_n 0, 1) := dk_aload_n_0 (by decide +kernel)
theorem dX4_copyFrom_114 : decode cX4_copyFrom 114 = .ok (.aload_n 1, 1) := dk_aload_n_1 (by decide +kernel)
theorem dX4_copyFrom_115 : decode cX4_copyFrom 115 = .ok (.getfield 37, 3) := dk_getfield (by decide +kernel)
theorem dX4_copyFrom_118 : decode cX4_copyFrom 118 = .ok (.putfield 37, 3) := dk_putfield (by decide +kernel)
theorem dX4_copyFrom_121 : decode cX4_copyFrom 121 = .ok (.aload_n 0, 1) := dk_aload_n_0 (by decide +kernel)
theorem dX4_copyFrom_122 : decode cX4_copyFrom 122 = .ok (.aload_n 1, 1) := dk_aload_n_1 (by decide +kernel)
theorem dX4_copyFrom_123 : decode cX4_copyFrom 123 = .ok (.getfield 47, 3) := dk_getfield (by decide +kernel)
theorem dX4_copyFrom_126 : decode cX4_copyFrom 126 = .ok (.putfield 47, 3) := dk_putfield (by decide +kernel)
theorem dX4_copyFrom_129 : decode cX4_copyFrom 129 = .ok (.aload_n 0, 1) := dk_aload_n_0 (by decide +kernel)
theorem dX4_copyFrom_130 : decode cX4_copyFrom 130 = .ok (.aload_n 1, 1) := dk_aload_n_1 (by decide +kernel)
theorem dX4_copyFrom_131 : decode cX4_copyFrom 131 = .ok (.getfield 40, 3) := dk_getfield (by decide +kernel)
theorem dX4_copyFrom_134 : decode cX4_copyFrom 134 = .ok (.putfield 40, 3) := dk_putfield (by decide +kernel)
theorem dX4_copyFrom_137 : decode cX4_copyFrom 137 = .ok (.aload_n 0, 1) := dk_aload_n_0 (by decide +kernel)
theorem dX4_copyFrom_138 : decode cX4_copyFrom 138 = .ok (.aload_n 1, 1) := dk_aload_n_1 (by decide +kernel)
theorem dX4_copyFrom_139 : decode cX4_copyFrom 139 = .ok (.getfield 33, 3) := dk_getfield (by decide +kernel)
theorem dX4_copyFrom_142 : decode cX4_copyFrom 142 = .ok (.putfield 33, 3) := dk_putfield (by decide +kernel)
theorem dX4_copyFrom_145 : decode cX4_copyFrom 145 = .ok (.return_, 1) := dk_return_ (by decide +kernel)
set_option maxHeartbeats 4000000 in
set_option maxRecDepth 100000 in
theorem mX4_copyFrom (l : Launch) (D : va_G) (k : Nat → ClassId) (sz : Nat) (r : Nat) (o : Nat) (r0 : Nat) (r1 : Nat) (r2 : Nat) (r3 : Nat) (r4 : Nat) (r5 : Nat) (r6 : Nat) (r_inside : Int32) (r_night : Int32) (r_minute : Int32) (r_tasted : Int32) (r_lastCook : Int32) (r_stirred : Int32) (f0 : Nat → Int32) (f1 : Nat → Int32) (f2 : Nat → Int32) (f3 : Nat → Int32) (f4 : Nat → Int32) (f5 : Nat → Int32) (f6 : Nat → Int32) (o0 : Nat) (o1 : Nat) (o2 : Nat) (o3 : Nat) (o4 : Nat) (o5 : Nat) (o6 : Nat) (o_inside : Int32) (o_night : Int32) (o_minute : Int32) (o_tasted : Int32) (o_lastCook : Int32) (o_stirred : Int32) (g0 : Nat → Int32) (g1 : Nat → Int32) (g2 : Nat → Int32) (g3 : Nat → Int32) (g4 : Nat → Int32) (g5 : Nat → Int32) (g6 : Nat → Int32) : Met l yX4_copyFrom wsX4_copyFrom ({ frames := 1, cells := 0, slots := 0, locals := 70 }) (va_Pc [.ref r, .ref o] (kz_Pre D k [(r, kO 4 [.ref r0, .ref r1, .ref r2, .ref r3, .ref r4, .ref r5, .ref r6, .int r_inside, .int r_night, .int r_minute, .int r_tasted, .int r_lastCook, .int r_stirred]), (r0, kI k 6 f0), (r1, kI k 6 f1), (r2, kI k 6 f2), (r3, kI k 6 f3), (r4, kI k 6 f4), (r5, kI k 6 f5), (r6, kI k 6 f6), (o, kO 4 [.ref o0, .ref o1, .ref o2, .ref o3, .ref o4, .ref o5, .ref o6, .int o_inside, .int o_night, .int o_minute, .int o_tasted, .int o_lastCook, .int o_stirred]), (o0, kI k 6 g0), (o1, kI k 6 g1), (o2, kI k 6 g2), (o3, kI k 6 g3), (o4, kI k 6 g4), (o5, kI k 6 g5), (o6, kI k 6 g6)] sz)) (va_Qv (fun (uu : Unit) => True) (fun uu zt => kz_B D (va_A [(r, kO 4 [.ref r0, .ref r1, .ref r2, .ref r3, .ref r4, .ref r5, .ref r6, .int r_inside, .int r_night, .int r_minute, .int r_tasted, .int r_lastCook, .int r_stirred]), (r0, kI k 6 f0), (r1, kI k 6 f1), (r2, kI k 6 f2), (r3, kI k 6 f3), (r4, kI k 6 f4), (r5, kI k 6 f5), (r6, kI k 6 f6), (o, kO 4 [.ref o0, .ref o1, .ref o2, .ref o3, .ref o4, .ref o5, .ref o6, .int o_inside, .int o_night, .int o_minute, .int o_tasted, .int o_lastCook, .int o_stirred]), (o0, kI k 6 g0), (o1, kI k 6 g1), (o2, kI k 6 g2), (o3, kI k 6 g3), (o4, kI k 6 g4), (o5, kI k 6 g5), (o6, kI k 6 g6)] sz) [(r, kO 4 [.ref r0, .ref r1, .ref r2, .ref r3, .ref r4, .ref r5, .ref r6, .int o_inside, .int o_night, .int o_minute, .int o_tasted, .int o_lastCook, .int r_stirred]), (r0, kI k 6 (va_cpy g0 f0 0 0 6)), (r1, kI k 6 (va_cpy g1 f1 0 0 6)), (r2, kI k 6 (va_cpy g2 f2 0 0 6)), (r3, kI k 6 (va_cpy g3 f3 0 0 6)), (r4, kI k 6 (va_cpy g4 f4 0 0 6)), (r5, kI k 6 (va_cpy g5 f5 0 0 6)), (r6, kI k 6 (va_cpy g6 f6 0 0 6)), (o, kO 4 [.ref o0, .ref o1, .ref o2, .ref o3, .ref o4, .ref o5, .ref o6, .int o_inside, .int o_night, .int o_minute, .int o_tasted, .int o_lastCook, .int o_stirred]), (o0, kI k 6 g0), (o1, kI k 6 g1), (o2, kI k 6 g2), (o3, kI k 6 g3), (o4, kI k 6 g4), (o5, kI k 6 g5), (o6, kI k 6 g6)] zt) (va_A [(r, kO 4 [.ref r0, .ref r1, .ref r2, .ref r3, .ref r4, .ref r5, .ref r6, .int r_inside, .int r_night, .int r_minute, .int r_tasted, .int r_lastCook, .int r_stirred]), (r0, kI k 6 f0), (r1, kI k 6 f1), (r2, kI k 6 f2), (r3, kI k 6 f3), (r4, kI k 6 f4), (r5, kI k 6 f5), (r6, kI k 6 f6), (o, kO 4 [.ref o0, .ref o1, .ref o2, .ref o3, .ref o4, .ref o5, .ref o6, .int o_inside, .int o_night, .int o_minute, .int o_tasted, .int o_lastCook, .int o_stirred]), (o0, kI k 6 g0), (o1, kI k 6 g1), (o2, kI k 6 g2), (o3, kI k 6 g3), (o4, kI k 6 g4), (o5, kI k 6 g5), (o6, kI k 6 g6)] sz)) 0 0 (va_A [(r, kO 4 [.ref r0, .ref r1, .ref r2, .ref r3, .ref r4, .ref r5, .ref r6, .int r_inside, .int r_night, .int r_minute, .int r_tasted, .int r_lastCook, .int r_stirred]), (r0, kI k 6 f0), (r1, kI k 6 f1), (r2, kI k 6 f2), (r3, kI k 6 f3), (r4, kI k 6 f4), (r5, kI k 6 f5), (r6, kI k 6 f6), (o, kO 4 [.ref o0, .ref o1, .ref o2, .ref o3, .ref o4, .ref o5, .ref o6, .int o_inside, .int o_night, .int o_minute, .int o_tasted, .int o_lastCook, .int o_stirred]), (o0, kI k 6 g0), (o1, kI k 6 g1), (o2, kI k 6 g2), (o3, kI k 6 g3), (o4, kI k 6 g4), (o5, kI k 6 g5), (o6, kI k 6 g6)] sz) := by
  refine Met.ofW (cc := cX4_copyFrom) (maxL := 2) (ret := none) (by decide) rfl ?_
  intro p e s m args below meth c s₁ B hml hv
  obtain ⟨hav, hsz, hP, hK, hD0, hE⟩ := hv
  have hx := B.exec
  have hb := B.bytes
  have hr := B.returns
  have hts := atoms_spec (ws := wsX4_copyFrom) B.pre
  have hown : s.vm.findClass RX4 = some m.cls := findClass_of_methodNamed B.named
  have hlocks := B.notSynchronized
  have hi4 : ∀ w ∈ u_ws RX4 TX4 13, w ∈ wsX4_copyFrom := fun w h9 => List.mem_cons_of_mem _ (List.mem_append_right _ h9)
  have lf9 := hts (.fieldLink RX4 9 "LastCook$Road" "yards" "[I") (List.mem_cons_of_mem _ (List.mem_append_left _ (List.mem_of_getElem? (i := 0) rfl)))
  have lm60 := hts (.methodLink RX4 60 arraycopyName) (List.mem_cons_of_mem _ (List.mem_append_left _ (List.mem_of_getElem? (i := 1) rfl)))
  have lna := hts (.native arraycopyName) (List.mem_cons_of_mem _ (List.mem_append_left _ (List.mem_of_getElem? (i := 2) rfl)))
  have lsa := hts (.static arraycopyName) (List.mem_cons_of_mem _ (List.mem_append_left _ (List.mem_of_getElem? (i := 3) rfl)))
  have lia := hts (.initialized "java/lang/System") (List.mem_cons_of_mem _ (List.mem_append_left _ (List.mem_of_getElem? (i := 4) rfl)))
  have lf15 := hts (.fieldLink RX4 15 "LastCook$Road" "paces" "[I") (List.mem_cons_of_mem _ (List.mem_append_left _ (List.mem_of_getElem? (i := 5) rfl)))
  have lf18 := hts (.fieldLink RX4 18 "LastCook$Road" "stuck" "[I") (List.mem_cons_of_mem _ (List.mem_append_left _ (List.mem_of_getElem? (i := 6) rfl)))
  have lf21 := hts (.fieldLink RX4 21 "LastCook$Road" "hirers" "[I") (List.mem_cons_of_mem _ (List.mem_append_left _ (List.mem_of_getElem? (i := 7) rfl)))
  have lf24 := hts (.fieldLink RX4 24 "LastCook$Road" "places" "[I") (List.mem_cons_of_mem _ (List.mem_append_left _ (List.mem_of_getElem? (i := 8) rfl)))
  have lf27 := hts (.fieldLink RX4 27 "LastCook$Road" "cameAt" "[I") (List.mem_cons_of_mem _ (List.mem_append_left _ (List.mem_of_getElem? (i := 9) rfl)))
  have lf30 := hts (.fieldLink RX4 30 "LastCook$Road" "cooked" "[I") (List.mem_cons_of_mem _ (List.mem_append_left _ (List.mem_of_getElem? (i := 10) rfl)))
  have lf50 := hts (.fieldLink RX4 50 "LastCook$Road" "inside" "I") (List.mem_cons_of_mem _ (List.mem_append_left _ (List.mem_of_getElem? (i := 11) rfl)))
  have lf37 := hts (.fieldLink RX4 37 "LastCook$Road" "night" "I") (List.mem_cons_of_mem _ (List.mem_append_left _ (List.mem_of_getElem? (i := 12) rfl)))
  have lf47 := hts (.fieldLink RX4 47 "LastCook$Road" "minute" "I") (List.mem_cons_of_mem _ (List.mem_append_left _ (List.mem_of_getElem? (i := 13) rfl)))
  have lf40 := hts (.fieldLink RX4 40 "LastCook$Road" "tasted" "I") (List.mem_cons_of_mem _ (List.mem_append_left _ (List.mem_of_getElem? (i := 14) rfl)))
  have lf33 := hts (.fieldLink RX4 33 "LastCook$Road" "lastCook" "I") (List.mem_cons_of_mem _ (List.mem_append_left _ (List.mem_of_getElem? (i := 15) rfl)))
  subst hsz
  have hD := hD0.self (sz := s.heap.size)
  generalize hAe : va_A [(r, kO 4 [.ref r0, .ref r1, .ref r2, .ref r3, .ref r4, .ref r5, .ref r6, .int r_inside, .int r_night, .int r_minute, .int r_tasted, .int r_lastCook, .int r_stirred]), (r0, kI k 6 f0), (r1, kI k 6 f1), (r2, kI k 6 f2), (r3, kI k 6 f3), (r4, kI k 6 f4), (r5, kI k 6 f5), (r6, kI k 6 f6), (o, kO 4 [.ref o0, .ref o1, .ref o2, .ref o3, .ref o4, .ref o5, .ref o6, .int o_inside, .int o_night, .int o_minute, .int o_tasted, .int o_lastCook, .int o_stirred]), (o0, kI k 6 g0), (o1, kI k 6 g1), (o2, kI k 6 g2), (o3, kI k 6 g3), (o4, kI k 6 g4), (o5, kI k 6 g5), (o6, kI k 6 g6)] s.heap.size = A at hD ⊢
  have hA : ∀ q : Nat, s.heap.size ≤ q → A q := fun q h => by rw [← hAe]; exact Or.inr h
  have hS : va_S A s.heap s.heap [] := va_S.rf
  have hl := lv_entry ([.ref r, .ref o]) (n := 2) (Nat.le_of_ble_eq_true rfl)
  rw [show entryFrame m args 2 = entryFrame m ([.ref r, .ref o] : List Value).toArray 2 by rw [hav], lg_entry_eq]
  generalize (lg_sl ([.ref r, .ref o]) ++ List.replicate (2 - (lg_sl ([.ref r, .ref o])).length) Slot.unset).toArray = ls at hl ⊢
  have hl : lv_has ls 2 [(0, .ref r), (1, .ref o)] := hl
  obtain ⟨R, hR⟩ : ∃ R, R = (headSpec wsX4_copyFrom ({ frames := 1, cells := 0, slots := 0, locals := 70 } : Room)).room := ⟨_, rfl⟩
  rw [← hR]
  generalize hQ : MQ below _ args s 0 0 A = Q
  replace hQ := hQ.symm
  obtain ⟨H, hH⟩ : ∃ H, H = s.heap := ⟨_, rfl⟩
  rw [← hH] at hP ⊢
  have hS : va_S A s.heap H [] := by rw [hH]; exact hS
  refine lv_aload_n hx hb dX4_copyFrom_0 rfl (lv_at hl 1 rfl) ?_
  refine va_get (D := D) (ci := 4) (v := .ref o0) (C := RX4) (T := TX4) (N := 13) hx hb hts hi4 hown hK hP 8 rfl rfl 0 (by decide) lf9 (fun _ h9 => h9) rfl dX4_copyFrom_1 ?_
  refine lv_iconst (v := 0) hx hb dX4_copyFrom_4 (by decide) ?_
  refine lv_aload_n hx hb dX4_copyFrom_5 rfl (lv_at hl 0 rfl) ?_
  refine va_get (D := D) (ci := 4) (v := .ref r0) (C := RX4) (T := TX4) (N := 13) hx hb hts hi4 hown hK hP 0 rfl rfl 0 (by decide) lf9 (fun _ h9 => h9) rfl dX4_copyFrom_6 ?_
  refine lv_iconst (v := 0) hx hb dX4_copyFrom_9 (by decide) ?_
  refine lv_bipush (v := 6) hx hb dX4_copyFrom_10 (by decide) ?_
  refine va_copyi (ty := .int) hx hb (hml.trans hl.1.symm) hown lm60 lna lsa lia hK hP hD hS 9 1 0 0 rfl rfl rfl rfl rfl (by decide +kernel) (by decide +kernel) (by decide +kernel) (by decide +kernel) (by decide +kernel) (fun _ _ => rfl) (by rw [hR]; exact Nat.le_of_ble_eq_true rfl) (by rw [hR]; decide +kernel) dX4_copyFrom_12 (fun H locs hP hD hS => ?_)
  exact by
   have hP : va_P D vwCl [(r, kO 4 [.ref r0, .ref r1, .ref r2, .ref r3, .ref r4, .ref r5, .ref r6, .int r_inside, .int r_night, .int r_minute, .int r_tasted, .int r_lastCook, .int r_stirred]), (r0, kI k 6 (va_cpy g0 f0 0 0 6)), (r1, kI k 6 f1), (r2, kI k 6 f2), (r3, kI k 6 f3), (r4, kI k 6 f4), (r5, kI k 6 f5), (r6, kI k 6 f6), (o, kO 4 [.ref o0, .ref o1, .ref o2, .ref o3, .ref o4, .ref o5, .ref o6, .int o_inside, .int o_night, .int o_minute, .int o_tasted, .int o_lastCook, .int o_stirred]), (o0, kI k 6 g0), (o1, kI k 6 g1), (o2, kI k 6 g2), (o3, kI k 6 g3), (o4, kI k 6 g4), (o5, kI k 6 g5), (o6, kI k 6 g6)] H := hP
   have hD : va_D A [(r, kO 4 [.ref r0, .ref r1, .ref r2, .ref r3, .ref r4, .ref r5, .ref r6, .int r_inside, .int r_night, .int r_minute, .int r_tasted, .int r_lastCook, .int r_stirred]), (r0, kI k 6 (va_cpy g0 f0 0 0 6)), (r1, kI k 6 f1), (r2, kI k 6 f2), (r3, kI k 6 f3), (r4, kI k 6 f4), (r5, kI k 6 f5), (r6, kI k 6 f6), (o, kO 4 [.ref o0, .ref o1, .ref o2, .ref o3, .ref o4, .ref o5, .ref o6, .int o_inside, .int o_night, .int o_minute, .int o_tasted, .int o_lastCook, .int o_stirred]), (o0, kI k 6 g0), (o1, kI k 6 g1), (o2, kI k 6 g2), (o3, kI k 6 g3), (o4, kI k 6 g4), (o5, kI k 6 g5), (o6, kI k 6 g6)] := hD
   refine lv_aload_n hx hb dX4_copyFrom_15 rfl (lv_at hl 1 rfl) ?_
   refine va_get (D := D) (ci := 4) (v := .ref o1) (C := RX4) (T := TX4) (N := 13) hx hb hts hi4 hown hK hP 8 rfl rfl 1 (by decide) lf15 (fun _ h9 => h9) rfl dX4_copyFrom_16 ?_
   refine lv_iconst (v := 0) hx hb dX4_copyFrom_19 (by decide) ?_
   refine lv_aload_n hx hb dX4_copyFrom_20 rfl (lv_at hl 0 rfl) ?_
   refine va_get (D := D) (ci := 4) (v := .ref r1) (C := RX4) (T := TX4) (N := 13) hx hb hts hi4 hown hK hP 0 rfl rfl 1 (by decide) lf15 (fun _ h9 => h9) rfl dX4_copyFrom_21 ?_
   refine lv_iconst (v := 0) hx hb dX4_copyFrom_24 (by decide) ?_
   refine lv_bipush (v := 6) hx hb dX4_copyFrom_25 (by decide) ?_
   refine va_copyi (ty := .int) hx hb (hml.trans hl.1.symm) hown lm60 lna lsa lia hK hP hD hS 10 2 0 0 rfl rfl rfl rfl rfl (by decide +kernel) (by decide +kernel) (by decide +kernel) (by decide +kernel) (by decide +kernel) (fun _ _ => rfl) (by rw [hR]; exact Nat.le_of_ble_eq_true rfl) (by rw [hR]; decide +kernel) dX4_copyFrom_27 (fun H locs hP hD hS => ?_)
   exact by
    have hP : va_P D vwCl [(r, kO 4 [.ref r0, .ref r1, .ref r2, .ref r3, .ref r4, .ref r5, .ref r6, .int r_inside, .int r_night, .int r_minute, .int r_tasted, .int r_lastCook, .int r_stirred]), (r0, kI k 6 (va_cpy g0 f0 0 0 6)), (r1, kI k 6 (va_cpy g1 f1 0 0 6)), (r2, kI k 6 f2), (r3, kI k 6 f3), (r4, kI k 6 f4), (r5, kI k 6 f5), (r6, kI k 6 f6), (o, kO 4 [.ref o0, .ref o1, .ref o2, .ref o3, .ref o4, .ref o5, .ref o6, .int o_inside, .int o_night, .int o_minute, .int o_tasted, .int o_lastCook, .int o_stirred]), (o0, kI k 6 g0), (o1, kI k 6 g1), (o2, kI k 6 g2), (o3, kI k 6 g3), (o4, kI k 6 g4), (o5, kI k 6 g5), (o6, kI k 6 g6)] H := hP
    have hD : va_D A [(r, kO 4 [.ref r0, .ref r1, .ref r2, .ref r3, .ref r4, .ref r5, .ref r6, .int r_inside, .int r_night, .int r_minute, .int r_tasted, .int r_lastCook, .int r_stirred]), (r0, kI k 6 (va_cpy g0 f0 0 0 6)), (r1, kI k 6 (va_cpy g1 f1 0 0 6)), (r2, kI k 6 f2), (r3, kI k 6 f3), (r4, kI k 6 f4), (r5, kI k 6 f5), (r6, kI k 6 f6), (o, kO 4 [.ref o0, .ref o1, .ref o2, .ref o3, .ref o4, .ref o5, .ref o6, .int o_inside, .int o_night, .int o_minute, .int o_tasted, .int o_lastCook, .int o_stirred]), (o0, kI k 6 g0), (o1, kI k 6 g1), (o2, kI k 6 g2), (o3, kI k 6 g3), (o4, kI k 6 g4), (o5, kI k 6 g5), (o6, kI k 6 g6)] := hD
    refine lv_aload_n hx hb dX4_copyFrom_30 rfl (lv_at hl 1 rfl) ?_
    refine va_get (D := D) (ci := 4) (v := .ref o2) (C := RX4) (T := TX4) (N := 13) hx hb hts hi4 hown hK hP 8 rfl rfl 2 (by decide) lf18 (fun _ h9 => h9) rfl dX4_copyFrom_31 ?_
    refine lv_iconst (v := 0) hx hb dX4_copyFrom_34 (by decide) ?_
    refine lv_aload_n hx hb dX4_copyFrom_35 rfl (lv_at hl 0 rfl) ?_
    refine va_get (D := D) (ci := 4) (v := .ref r2) (C := RX4) (T := TX4) (N := 13) hx hb hts hi4 hown hK hP 0 rfl rfl 2 (by decide) lf18 (fun _ h9 => h9) rfl dX4_copyFrom_36 ?_
    refine lv_iconst (v := 0) hx hb dX4_copyFrom_39 (by decide) ?_
    refine lv_bipush (v := 6) hx hb dX4_copyFrom_40 (by decide) ?_
    refine va_copyi (ty := .int) hx hb (hml.trans hl.1.symm) hown lm60 lna lsa lia hK hP hD hS 11 3 0 0 rfl rfl rfl rfl rfl (by decide +kernel) (by decide +kernel) (by decide +kernel) (by decide +kernel) (by decide +kernel) (fun _ _ => rfl) (by rw [hR]; exact Nat.le_of_ble_eq_true rfl) (by rw [hR]; decide +kernel) dX4_copyFrom_42 (fun H locs hP hD hS => ?_)
    exact by
     have hP : va_P D vwCl [(r, kO 4 [.ref r0, .ref r1, .ref r2, .ref r3, .ref r4, .ref r5, .ref r6, .int r_inside, .int r_night, .int r_minute, .int r_tasted, .int r_lastCook, .int r_stirred]), (r0, kI k 6 (va_cpy g0 f0 0 0 6)), (r1, kI k 6 (va_cpy g1 f1 0 0 6)), (r2, kI k 6 (va_cpy g2 f2 0 0 6)), (r3, kI k 6 f3), (r4, kI k 6 f4), (r5, kI k 6 f5), (r6, kI k 6 f6), (o, kO 4 [.ref o0, .ref o1, .ref o2, .ref o3, .ref o4, .ref o5, .ref o6, .int o_inside, .int o_night, .int o_minute, .int o_tasted, .int o_lastCook, .int o_stirred]), (o0, kI k 6 g0), (o1, kI k 6 g1), (o2, kI k 6 g2), (o3, kI k 6 g3), (o4, kI k 6 g4), (o5, kI k 6 g5), (o6, kI k 6 g6)] H := hP
     have hD : va_D A [(r, kO 4 [.ref r0, .ref r1, .ref r2, .ref r3, .ref r4, .ref r5, .ref r6, .int r_inside, .int r_night, .int r_minute, .int r_tasted, .int r_lastCook, .int r_stirred]), (r0, kI k 6 (va_cpy g0 f0 0 0 6)), (r1, kI k 6 (va_cpy g1 f1 0 0 6)), (r2, kI k 6 (va_cpy g2 f2 0 0 6)), (r3, kI k 6 f3), (r4, kI k 6 f4), (r5, kI k 6 f5), (r6, kI k 6 f6), (o, kO 4 [.ref o0, .ref o1, .ref o2, .ref o3, .ref o4, .ref o5, .ref o6, .int o_inside, .int o_night, .int o_minute, .int o_tasted, .int o_lastCook, .int o_stirred]), (o0, kI k 6 g0), (o1, kI k 6 g1), (o2, kI k 6 g2), (o3, kI k 6 g3), (o4, kI k 6 g4), (o5, kI k 6 g5), (o6, kI k 6 g6)] := hD
     refine lv_aload_n hx hb dX4_copyFrom_45 rfl (lv_at hl 1 rfl) ?_
     refine va_get (D := D) (ci := 4) (v := .ref o3) (C := RX4) (T := TX4) (N := 13) hx hb hts hi4 hown hK hP 8 rfl rfl 3 (by decide) lf21 (fun _ h9 => h9) rfl dX4_copyFrom_46 ?_
     refine lv_iconst (v := 0) hx hb dX4_copyFrom_49 (by decide) ?_
     refine lv_aload_n hx hb dX4_copyFrom_50 rfl (lv_at hl 0 rfl) ?_
     refine va_get (D := D) (ci := 4) (v := .ref r3) (C := RX4) (T := TX4) (N := 13) hx hb hts hi4 hown hK hP 0 rfl rfl 3 (by decide) lf21 (fun _ h9 => h9) rfl dX4_copyFrom_51 ?_
     refine lv_iconst (v := 0) hx hb dX4_copyFrom_54 (by decide) ?_
     refine lv_bipush (v := 6) hx hb dX4_copyFrom_55 (by decide) ?_
     refine va_copyi (ty := .int) hx hb (hml.trans hl.1.symm) hown lm60 lna lsa lia hK hP hD hS 12 4 0 0 rfl rfl rfl rfl rfl (by decide +kernel) (by decide +kernel) (by decide +kernel) (by decide +kernel) (by decide +kernel) (fun _ _ => rfl) (by rw [hR]; exact Nat.le_of_ble_eq_true rfl) (by rw [hR]; decide +kernel) dX4_copyFrom_57 (fun H locs hP hD hS => ?_)
     exact by
      have hP : va_P D vwCl [(r, kO 4 [.ref r0, .ref r1, .ref r2, .ref r3, .ref r4, .ref r5, .ref r6, .int r_inside, .int r_night, .int r_minute, .int r_tasted, .int r_lastCook, .int r_stirred]), (r0, kI k 6 (va_cpy g0 f0 0 0 6)), (r1, kI k 6 (va_cpy g1 f1 0 0 6)), (r2, kI k 6 (va_cpy g2 f2 0 0 6)), (r3, kI k 6 (va_cpy g3 f3 0 0 6)), (r4, kI k 6 f4), (r5, kI k 6 f5), (r6, kI k 6 f6), (o, kO 4 [.ref o0, .ref o1, .ref o2, .ref o3, .ref o4, .ref o5, .ref o6, .int o_inside, .int o_night, .int o_minute, .int o_tasted, .int o_lastCook, .int o_stirred]), (o0, kI k 6 g0), (o1, kI k 6 g1), (o2, kI k 6 g2), (o3, kI k 6 g3), (o4, kI k 6 g4), (o5, kI k 6 g5), (o6, kI k 6 g6)] H := hP
      have hD : va_D A [(r, kO 4 [.ref r0, .ref r1, .ref r2, .ref r3, .ref r4, .ref r5, .ref r6, .int r_inside, .int r_night, .int r_minute, .int r_tasted, .int r_lastCook, .int r_stirred]), (r0, kI k 6 (va_cpy g0 f0 0 0 6)), (r1, kI k 6 (va_cpy g1 f1 0 0 6)), (r2, kI k 6 (va_cpy g2 f2 0 0 6)), (r3, kI k 6 (va_cpy g3 f3 0 0 6)), (r4, kI k 6 f4), (r5, kI k 6 f5), (r6, kI k 6 f6), (o, kO 4 [.ref o0, .ref o1, .ref o2, .ref o3, .ref o4, .ref o5, .ref o6, .int o_inside, .int o_night, .int o_minute, .int o_tasted, .int o_lastCook, .int o_stirred]), (o0, kI k 6 g0), (o1, kI k 6 g1), (o2, kI k 6 g2), (o3, kI k 6 g3), (o4, kI k 6 g4), (o5, kI k 6 g5), (o6, kI k 6 g6)] := hD
      refine lv_aload_n hx hb dX4_copyFrom_60 rfl (lv_at hl 1 rfl) ?_
      refine va_get (D := D) (ci := 4) (v := .ref o4) (C := RX4) (T := TX4) (N := 13) hx hb hts hi4 hown hK hP 8 rfl rfl 4 (by decide) lf24 (fun _ h9 => h9) rfl dX4_copyFrom_61 ?_
      refine lv_iconst (v := 0) hx hb dX4_copyFrom_64 (by decide) ?_
      refine lv_aload_n hx hb dX4_copyFrom_65 rfl (lv_at hl 0 rfl) ?_
      refine va_get (D := D) (ci := 4) (v := .ref r4) (C := RX4) (T := TX4) (N := 13) hx hb hts hi4 hown hK hP 0 rfl rfl 4 (by decide) lf24 (fun _ h9 => h9) rfl dX4_copyFrom_66 ?_
      refine lv_iconst (v := 0) hx hb dX4_copyFrom_69 (by decide) ?_
      refine lv_bipush (v := 6) hx hb dX4_copyFrom_70 (by decide) ?_
      refine va_copyi (ty := .int) hx hb (hml.trans hl.1.symm) hown lm60 lna lsa lia hK hP hD hS 13 5 0 0 rfl rfl rfl rfl rfl (by decide +kernel) (by decide +kernel) (by decide +kernel) (by decide +kernel) (by decide +kernel) (fun _ _ => rfl) (by rw [hR]; exact Nat.le_of_ble_eq_true rfl) (by rw [hR]; decide +kernel) dX4_copyFrom_72 (fun H locs hP hD hS => ?_)
      exact by
       have hP : va_P D vwCl [(r, kO 4 [.ref r0, .ref r1, .ref r2, .ref r3, .ref r4, .ref r5, .ref r6, .int r_inside, .int r_night, .int r_minute, .int r_tasted, .int r_lastCook, .int r_stirred]), (r0, kI k 6 (va_cpy g0 f0 0 0 6)), (r1, kI k 6 (va_cpy g1 f1 0 0 6)), (r2, kI k 6 (va_cpy g2 f2 0 0 6)), (r3, kI k 6 (va_cpy g3 f3 0 0 6)), (r4, kI k 6 (va_cpy g4 f4 0 0 6)), (r5, kI k 6 f5), (r6, kI k 6 f6), (o, kO 4 [.ref o0, .ref o1, .ref o2, .ref o3, .ref o4, .ref o5, .ref o6, .int o_inside, .int o_night, .int o_minute, .int o_tasted, .int o_lastCook, .int o_stirred]), (o0, kI k 6 g0), (o1, kI k 6 g1), (o2, kI k 6 g2), (o3, kI k 6 g3), (o4, kI k 6 g4), (o5, kI k 6 g5), (o6, kI k 6 g6)] H := hP
       have hD : va_D A [(r, kO 4 [.ref r0, .ref r1, .ref r2, .ref r3, .ref r4, .ref r5, .ref r6, .int r_inside, .int r_night, .int r_minute, .int r_tasted, .int r_lastCook, .int r_stirred]), (r0, kI k 6 (va_cpy g0 f0 0 0 6)), (r1, kI k 6 (va_cpy g1 f1 0 0 6)), (r2, kI k 6 (va_cpy g2 f2 0 0 6)), (r3, kI k 6 (va_cpy g3 f3 0 0 6)), (r4, kI k 6 (va_cpy g4 f4 0 0 6)), (r5, kI k 6 f5), (r6, kI k 6 f6), (o, kO 4 [.ref o0, .ref o1, .ref o2, .ref o3, .ref o4, .ref o5, .ref o6, .int o_inside, .int o_night, .int o_minute, .int o_tasted, .int o_lastCook, .int o_stirred]), (o0, kI k 6 g0), (o1, kI k 6 g1), (o2, kI k 6 g2), (o3, kI k 6 g3), (o4, kI k 6 g4), (o5, kI k 6 g5), (o6, kI k 6 g6)] := hD
       refine lv_aload_n hx hb dX4_copyFrom_75 rfl (lv_at hl 1 rfl) ?_
       refine va_get (D := D) (ci := 4) (v := .ref o5) (C := RX4) (T := TX4) (N := 13) hx hb hts hi4 hown hK hP 8 rfl rfl 5 (by decide) lf27 (fun _ h9 => h9) rfl dX4_copyFrom_76 ?_
       refine lv_iconst (v := 0) hx hb dX4_copyFrom_79 (by decide) ?_
       refine lv_aload_n hx hb dX4_copyFrom_80 rfl (lv_at hl 0 rfl) ?_
       refine va_get (D := D) (ci := 4) (v := .ref r5) (C := RX4) (T := TX4) (N := 13) hx hb hts hi4 hown hK hP 0 rfl rfl 5 (by decide) lf27 (fun _ h9 => h9) rfl dX4_copyFrom_81 ?_
       refine lv_iconst (v := 0) hx hb dX4_copyFrom_84 (by decide) ?_
       refine lv_bipush (v := 6) hx hb dX4_copyFrom_85 (by decide) ?_
       refine va_copyi (ty := .int) hx hb (hml.trans hl.1.symm) hown lm60 lna lsa lia hK hP hD hS 14 6 0 0 rfl rfl rfl rfl rfl (by decide +kernel) (by decide +kernel) (by decide +kernel) (by decide +kernel) (by decide +kernel) (fun _ _ => rfl) (by rw [hR]; exact Nat.le_of_ble_eq_true rfl) (by rw [hR]; decide +kernel) dX4_copyFrom_87 (fun H locs hP hD hS => ?_)
       exact by
        have hP : va_P D vwCl [(r, kO 4 [.ref r0, .ref r1, .ref r2, .ref r3, .ref r4, .ref r5, .ref r6, .int r_inside, .int r_night, .int r_minute, .int r_tasted, .int r_lastCook, .int r_stirred]), (r0, kI k 6 (va_cpy g0 f0 0 0 6)), (r1, kI k 6 (va_cpy g1 f1 0 0 6)), (r2, kI k 6 (va_cpy g2 f2 0 0 6)), (r3, kI k 6 (va_cpy g3 f3 0 0 6)), (r4, kI k 6 (va_cpy g4 f4 0 0 6)), (r5, kI k 6 (va_cpy g5 f5 0 0 6)), (r6, kI k 6 f6), (o, kO 4 [.ref o0, .ref o1, .ref o2, .ref o3, .ref o4, .ref o5, .ref o6, .int o_inside, .int o_night, .int o_minute, .int o_tasted, .int o_lastCook, .int o_stirred]), (o0, kI k 6 g0), (o1, kI k 6 g1), (o2, kI k 6 g2), (o3, kI k 6 g3), (o4, kI k 6 g4), (o5, kI k 6 g5), (o6, kI k 6 g6)] H := hP
        have hD : va_D A [(r, kO 4 [.ref r0, .ref r1, .ref r2, .ref r3, .ref r4, .ref r5, .ref r6, .int r_inside, .int r_night, .int r_minute, .int r_tasted, .int r_lastCook, .int r_stirred]), (r0, kI k 6 (va_cpy g0 f0 0 0 6)), (r1, kI k 6 (va_cpy g1 f1 0 0 6)), (r2, kI k 6 (va_cpy g2 f2 0 0 6)), (r3, kI k 6 (va_cpy g3 f3 0 0 6)), (r4, kI k 6 (va_cpy g4 f4 0 0 6)), (r5, kI k 6 (va_cpy g5 f5 0 0 6)), (r6, kI k 6 f6), (o, kO 4 [.ref o0, .ref o1, .ref o2, .ref o3, .ref o4, .ref o5, .ref o6, .int o_inside, .int o_night, .int o_minute, .int o_tasted, .int o_lastCook, .int o_stirred]), (o0, kI k 6 g0), (o1, kI k 6 g1), (o2, kI k 6 g2), (o3, kI k 6 g3), (o4, kI k 6 g4), (o5, kI k 6 g5), (o6, kI k 6 g6)] := hD
        refine lv_aload_n hx hb dX4_copyFrom_90 rfl (lv_at hl 1 rfl) ?_
        refine va_get (D := D) (ci := 4) (v := .ref o6) (C := RX4) (T := TX4) (N := 13) hx hb hts hi4 hown hK hP 8 rfl rfl 6 (by decide) lf30 (fun _ h9 => h9) rfl dX4_copyFrom_91 ?_
        refine lv_iconst (v := 0) hx hb dX4_copyFrom_94 (by decide) ?_
        refine lv_aload_n hx hb dX4_copyFrom_95 rfl (lv_at hl 0 rfl) ?_
        refine va_get (D := D) (ci := 4) (v := .ref r6) (C := RX4) (T := TX4) (N := 13) hx hb hts hi4 hown hK hP 0 rfl rfl 6 (by decide) lf30 (fun _ h9 => h9) rfl dX4_copyFrom_96 ?_
        refine lv_iconst (v := 0) hx hb dX4_copyFrom_99 (by decide) ?_
        refine lv_bipush (v := 6) hx hb dX4_copyFrom_100 (by decide) ?_
        refine va_copyi (ty := .int) hx hb (hml.trans hl.1.symm) hown lm60 lna lsa lia hK hP hD hS 15 7 0 0 rfl rfl rfl rfl rfl (by decide +kernel) (by decide +kernel) (by decide +kernel) (by decide +kernel) (by decide +kernel) (fun _ _ => rfl) (by rw [hR]; exact Nat.le_of_ble_eq_true rfl) (by rw [hR]; decide +kernel) dX4_copyFrom_102 (fun H locs hP hD hS => ?_)
        exact by
         have hP : va_P D vwCl [(r, kO 4 [.ref r0, .ref r1, .ref r2, .ref r3, .ref r4, .ref r5, .ref r6, .int r_inside, .int r_night, .int r_minute, .int r_tasted, .int r_lastCook, .int r_stirred]), (r0, kI k 6 (va_cpy g0 f0 0 0 6)), (r1, kI k 6 (va_cpy g1 f1 0 0 6)), (r2, kI k 6 (va_cpy g2 f2 0 0 6)), (r3, kI k 6 (va_cpy g3 f3 0 0 6)), (r4, kI k 6 (va_cpy g4 f4 0 0 6)), (r5, kI k 6 (va_cpy g5 f5 0 0 6)), (r6, kI k 6 (va_cpy g6 f6 0 0 6)), (o, kO 4 [.ref o0, .ref o1, .ref o2, .ref o3, .ref o4, .ref o5, .ref o6, .int o_inside, .int o_night, .int o_minute, .int o_tasted, .int o_lastCook, .int o_stirred]), (o0, kI k 6 g0), (o1, kI k 6 g1), (o2, kI k 6 g2), (o3, kI k 6 g3), (o4, kI k 6 g4), (o5, kI k 6 g5), (o6, kI k 6 g6)] H := hP
         have hD : va_D A [(r, kO 4 [.ref r0, .ref r1, .ref r2, .ref r3, .ref r4, .ref r5, .ref r6, .int r_inside, .int r_night, .int r_minute, .int r_tasted, .int r_lastCook, .int r_stirred]), (r0, kI k 6 (va_cpy g0 f0 0 0 6)), (r1, kI k 6 (va_cpy g1 f1 0 0 6)), (r2, kI k 6 (va_cpy g2 f2 0 0 6)), (r3, kI k 6 (va_cpy g3 f3 0 0 6)), (r4, kI k 6 (va_cpy g4 f4 0 0 6)), (r5, kI k 6 (va_cpy g5 f5 0 0 6)), (r6, kI k 6 (va_cpy g6 f6 0 0 6)), (o, kO 4 [.ref o0, .ref o1, .ref o2, .ref o3, .ref o4, .ref o5, .ref o6, .int o_inside, .int o_night, .int o_minute, .int o_tasted, .int o_lastCook, .int o_stirred]), (o0, kI k 6 g0), (o1, kI k 6 g1), (o2, kI k 6 g2), (o3, kI k 6 g3), (o4, kI k 6 g4), (o5, kI k 6 g5), (o6, kI k 6 g6)] := hD
         refine lv_aload_n hx hb dX4_copyFrom_105 rfl (lv_at hl 0 rfl) ?_
         refine lv_aload_n hx hb dX4_copyFrom_106 rfl (lv_at hl 1 rfl) ?_
         refine va_get (D := D) (ci := 4) (v := .int o_inside) (C := RX4) (T := TX4) (N := 13) hx hb hts hi4 hown hK hP 8 rfl rfl 7 (by decide) lf50 (fun _ h9 => h9) rfl dX4_copyFrom_107 ?_
         refine va_put (D := D) (ci := 4) (v := .int o_inside) (ty := .int) (C := RX4) (T := TX4) (N := 13) hx hb hts hi4 tyX4 tyX4_ok nmX4 hown hK hP hD hS 0 rfl rfl 7 (by decide) lf50 (fun _ h9 => h9) rfl (by decide +kernel) rfl rfl (Nat.le_of_ble_eq_true rfl) dX4_copyFrom_110 (fun H locs hP hD hS => ?_)
         exact by
          have hP : va_P D vwCl [(r, kO 4 [.ref r0, .ref r1, .ref r2, .ref r3, .ref r4, .ref r5, .ref r6, .int o_inside, .int r_night, .int r_minute, .int r_tasted, .int r_lastCook, .int r_stirred]), (r0, kI k 6 (va_cpy g0 f0 0 0 6)), (r1, kI k 6 (va_cpy g1 f1 0 0 6)), (r2, kI k 6 (va_cpy g2 f2 0 0 6)), (r3, kI k 6 (va_cpy g3 f3 0 0 6)), (r4, kI k 6 (va_cpy g4 f4 0 0 6)), (r5, kI k 6 (va_cpy g5 f5 0 0 6)), (r6, kI k 6 (va_cpy g6 f6 0 0 6)), (o, kO 4 [.ref o0, .ref o1, .ref o2, .ref o3, .ref o4, .ref o5, .ref o6, .int o_inside, .int o_night, .int o_minute, .int o_tasted, .int o_lastCook, .int o_stirred]), (o0, kI k 6 g0), (o1, kI k 6 g1), (o2, kI k 6 g2), (o3, kI k 6 g3), (o4, kI k 6 g4), (o5, kI k 6 g5), (o6, kI k 6 g6)] H := hP
          have hD : va_D A [(r, kO 4 [.ref r0, .ref r1, .ref r2, .ref r3, .ref r4, .ref r5, .ref r6, .int o_inside, .int r_night, .int r_minute, .int r_tasted, .int r_lastCook, .int r_stirred]), (r0, kI k 6 (va_cpy g0 f0 0 0 6)), (r1, kI k 6 (va_cpy g1 f1 0 0 6)), (r2, kI k 6 (va_cpy g2 f2 0 0 6)), (r3, kI k 6 (va_cpy g3 f3 0 0 6)), (r4, kI k 6 (va_cpy g4 f4 0 0 6)), (r5, kI k 6 (va_cpy g5 f5 0 0 6)), (r6, kI k 6 (va_cpy g6 f6 0 0 6)), (o, kO 4 [.ref o0, .ref o1, .ref o2, .ref o3, .ref o4, .ref o5, .ref o6, .int o_inside, .int o_night, .int o_minute, .int o_tasted, .int o_lastCook, .int o_stirred]), (o0, kI k 6 g0), (o1, kI k 6 g1), (o2, kI k 6 g2), (o3, kI k 6 g3), (o4, kI k 6 g4), (o5, kI k 6 g5), (o6, kI k 6 g6)] := hD
          refine lv_aload_n hx hb dX4_copyFrom_113 rfl (lv_at hl 0 rfl) ?_
          refine lv_aload_n hx hb dX4_copyFrom_114 rfl (lv_at hl 1 rfl) ?_
          refine va_get (D := D) (ci := 4) (v := .int o_night) (C := RX4) (T := TX4) (N := 13) hx hb hts hi4 hown hK hP 8 rfl rfl 8 (by decide) lf37 (fun _ h9 => h9) rfl dX4_copyFrom_115 ?_
          refine va_put (D := D) (ci := 4) (v := .int o_night) (ty := .int) (C := RX4) (T := TX4) (N := 13) hx hb hts hi4 tyX4 tyX4_ok nmX4 hown hK hP hD hS 0 rfl rfl 8 (by decide) lf37 (fun _ h9 => h9) rfl (by decide +kernel) rfl rfl (Nat.le_of_ble_eq_true rfl) dX4_copyFrom_118 (fun H locs hP hD hS => ?_)
          exact by
           have hP : va_P D vwCl [(r, kO 4 [.ref r0, .ref r1, .ref r2, .ref r3, .ref r4, .ref r5, .ref r6, .int o_inside, .int o_night, .int r_minute, .int r_tasted, .int r_lastCook, .int r_stirred]), (r0, kI k 6 (va_cpy g0 f0 0 0 6)), (r1, kI k 6 (va_cpy g1 f1 0 0 6)), (r2, kI k 6 (va_cpy g2 f2 0 0 6)), (r3, kI k 6 (va_cpy g3 f3 0 0 6)), (r4, kI k 6 (va_cpy g4 f4 0 0 6)), (r5, kI k 6 (va_cpy g5 f5 0 0 6)), (r6, kI k 6 (va_cpy g6 f6 0 0 6)), (o, kO 4 [.ref o0, .ref o1, .ref o2, .ref o3, .ref o4, .ref o5, .ref o6, .int o_inside, .int o_night, .int o_minute, .int o_tasted, .int o_lastCook, .int o_stirred]), (o0, kI k 6 g0), (o1, kI k 6 g1), (o2, kI k 6 g2), (o3, kI k 6 g3), (o4, kI k 6 g4), (o5, kI k 6 g5), (o6, kI k 6 g6)] H := hP
           have hD : va_D A [(r, kO 4 [.ref r0, .ref r1, .ref r2, .ref r3, .ref r4, .ref r5, .ref r6, .int o_inside, .int o_night, .int r_minute, .int r_tasted, .int r_lastCook, .int r_stirred]), (r0, kI k 6 (va_cpy g0 f0 0 0 6)), (r1, kI k 6 (va_cpy g1 f1 0 0 6)), (r2, kI k 6 (va_cpy g2 f2 0 0 6)), (r3, kI k 6 (va_cpy g3 f3 0 0 6)), (r4, kI k 6 (va_cpy g4 f4 0 0 6)), (r5, kI k 6 (va_cpy g5 f5 0 0 6)), (r6, kI k 6 (va_cpy g6 f6 0 0 6)), (o, kO 4 [.ref o0, .ref o1, .ref o2, .ref o3, .ref o4, .ref o5, .ref o6, .int o_inside, .int o_night, .int o_minute, .int o_tasted, .int o_lastCook, .int o_stirred]), (o0, kI k 6 g0), (o1, kI k 6 g1), (o2, kI k 6 g2), (o3, kI k 6 g3), (o4, kI k 6 g4), (o5, kI k 6 g5), (o6, kI k 6 g6)] := hD
           refine lv_aload_n hx hb dX4_copyFrom_121 rfl (lv_at hl 0 rfl) ?_
           refine lv_aload_n hx hb dX4_copyFrom_122 rfl (lv_at hl 1 rfl) ?_
           refine va_get (D := D) (ci := 4) (v := .int o_minute) (C := RX4) (T := TX4) (N := 13) hx hb hts hi4 hown hK hP 8 rfl rfl 9 (by decide) lf47 (fun _ h9 => h9) rfl dX4_copyFrom_123 ?_
           refine va_put (D := D) (ci := 4) (v := .int o_minute) (ty := .int) (C := RX4) (T := TX4) (N := 13) hx hb hts hi4 tyX4 tyX4_ok nmX4 hown hK hP hD hS 0 rfl rfl 9 (by decide) lf47 (fun _ h9 => h9) rfl (by decide +kernel) rfl rfl (Nat.le_of_ble_eq_true rfl) dX4_copyFrom_126 (fun H locs hP hD hS => ?_)
           exact by
            have hP : va_P D vwCl [(r, kO 4 [.ref r0, .ref r1, .ref r2, .ref r3, .ref r4, .ref r5, .ref r6, .int o_inside, .int o_night, .int o_minute, .int r_tasted, .int r_lastCook, .int r_stirred]), (r0, kI k 6 (va_cpy g0 f0 0 0 6)), (r1, kI k 6 (va_cpy g1 f1 0 0 6)), (r2, kI k 6 (va_cpy g2 f2 0 0 6)), (r3, kI k 6 (va_cpy g3 f3 0 0 6)), (r4, kI k 6 (va_cpy g4 f4 0 0 6)), (r5, kI k 6 (va_cpy g5 f5 0 0 6)), (r6, kI k 6 (va_cpy g6 f6 0 0 6)), (o, kO 4 [.ref o0, .ref o1, .ref o2, .ref o3, .ref o4, .ref o5, .ref o6, .int o_inside, .int o_night, .int o_minute, .int o_tasted, .int o_lastCook, .int o_stirred]), (o0, kI k 6 g0), (o1, kI k 6 g1), (o2, kI k 6 g2), (o3, kI k 6 g3), (o4, kI k 6 g4), (o5, kI k 6 g5), (o6, kI k 6 g6)] H := hP
            have hD : va_D A [(r, kO 4 [.ref r0, .ref r1, .ref r2, .ref r3, .ref r4, .ref r5, .ref r6, .int o_inside, .int o_night, .int o_minute, .int r_tasted, .int r_lastCook, .int r_stirred]), (r0, kI k 6 (va_cpy g0 f0 0 0 6)), (r1, kI k 6 (va_cpy g1 f1 0 0 6)), (r2, kI k 6 (va_cpy g2 f2 0 0 6)), (r3, kI k 6 (va_cpy g3 f3 0 0 6)), (r4, kI k 6 (va_cpy g4 f4 0 0 6)), (r5, kI k 6 (va_cpy g5 f5 0 0 6)), (r6, kI k 6 (va_cpy g6 f6 0 0 6)), (o, kO 4 [.ref o0, .ref o1, .ref o2, .ref o3, .ref o4, .ref o5, .ref o6, .int o_inside, .int o_night, .int o_minute, .int o_tasted, .int o_lastCook, .int o_stirred]), (o0, kI k 6 g0), (o1, kI k 6 g1), (o2, kI k 6 g2), (o3, kI k 6 g3), (o4, kI k 6 g4), (o5, kI k 6 g5), (o6, kI k 6 g6)] := hD
            refine lv_aload_n hx hb dX4_copyFrom_129 rfl (lv_at hl 0 rfl) ?_
            refine lv_aload_n hx hb dX4_copyFrom_130 rfl (lv_at hl 1 rfl) ?_
            refine va_get (D := D) (ci := 4) (v := .int o_tasted) (C := RX4) (T := TX4) (N := 13) hx hb hts hi4 hown hK hP 8 rfl rfl 10 (by decide) lf40 (fun _ h9 => h9) rfl dX4_copyFrom_131 ?_
            refine va_put (D := D) (ci := 4) (v := .int o_tasted) (ty := .int) (C := RX4) (T := TX4) (N := 13) hx hb hts hi4 tyX4 tyX4_ok nmX4 hown hK hP hD hS 0 rfl rfl 10 (by decide) lf40 (fun _ h9 => h9) rfl (by decide +kernel) rfl rfl (Nat.le_of_ble_eq_true rfl) dX4_copyFrom_134 (fun H locs hP hD hS => ?_)
            exact by
             have hP : va_P D vwCl [(r, kO 4 [.ref r0, .ref r1, .ref r2, .ref r3, .ref r4, .ref r5, .ref r6, .int o_inside, .int o_night, .int o_minute, .int o_tasted, .int r_lastCook, .int r_stirred]), (r0, kI k 6 (va_cpy g0 f0 0 0 6)), (r1, kI k 6 (va_cpy g1 f1 0 0 6)), (r2, kI k 6 (va_cpy g2 f2 0 0 6)), (r3, kI k 6 (va_cpy g3 f3 0 0 6)), (r4, kI k 6 (va_cpy g4 f4 0 0 6)), (r5, kI k 6 (va_cpy g5 f5 0 0 6)), (r6, kI k 6 (va_cpy g6 f6 0 0 6)), (o, kO 4 [.ref o0, .ref o1, .ref o2, .ref o3, .ref o4, .ref o5, .ref o6, .int o_inside, .int o_night, .int o_minute, .int o_tasted, .int o_lastCook, .int o_stirred]), (o0, kI k 6 g0), (o1, kI k 6 g1), (o2, kI k 6 g2), (o3, kI k 6 g3), (o4, kI k 6 g4), (o5, kI k 6 g5), (o6, kI k 6 g6)] H := hP
             have hD : va_D A [(r, kO 4 [.ref r0, .ref r1, .ref r2, .ref r3, .ref r4, .ref r5, .ref r6, .int o_inside, .int o_night, .int o_minute, .int o_tasted, .int r_lastCook, .int r_stirred]), (r0, kI k 6 (va_cpy g0 f0 0 0 6)), (r1, kI k 6 (va_cpy g1 f1 0 0 6)), (r2, kI k 6 (va_cpy g2 f2 0 0 6)), (r3, kI k 6 (va_cpy g3 f3 0 0 6)), (r4, kI k 6 (va_cpy g4 f4 0 0 6)), (r5, kI k 6 (va_cpy g5 f5 0 0 6)), (r6, kI k 6 (va_cpy g6 f6 0 0 6)), (o, kO 4 [.ref o0, .ref o1, .ref o2, .ref o3, .ref o4, .ref o5, .ref o6, .int o_inside, .int o_night, .int o_minute, .int o_tasted, .int o_lastCook, .int o_stirred]), (o0, kI k 6 g0), (o1, kI k 6 g1), (o2, kI k 6 g2), (o3, kI k 6 g3), (o4, kI k 6 g4), (o5, kI k 6 g5), (o6, kI k 6 g6)] := hD
             refine lv_aload_n hx hb dX4_copyFrom_137 rfl (lv_at hl 0 rfl) ?_
             refine lv_aload_n hx hb dX4_copyFrom_138 rfl (lv_at hl 1 rfl) ?_
             refine va_get (D := D) (ci := 4) (v := .int o_lastCook) (C := RX4) (T := TX4) (N := 13) hx hb hts hi4 hown hK hP 8 rfl rfl 11 (by decide) lf33 (fun _ h9 => h9) rfl dX4_copyFrom_139 ?_
             refine va_put (D := D) (ci := 4) (v := .int o_lastCook) (ty := .int) (C := RX4) (T := TX4) (N := 13) hx hb hts hi4 tyX4 tyX4_ok nmX4 hown hK hP hD hS 0 rfl rfl 11 (by decide) lf33 (fun _ h9 => h9) rfl (by decide +kernel) rfl rfl (Nat.le_of_ble_eq_true rfl) dX4_copyFrom_142 (fun H locs hP hD hS => ?_)
             exact by
              have hP : va_P D vwCl [(r, kO 4 [.ref r0, .ref r1, .ref r2, .ref r3, .ref r4, .ref r5, .ref r6, .int o_inside, .int o_night, .int o_minute, .int o_tasted, .int o_lastCook, .int r_stirred]), (r0, kI k 6 (va_cpy g0 f0 0 0 6)), (r1, kI k 6 (va_cpy g1 f1 0 0 6)), (r2, kI k 6 (va_cpy g2 f2 0 0 6)), (r3, kI k 6 (va_cpy g3 f3 0 0 6)), (r4, kI k 6 (va_cpy g4 f4 0 0 6)), (r5, kI k 6 (va_cpy g5 f5 0 0 6)), (r6, kI k 6 (va_cpy g6 f6 0 0 6)), (o, kO 4 [.ref o0, .ref o1, .ref o2, .ref o3, .ref o4, .ref o5, .ref o6, .int o_inside, .int o_night, .int o_minute, .int o_tasted, .int o_lastCook, .int o_stirred]), (o0, kI k 6 g0), (o1, kI k 6 g1), (o2, kI k 6 g2), (o3, kI k 6 g3), (o4, kI k 6 g4), (o5, kI k 6 g5), (o6, kI k 6 g6)] H := hP
              have hD : va_D A [(r, kO 4 [.ref r0, .ref r1, .ref r2, .ref r3, .ref r4, .ref r5, .ref r6, .int o_inside, .int o_night, .int o_minute, .int o_tasted, .int o_lastCook, .int r_stirred]), (r0, kI k 6 (va_cpy g0 f0 0 0 6)), (r1, kI k 6 (va_cpy g1 f1 0 0 6)), (r2, kI k 6 (va_cpy g2 f2 0 0 6)), (r3, kI k 6 (va_cpy g3 f3 0 0 6)), (r4, kI k 6 (va_cpy g4 f4 0 0 6)), (r5, kI k 6 (va_cpy g5 f5 0 0 6)), (r6, kI k 6 (va_cpy g6 f6 0 0 6)), (o, kO 4 [.ref o0, .ref o1, .ref o2, .ref o3, .ref o4, .ref o5, .ref o6, .int o_inside, .int o_night, .int o_minute, .int o_tasted, .int o_lastCook, .int o_stirred]), (o0, kI k 6 g0), (o1, kI k 6 g1), (o2, kI k 6 g2), (o3, kI k 6 g3), (o4, kI k 6 g4), (o5, kI k 6 g5), (o6, kI k 6 g6)] := hD
              rw [hQ]
              have hP9 := hP.sub (ws' := [(r, kO 4 [.ref r0, .ref r1, .ref r2, .ref r3, .ref r4, .ref r5, .ref r6, .int o_inside, .int o_night, .int o_minute, .int o_tasted, .int o_lastCook, .int r_stirred]), (r0, kI k 6 (va_cpy g0 f0 0 0 6)), (r1, kI k 6 (va_cpy g1 f1 0 0 6)), (r2, kI k 6 (va_cpy g2 f2 0 0 6)), (r3, kI k 6 (va_cpy g3 f3 0 0 6)), (r4, kI k 6 (va_cpy g4 f4 0 0 6)), (r5, kI k 6 (va_cpy g5 f5 0 0 6)), (r6, kI k 6 (va_cpy g6 f6 0 0 6)), (o, kO 4 [.ref o0, .ref o1, .ref o2, .ref o3, .ref o4, .ref o5, .ref o6, .int o_inside, .int o_night, .int o_minute, .int o_tasted, .int o_lastCook, .int o_stirred]), (o0, kI k 6 g0), (o1, kI k 6 g1), (o2, kI k 6 g2), (o3, kI k 6 g3), (o4, kI k 6 g4), (o5, kI k 6 g5), (o6, kI k 6 g6)]) [0, 1, 2, 3, 4, 5, 6, 7, 8, 9, 10, 11, 12, 13, 14, 15] rfl
              have hD9 := hD.sub (ws' := [(r, kO 4 [.ref r0, .ref r1, .ref r2, .ref r3, .ref r4, .ref r5, .ref r6, .int o_inside, .int o_night, .int o_minute, .int o_tasted, .int o_lastCook, .int r_stirred]), (r0, kI k 6 (va_cpy g0 f0 0 0 6)), (r1, kI k 6 (va_cpy g1 f1 0 0 6)), (r2, kI k 6 (va_cpy g2 f2 0 0 6)), (r3, kI k 6 (va_cpy g3 f3 0 0 6)), (r4, kI k 6 (va_cpy g4 f4 0 0 6)), (r5, kI k 6 (va_cpy g5 f5 0 0 6)), (r6, kI k 6 (va_cpy g6 f6 0 0 6)), (o, kO 4 [.ref o0, .ref o1, .ref o2, .ref o3, .ref o4, .ref o5, .ref o6, .int o_inside, .int o_night, .int o_minute, .int o_tasted, .int o_lastCook, .int o_stirred]), (o0, kI k 6 g0), (o1, kI k 6 g1), (o2, kI k 6 g2), (o3, kI k 6 g3), (o4, kI k 6 g4), (o5, kI k 6 g5), (o6, kI k 6 g6)]) [0, 1, 2, 3, 4, 5, 6, 7, 8, 9, 10, 11, 12, 13, 14, 15] (by decide +kernel) rfl
              exact W.vret hx hb hr (fun zt ht hW => ⟨⟨(), rfl, trivial, by rw [ht]; exact hP9, hD9⟩, hS.F ht⟩) hS.2.2 dX4_copyFrom_145
