theorem dX6_advance_0 : decode cX6_advance 0 = .ok (.aload_n 0, 1) := by decide +kernel
theorem dX6_advance_1 : decode cX6_advance 1 = .ok (.getfield 44, 3) := by decide +kernel
theorem dX6_advance_4 : decode cX6_advance 4 = .ok (.aload_n 0, 1) := by decide +kernel
theorem dX6_advance_5 : decode cX6_advance 5 = .ok (.getfield 41, 3) := by decide +kernel
theorem dX6_advance_8 : decode cX6_advance 8 = .ok (.if_icmp .ge 44, 3) := by decide +kernel
theorem dX6_advance_52 : decode cX6_advance 52 = .ok (.aload_n 0, 1) := by decide +kernel
theorem dX6_advance_53 : decode cX6_advance 53 = .ok (.aload_n 0, 1) := by decide +kernel
theorem dX6_advance_54 : decode cX6_advance 54 = .ok (.getfield 44, 3) := by decide +kernel
theorem dX6_advance_57 : decode cX6_advance 57 = .ok (.putfield 53, 3) := by decide +kernel
theorem dX6_advance_60 : decode cX6_advance 60 = .ok (.aload_n 0, 1) := by decide +kernel
theorem dX6_advance_61 : decode cX6_advance 61 = .ok (.iconst (-1), 1) := by decide +kernel
theorem dX6_advance_62 : decode cX6_advance 62 = .ok (.putfield 56, 3) := by decide +kernel
theorem dX6_advance_65 : decode cX6_advance 65 = .ok (.aload_n 0, 1) := by decide +kernel
theorem dX6_advance_66 : decode cX6_advance 66 = .ok (.getfield 44, 3) := by decide +kernel
theorem dX6_advance_69 : decode cX6_advance 69 = .ok (.aload_n 0, 1) := by decide +kernel
theorem dX6_advance_70 : decode cX6_advance 70 = .ok (.getfield 41, 3) := by decide +kernel
theorem dX6_advance_73 : decode cX6_advance 73 = .ok (.if_icmp .lt 11, 3) := by decide +kernel
theorem dX6_advance_76 : decode cX6_advance 76 = .ok (.aload_n 0, 1) := by decide +kernel
theorem dX6_advance_77 : decode cX6_advance 77 = .ok (.iconst 0, 1) := by decide +kernel
theorem dX6_advance_78 : decode cX6_advance 78 = .ok (.putfield 59, 3) := by decide +kernel
theorem dX6_advance_81 : decode cX6_advance 81 = .ok (.goto 92, 3) := by decide +kernel
theorem dX6_advance_173 : decode cX6_advance 173 = .ok (.return_, 1) := by decide +kernel
set_option maxHeartbeats 4000000 in
set_option maxRecDepth 100000 in
theorem mX6_advance (l : Launch) (D : va_G) (k : Nat → ClassId) (sz : Nat) (tp : Nat) (tp_signs : Value) (tp_words : Value) (tp_place : Int32) (tp_kind : Int32) (tp_value : Int32) (tp_letters : Int64) (tp_fault : Int32) : Met l yX6_advance wsX6_advance ({ frames := 0, cells := 0, slots := 0, locals := 0 }) (va_Pc [.ref tp] (kz_Pre D k [(tp, kO 6 [tp_signs, tp_words, .int 0, .int 0, .int tp_place, .int tp_kind, .int tp_value, .long tp_letters, .int tp_fault])] sz)) (va_Qv (fun (uu : Unit) => True) (fun uu zt => kz_B D (va_A [(tp, kO 6 [tp_signs, tp_words, .int 0, .int 0, .int tp_place, .int tp_kind, .int tp_value, .long tp_letters, .int tp_fault])] sz) [(tp, kO 6 [tp_signs, tp_words, .int 0, .int 0, .int 0, .int 0, .int (-1), .long tp_letters, .int tp_fault])] zt) (va_A [(tp, kO 6 [tp_signs, tp_words, .int 0, .int 0, .int tp_place, .int tp_kind, .int tp_value, .long tp_letters, .int tp_fault])] sz)) 0 0 (va_A [(tp, kO 6 [tp_signs, tp_words, .int 0, .int 0, .int tp_place, .int tp_kind, .int tp_value, .long tp_letters, .int tp_fault])] sz) := by
  refine Met.ofW (cc := cX6_advance) (maxL := 1) (ret := none) (by decide) rfl ?_
  intro p e s m args below meth c s₁ B hml hv
  obtain ⟨hav, hsz, hP, hK, hD0, hE⟩ := hv
  have hx := B.exec
  have hb := B.bytes
  have hr := B.returns
  have hts := atoms_spec (ws := wsX6_advance) B.pre
  have hown : s.vm.findClass RX6 = some m.cls := findClass_of_methodNamed B.named
  have hlocks := B.notSynchronized
  have hi6 : ∀ w ∈ u_ws RX6 TX6 9, w ∈ wsX6_advance := by decide +kernel
  have lf44 := hts (.fieldLink RX6 44 "LastCook$Tape" "next" "I") (by decide +kernel)
  have lf41 := hts (.fieldLink RX6 41 "LastCook$Tape" "length" "I") (by decide +kernel)
  have lf53 := hts (.fieldLink RX6 53 "LastCook$Tape" "place" "I") (by decide +kernel)
  have lf56 := hts (.fieldLink RX6 56 "LastCook$Tape" "value" "I") (by decide +kernel)
  have lf59 := hts (.fieldLink RX6 59 "LastCook$Tape" "kind" "I") (by decide +kernel)
  subst hsz
  have hD := hD0.self (sz := s.heap.size)
  generalize hAe : va_A [(tp, kO 6 [tp_signs, tp_words, .int 0, .int 0, .int tp_place, .int tp_kind, .int tp_value, .long tp_letters, .int tp_fault])] s.heap.size = A at hD ⊢
  have hA : ∀ q : Nat, s.heap.size ≤ q → A q := fun q h => by rw [← hAe]; exact Or.inr h
  have hS : va_S A s.heap s.heap [] := va_S.rf
  have hl := lv_entry ([.ref tp]) (n := 1) (Nat.le_of_ble_eq_true rfl)
  rw [show entryFrame m args 1 = entryFrame m ([.ref tp] : List Value).toArray 1 by rw [hav], lg_entry_eq]
  generalize (lg_sl ([.ref tp]) ++ List.replicate (1 - (lg_sl ([.ref tp])).length) Slot.unset).toArray = ls at hl ⊢
  have hl : lv_has ls 1 [(0, .ref tp)] := hl
  obtain ⟨R, hR⟩ : ∃ R, R = (headSpec wsX6_advance ({ frames := 0, cells := 0, slots := 0, locals := 0 } : Room)).room := ⟨_, rfl⟩
  rw [← hR]
  generalize hQ : MQ below _ args s 0 0 A = Q
  replace hQ := hQ.symm
  obtain ⟨H, hH⟩ : ∃ H, H = s.heap := ⟨_, rfl⟩
  rw [← hH] at hP ⊢
  have hS : va_S A s.heap H [] := by rw [hH]; exact hS
  refine lv_aload_n hx hb dX6_advance_0 rfl (lv_at hl 0 rfl) ?_
  refine va_get (D := D) (ci := 6) (v := .int 0) (C := RX6) (T := TX6) (N := 9) hx hb hts hi6 hown hK hP 0 rfl rfl 3 (by decide) lf44 (fun _ h9 => h9) rfl dX6_advance_1 ?_
  refine lv_aload_n hx hb dX6_advance_4 rfl (lv_at hl 0 rfl) ?_
  refine va_get (D := D) (ci := 6) (v := .int 0) (C := RX6) (T := TX6) (N := 9) hx hb hts hi6 hown hK hP 0 rfl rfl 2 (by decide) lf41 (fun _ h9 => h9) rfl dX6_advance_5 ?_
  refine lv_icmp_ge (tgt := 52) hx hb dX6_advance_8 (by decide) (fun c_1 => ?_) (fun c_1 => absurd (by decide) c_1)
  refine lv_aload_n hx hb dX6_advance_52 rfl (lv_at hl 0 rfl) ?_
  refine lv_aload_n hx hb dX6_advance_53 rfl (lv_at hl 0 rfl) ?_
  refine va_get (D := D) (ci := 6) (v := .int 0) (C := RX6) (T := TX6) (N := 9) hx hb hts hi6 hown hK hP 0 rfl rfl 3 (by decide) lf44 (fun _ h9 => h9) rfl dX6_advance_54 ?_
  refine va_put (D := D) (ci := 6) (v := .int 0) (ty := .int) (C := RX6) (T := TX6) (N := 9) hx hb hts hi6 tyX6 tyX6_ok nmX6 hown hK hP hD hS 0 rfl rfl 4 (by decide) lf53 (fun _ h9 => h9) rfl (by decide +kernel) rfl rfl (Nat.le_of_ble_eq_true rfl) dX6_advance_57 (fun H locs hP hD hS => ?_)
  have hP : va_P D vwCl [(tp, kO 6 [tp_signs, tp_words, .int 0, .int 0, .int 0, .int tp_kind, .int tp_value, .long tp_letters, .int tp_fault])] H := hP
  have hD : va_D A [(tp, kO 6 [tp_signs, tp_words, .int 0, .int 0, .int 0, .int tp_kind, .int tp_value, .long tp_letters, .int tp_fault])] := hD
  refine lv_aload_n hx hb dX6_advance_60 rfl (lv_at hl 0 rfl) ?_
  refine lv_iconst (v := (-1)) hx hb dX6_advance_61 (by decide) ?_
  refine va_put (D := D) (ci := 6) (v := .int (-1)) (ty := .int) (C := RX6) (T := TX6) (N := 9) hx hb hts hi6 tyX6 tyX6_ok nmX6 hown hK hP hD hS 0 rfl rfl 6 (by decide) lf56 (fun _ h9 => h9) rfl (by decide +kernel) rfl rfl (Nat.le_of_ble_eq_true rfl) dX6_advance_62 (fun H locs hP hD hS => ?_)
  have hP : va_P D vwCl [(tp, kO 6 [tp_signs, tp_words, .int 0, .int 0, .int 0, .int tp_kind, .int (-1), .long tp_letters, .int tp_fault])] H := hP
  have hD : va_D A [(tp, kO 6 [tp_signs, tp_words, .int 0, .int 0, .int 0, .int tp_kind, .int (-1), .long tp_letters, .int tp_fault])] := hD
  refine lv_aload_n hx hb dX6_advance_65 rfl (lv_at hl 0 rfl) ?_
  refine va_get (D := D) (ci := 6) (v := .int 0) (C := RX6) (T := TX6) (N := 9) hx hb hts hi6 hown hK hP 0 rfl rfl 3 (by decide) lf44 (fun _ h9 => h9) rfl dX6_advance_66 ?_
  refine lv_aload_n hx hb dX6_advance_69 rfl (lv_at hl 0 rfl) ?_
  refine va_get (D := D) (ci := 6) (v := .int 0) (C := RX6) (T := TX6) (N := 9) hx hb hts hi6 hown hK hP 0 rfl rfl 2 (by decide) lf41 (fun _ h9 => h9) rfl dX6_advance_70 ?_
  refine lv_icmp_lt (tgt := 84) hx hb dX6_advance_73 (by decide) (fun c_2 => absurd c_2 (by decide)) (fun c_2 => ?_)
  refine lv_aload_n hx hb dX6_advance_76 rfl (lv_at hl 0 rfl) ?_
  refine lv_iconst (v := 0) hx hb dX6_advance_77 (by decide) ?_
  refine va_put (D := D) (ci := 6) (v := .int 0) (ty := .int) (C := RX6) (T := TX6) (N := 9) hx hb hts hi6 tyX6 tyX6_ok nmX6 hown hK hP hD hS 0 rfl rfl 5 (by decide) lf59 (fun _ h9 => h9) rfl (by decide +kernel) rfl rfl (Nat.le_of_ble_eq_true rfl) dX6_advance_78 (fun H locs hP hD hS => ?_)
  have hP : va_P D vwCl [(tp, kO 6 [tp_signs, tp_words, .int 0, .int 0, .int 0, .int 0, .int (-1), .long tp_letters, .int tp_fault])] H := hP
  have hD : va_D A [(tp, kO 6 [tp_signs, tp_words, .int 0, .int 0, .int 0, .int 0, .int (-1), .long tp_letters, .int tp_fault])] := hD
  refine lv_goto (tgt := 173) hx hb dX6_advance_81 (by decide) ?_
  rw [hQ]
  have hP9 := hP.sub (ws' := [(tp, kO 6 [tp_signs, tp_words, .int 0, .int 0, .int 0, .int 0, .int (-1), .long tp_letters, .int tp_fault])]) [0] rfl
  have hD9 := hD.sub (ws' := [(tp, kO 6 [tp_signs, tp_words, .int 0, .int 0, .int 0, .int 0, .int (-1), .long tp_letters, .int tp_fault])]) [0] (by decide) rfl
  exact W.vret hx hb hr (fun zt ht hW => ⟨⟨(), rfl, trivial, by rw [ht]; exact hP9, hD9⟩, hS.F ht⟩) hS.2.2 dX6_advance_173
theorem dX6_rewind_0 : decode cX6_rewind 0 = .ok (.aload_n 0, 1) := by decide +kernel
theorem dX6_rewind_1 : decode cX6_rewind 1 = .ok (.iconst 0, 1) := by decide +kernel
theorem dX6_rewind_2 : decode cX6_rewind 2 = .ok (.putfield 44, 3) := by decide +kernel
theorem dX6_rewind_5 : decode cX6_rewind 5 = .ok (.aload_n 0, 1) := by decide +kernel
theorem dX6_rewind_6 : decode cX6_rewind 6 = .ok (.iconst 0, 1) := by decide +kernel
theorem dX6_rewind_7 : decode cX6_rewind 7 = .ok (.putfield 47, 3) := by decide +kernel
theorem dX6_rewind_10 : decode cX6_rewind 10 = .ok (.aload_n 0, 1) := by decide +kernel
theorem dX6_rewind_11 : decode cX6_rewind 11 = .ok (.invokevirtual 50, 3) := by decide +kernel
theorem dX6_rewind_14 : decode cX6_rewind 14 = .ok (.return_, 1) := by decide +kernel
set_option maxRecDepth 20000 in
theorem ggX6_rewind_X6_advance : GoodIn wsX6_rewind wsX6_advance := goodIn_r _ [7, 1, 8, 9, 10, 11, 12, 13, 14, 6, 15, 16, 17, 18, 19, 20, 21, 22, 23, 24, 25, 26, 27, 28, 29, 30, 31, 32, 33, 34, 35, 36, 37, 38, 39, 40, 41, 42, 43, 44, 45, 46, 47, 48, 49, 50, 51, 52, 53, 54, 55, 56, 57, 58, 59, 60, 61, 62, 63, 64, 65, 66, 67, 68, 69, 70, 71, 72, 73, 74, 75, 76, 77, 78, 79, 80, 81, 82, 83, 84, 85, 86, 87, 88, 89, 90, 91, 92, 93, 94, 95, 96, 97, 98, 99, 100, 101, 102, 103, 104, 105, 106, 107, 108, 109, 110, 111, 112, 113, 114, 115, 116, 117, 118, 119, 120, 121, 122, 123, 124, 125, 126, 127, 128, 129, 130] rfl (by decide +kernel)
set_option maxRecDepth 20000 in
theorem gX6_rewind_X6_advance : GoodIn wsX6_rewind (wsV RX6 50 RX6 yX6_advance wsX6_advance) := goodIn_app (goodIn_of _ (by decide +kernel)) ggX6_rewind_X6_advance
set_option maxHeartbeats 4000000 in
set_option maxRecDepth 100000 in
theorem mX6_rewind (l : Launch) (D : va_G) (k : Nat → ClassId) (sz : Nat) (tp : Nat) (tp_signs : Value) (tp_words : Value) (tp_next : Int32) (tp_place : Int32) (tp_kind : Int32) (tp_value : Int32) (tp_letters : Int64) (tp_fault : Int32) : Met l yX6_rewind wsX6_rewind ({ frames := 1, cells := 0, slots := 0, locals := 70 }) (va_Pc [.ref tp] (kz_Pre D k [(tp, kO 6 [tp_signs, tp_words, .int 0, .int tp_next, .int tp_place, .int tp_kind, .int tp_value, .long tp_letters, .int tp_fault])] sz)) (va_Qv (fun (uu : Unit) => True) (fun uu zt => kz_B D (va_A [(tp, kO 6 [tp_signs, tp_words, .int 0, .int tp_next, .int tp_place, .int tp_kind, .int tp_value, .long tp_letters, .int tp_fault])] sz) [(tp, kO 6 [tp_signs, tp_words, .int 0, .int 0, .int 0, .int 0, .int (-1), .long tp_letters, .int 0])] zt) (va_A [(tp, kO 6 [tp_signs, tp_words, .int 0, .int tp_next, .int tp_place, .int tp_kind, .int tp_value, .long tp_letters, .int tp_fault])] sz)) 0 0 (va_A [(tp, kO 6 [tp_signs, tp_words, .int 0, .int tp_next, .int tp_place, .int tp_kind, .int tp_value, .long tp_letters, .int tp_fault])] sz) := by
  refine Met.ofW (cc := cX6_rewind) (maxL := 1) (ret := none) (by decide) rfl ?_
  intro p e s m args below meth c s₁ B hml hv
  obtain ⟨hav, hsz, hP, hK, hD0, hE⟩ := hv
  have hx := B.exec
  have hb := B.bytes
  have hr := B.returns
  have hts := atoms_spec (ws := wsX6_rewind) B.pre
  have hown : s.vm.findClass RX6 = some m.cls := findClass_of_methodNamed B.named
  have hlocks := B.notSynchronized
  have hi6 : ∀ w ∈ u_ws RX6 TX6 9, w ∈ wsX6_rewind := by decide +kernel
  have lf44 := hts (.fieldLink RX6 44 "LastCook$Tape" "next" "I") (by decide +kernel)
  have lf47 := hts (.fieldLink RX6 47 "LastCook$Tape" "fault" "I") (by decide +kernel)
  subst hsz
  have hD := hD0.self (sz := s.heap.size)
  generalize hAe : va_A [(tp, kO 6 [tp_signs, tp_words, .int 0, .int tp_next, .int tp_place, .int tp_kind, .int tp_value, .long tp_letters, .int tp_fault])] s.heap.size = A at hD ⊢
  have hA : ∀ q : Nat, s.heap.size ≤ q → A q := fun q h => by rw [← hAe]; exact Or.inr h
  have hS : va_S A s.heap s.heap [] := va_S.rf
  have hl := lv_entry ([.ref tp]) (n := 1) (Nat.le_of_ble_eq_true rfl)
  rw [show entryFrame m args 1 = entryFrame m ([.ref tp] : List Value).toArray 1 by rw [hav], lg_entry_eq]
  generalize (lg_sl ([.ref tp]) ++ List.replicate (1 - (lg_sl ([.ref tp])).length) Slot.unset).toArray = ls at hl ⊢
  have hl : lv_has ls 1 [(0, .ref tp)] := hl
  obtain ⟨R, hR⟩ : ∃ R, R = (headSpec wsX6_rewind ({ frames := 1, cells := 0, slots := 0, locals := 70 } : Room)).room := ⟨_, rfl⟩
  rw [← hR]
  generalize hQ : MQ below _ args s 0 0 A = Q
  replace hQ := hQ.symm
  obtain ⟨H, hH⟩ : ∃ H, H = s.heap := ⟨_, rfl⟩
  rw [← hH] at hP ⊢
  have hS : va_S A s.heap H [] := by rw [hH]; exact hS
  refine lv_aload_n hx hb dX6_rewind_0 rfl (lv_at hl 0 rfl) ?_
  refine lv_iconst (v := 0) hx hb dX6_rewind_1 (by decide) ?_
  refine va_put (D := D) (ci := 6) (v := .int 0) (ty := .int) (C := RX6) (T := TX6) (N := 9) hx hb hts hi6 tyX6 tyX6_ok nmX6 hown hK hP hD hS 0 rfl rfl 3 (by decide) lf44 (fun _ h9 => h9) rfl (by decide +kernel) rfl rfl (Nat.le_of_ble_eq_true rfl) dX6_rewind_2 (fun H locs hP hD hS => ?_)
  have hP : va_P D vwCl [(tp, kO 6 [tp_signs, tp_words, .int 0, .int 0, .int tp_place, .int tp_kind, .int tp_value, .long tp_letters, .int tp_fault])] H := hP
  have hD : va_D A [(tp, kO 6 [tp_signs, tp_words, .int 0, .int 0, .int tp_place, .int tp_kind, .int tp_value, .long tp_letters, .int tp_fault])] := hD
  refine lv_aload_n hx hb dX6_rewind_5 rfl (lv_at hl 0 rfl) ?_
  refine lv_iconst (v := 0) hx hb dX6_rewind_6 (by decide) ?_
  refine va_put (D := D) (ci := 6) (v := .int 0) (ty := .int) (C := RX6) (T := TX6) (N := 9) hx hb hts hi6 tyX6 tyX6_ok nmX6 hown hK hP hD hS 0 rfl rfl 8 (by decide) lf47 (fun _ h9 => h9) rfl (by decide +kernel) rfl rfl (Nat.le_of_ble_eq_true rfl) dX6_rewind_7 (fun H locs hP hD hS => ?_)
  have hP : va_P D vwCl [(tp, kO 6 [tp_signs, tp_words, .int 0, .int 0, .int tp_place, .int tp_kind, .int tp_value, .long tp_letters, .int 0])] H := hP
  have hD : va_D A [(tp, kO 6 [tp_signs, tp_words, .int 0, .int 0, .int tp_place, .int tp_kind, .int tp_value, .long tp_letters, .int 0])] := hD
  refine lv_aload_n hx hb dX6_rewind_10 rfl (lv_at hl 0 rfl) ?_
  refine kz_Vv (As := []) (rest := []) (wc := [(tp, kO 6 [tp_signs, tp_words, .int 0, .int 0, .int tp_place, .int tp_kind, .int tp_value, .long tp_letters, .int 0])]) (wr := []) ⟨hx, hb, hml, hown, hts⟩ hK hE hP hD hS hA (mX6_advance l D k H.size tp tp_signs tp_words tp_place tp_kind tp_value tp_letters 0) (cwV 0 hts gX6_rewind_X6_advance rfl rfl rfl (by decide +kernel) (by rw [hR]; exact ⟨Nat.le_of_ble_eq_true rfl, Nat.le_of_ble_eq_true rfl⟩)) [0] [] rfl rfl (by decide) (by decide) (by decide) 0 rfl rfl rfl hl.1 rfl (Nat.le_of_ble_eq_true rfl) dX6_rewind_11 (by rw [hR]; exact ⟨Nat.le_of_ble_eq_true rfl, Nat.le_of_ble_eq_true rfl⟩) (fun u1 H locs hw1 hP hD hS => ?_)
  have hP : va_P D vwCl [(tp, kO 6 [tp_signs, tp_words, .int 0, .int 0, .int 0, .int 0, .int (-1), .long tp_letters, .int 0])] H := hP
  have hD : va_D A [(tp, kO 6 [tp_signs, tp_words, .int 0, .int 0, .int 0, .int 0, .int (-1), .long tp_letters, .int 0])] := hD
  rw [hQ]
  have hP9 := hP.sub (ws' := [(tp, kO 6 [tp_signs, tp_words, .int 0, .int 0, .int 0, .int 0, .int (-1), .long tp_letters, .int 0])]) [0] rfl
  have hD9 := hD.sub (ws' := [(tp, kO 6 [tp_signs, tp_words, .int 0, .int 0, .int 0, .int 0, .int (-1), .long tp_letters, .int 0])]) [0] (by decide) rfl
  exact W.vret hx hb hr (fun zt ht hW => ⟨⟨(), rfl, trivial, by rw [ht]; exact hP9, hD9⟩, hS.F ht⟩) hS.2.2 dX6_rewind_14
theorem dX6_isAtEnd_0 : decode cX6_isAtEnd 0 = .ok (.aload_n 0, 1) := by decide +kernel
theorem dX6_isAtEnd_1 : decode cX6_isAtEnd 1 = .ok (.getfield 59, 3) := by decide +kernel
theorem dX6_isAtEnd_4 : decode cX6_isAtEnd 4 = .ok (.ifCond .ne 7, 3) := by decide +kernel
theorem dX6_isAtEnd_7 : decode cX6_isAtEnd 7 = .ok (.iconst 1, 1) := by decide +kernel
theorem dX6_isAtEnd_8 : decode cX6_isAtEnd 8 = .ok (.goto 4, 3) := by decide +kernel
theorem dX6_isAtEnd_12 : decode cX6_isAtEnd 12 = .ok (.ireturn, 1) := by decide +kernel
set_option maxHeartbeats 4000000 in
set_option maxRecDepth 100000 in
theorem mX6_isAtEnd (l : Launch) (D : va_G) (k : Nat → ClassId) (sz : Nat) (tp : Nat) (tp_signs : Value) (tp_words : Value) (tp_length : Int32) (tp_next : Int32) (tp_place : Int32) (tp_value : Int32) (tp_letters : Int64) (tp_fault : Int32) : Met l yX6_isAtEnd wsX6_isAtEnd ({ frames := 0, cells := 0, slots := 0, locals := 0 }) (va_Pc [.ref tp] (kz_Pre D k [(tp, kO 6 [tp_signs, tp_words, .int tp_length, .int tp_next, .int tp_place, .int 0, .int tp_value, .long tp_letters, .int tp_fault])] sz)) (va_Qi (fun (rr : Int32) (uu : Unit) => rr = 1) (fun uu zt => kz_B D (va_A [(tp, kO 6 [tp_signs, tp_words, .int tp_length, .int tp_next, .int tp_place, .int 0, .int tp_value, .long tp_letters, .int tp_fault])] sz) [(tp, kO 6 [tp_signs, tp_words, .int tp_length, .int tp_next, .int tp_place, .int 0, .int tp_value, .long tp_letters, .int tp_fault])] zt) (va_A [(tp, kO 6 [tp_signs, tp_words, .int tp_length, .int tp_next, .int tp_place, .int 0, .int tp_value, .long tp_letters, .int tp_fault])] sz)) 0 0 (va_A [(tp, kO 6 [tp_signs, tp_words, .int tp_length, .int tp_next, .int tp_place, .int 0, .int tp_value, .long tp_letters, .int tp_fault])] sz) := by
  refine Met.ofW (cc := cX6_isAtEnd) (maxL := 1) (ret := (some .boolean)) (by decide) rfl ?_
  intro p e s m args below meth c s₁ B hml hv
  obtain ⟨hav, hsz, hP, hK, hD0, hE⟩ := hv
  have hx := B.exec
  have hb := B.bytes
  have hr := B.returns
  have hts := atoms_spec (ws := wsX6_isAtEnd) B.pre
  have hown : s.vm.findClass RX6 = some m.cls := findClass_of_methodNamed B.named
  have hlocks := B.notSynchronized
  have hi6 : ∀ w ∈ u_ws RX6 TX6 9, w ∈ wsX6_isAtEnd := by decide +kernel
  have lf59 := hts (.fieldLink RX6 59 "LastCook$Tape" "kind" "I") (by decide +kernel)
  subst hsz
  have hD := hD0.self (sz := s.heap.size)
  generalize hAe : va_A [(tp, kO 6 [tp_signs, tp_words, .int tp_length, .int tp_next, .int tp_place, .int 0, .int tp_value, .long tp_letters, .int tp_fault])] s.heap.size = A at hD ⊢
  have hA : ∀ q : Nat, s.heap.size ≤ q → A q := fun q h => by rw [← hAe]; exact Or.inr h
  have hS : va_S A s.heap s.heap [] := va_S.rf
  have hl := lv_entry ([.ref tp]) (n := 1) (Nat.le_of_ble_eq_true rfl)
  rw [show entryFrame m args 1 = entryFrame m ([.ref tp] : List Value).toArray 1 by rw [hav], lg_entry_eq]
  generalize (lg_sl ([.ref tp]) ++ List.replicate (1 - (lg_sl ([.ref tp])).length) Slot.unset).toArray = ls at hl ⊢
  have hl : lv_has ls 1 [(0, .ref tp)] := hl
  obtain ⟨R, hR⟩ : ∃ R, R = (headSpec wsX6_isAtEnd ({ frames := 0, cells := 0, slots := 0, locals := 0 } : Room)).room := ⟨_, rfl⟩
  rw [← hR]
  generalize hQ : MQ below _ args s 0 0 A = Q
  replace hQ := hQ.symm
  obtain ⟨H, hH⟩ : ∃ H, H = s.heap := ⟨_, rfl⟩
  rw [← hH] at hP ⊢
  have hS : va_S A s.heap H [] := by rw [hH]; exact hS
  refine lv_aload_n hx hb dX6_isAtEnd_0 rfl (lv_at hl 0 rfl) ?_
  refine va_get (D := D) (ci := 6) (v := .int 0) (C := RX6) (T := TX6) (N := 9) hx hb hts hi6 hown hK hP 0 rfl rfl 5 (by decide) lf59 (fun _ h9 => h9) rfl dX6_isAtEnd_1 ?_
  refine lv_if_ne (tgt := 11) hx hb dX6_isAtEnd_4 (by decide) (fun c_1 => absurd (by decide) c_1) (fun c_1 => ?_)
  refine lv_iconst (v := 1) hx hb dX6_isAtEnd_7 (by decide) ?_
  refine lv_goto (tgt := 12) hx hb dX6_isAtEnd_8 (by decide) ?_
  rw [hQ]
  have hP9 := hP.sub (ws' := [(tp, kO 6 [tp_signs, tp_words, .int tp_length, .int tp_next, .int tp_place, .int 0, .int tp_value, .long tp_letters, .int tp_fault])]) [0] rfl
  have hD9 := hD.sub (ws' := [(tp, kO 6 [tp_signs, tp_words, .int tp_length, .int tp_next, .int tp_place, .int 0, .int tp_value, .long tp_letters, .int tp_fault])]) [0] (by decide) rfl
  exact W.zret (v := 1) hx hb hr rfl (fun zt ht hW => ⟨⟨1, (), rfl, rfl, by rw [ht]; exact hP9, hD9⟩, hS.F ht⟩) hS.2.2 dX6_isAtEnd_12
theorem dX7_clear_0 : decode cX7_clear 0 = .ok (.aload_n 0, 1) := by decide +kernel
theorem dX7_clear_1 : decode cX7_clear 1 = .ok (.getfield 34, 3) := by decide +kernel
theorem dX7_clear_4 : decode cX7_clear 4 = .ok (.invokevirtual 45, 3) := by decide +kernel
theorem dX7_clear_7 : decode cX7_clear 7 = .ok (.aload_n 0, 1) := by decide +kernel
theorem dX7_clear_8 : decode cX7_clear 8 = .ok (.iconst 0, 1) := by decide +kernel
theorem dX7_clear_9 : decode cX7_clear 9 = .ok (.putfield 48, 3) := by decide +kernel
theorem dX7_clear_12 : decode cX7_clear 12 = .ok (.aload_n 0, 1) := by decide +kernel
theorem dX7_clear_13 : decode cX7_clear 13 = .ok (.iconst 0, 1) := by decide +kernel
theorem dX7_clear_14 : decode cX7_clear 14 = .ok (.putfield 51, 3) := by decide +kernel
theorem dX7_clear_17 : decode cX7_clear 17 = .ok (.aload_n 0, 1) := by decide +kernel
theorem dX7_clear_18 : decode cX7_clear 18 = .ok (.bipush 10, 2) := by decide +kernel
theorem dX7_clear_20 : decode cX7_clear 20 = .ok (.putfield 38, 3) := by decide +kernel
theorem dX7_clear_23 : decode cX7_clear 23 = .ok (.aload_n 0, 1) := by decide +kernel
theorem dX7_clear_24 : decode cX7_clear 24 = .ok (.bipush 30, 2) := by decide +kernel
theorem dX7_clear_26 : decode cX7_clear 26 = .ok (.putfield 42, 3) := by decide +kernel
theorem dX7_clear_29 : decode cX7_clear 29 = .ok (.aload_n 0, 1) := by decide +kernel
theorem dX7_clear_30 : decode cX7_clear 30 = .ok (.iconst 0, 1) := by decide +kernel
theorem dX7_clear_31 : decode cX7_clear 31 = .ok (.putfield 54, 3) := by decide +kernel
theorem dX7_clear_34 : decode cX7_clear 34 = .ok (.aload_n 0, 1) := by decide +kernel
theorem dX7_clear_35 : decode cX7_clear 35 = .ok (.iconst 0, 1) := by decide +kernel
theorem dX7_clear_36 : decode cX7_clear 36 = .ok (.putfield 58, 3) := by decide +kernel
theorem dX7_clear_39 : decode cX7_clear 39 = .ok (.return_, 1) := by decide +kernel
set_option maxRecDepth 20000 in
theorem ggX7_clear_X0_clear : GoodIn wsX7_clear wsX0_clear := goodIn_r _ [12, 13, 27, 28, 29, 30, 31] rfl (by decide +kernel)
set_option maxRecDepth 20000 in
theorem gX7_clear_X0_clear : GoodIn wsX7_clear (wsV RX7 45 RX0 yX0_clear wsX0_clear) := goodIn_app (goodIn_of _ (by decide +kernel)) ggX7_clear_X0_clear
set_option maxHeartbeats 4000000 in
set_option maxRecDepth 100000 in
theorem mX7_clear (l : Launch) (D : va_G) (k : Nat → ClassId) (sz : Nat) (dr : Nat) (dr_names : Value) (dr_kinds : Value) (dr_yards : Value) (dr_paces : Value) (dr_skills : Value) (dr_snow : Value) (dw : Nat) (dr_guests : Int32) (dr_snows : Int32) (dr_bend : Int32) (dr_hour : Int32) (dr_bendTold : Int32) (dr_hourTold : Int32) (dw_code : Value) (dw_stack : Value) (dw_facts : Value) (dw_length : Int32) (dw_top : Int32) : Met l yX7_clear wsX7_clear ({ frames := 1, cells := 0, slots := 0, locals := 70 }) (va_Pc [.ref dr] (kz_Pre D k [(dr, kO 7 [dr_names, dr_kinds, dr_yards, dr_paces, dr_skills, dr_snow, .ref dw, .int dr_guests, .int dr_snows, .int dr_bend, .int dr_hour, .int dr_bendTold, .int dr_hourTold]), (dw, kO 0 [dw_code, dw_stack, dw_facts, .int dw_length, .int dw_top])] sz)) (va_Qv (fun (uu : Unit) => True) (fun uu zt => kz_B D (va_A [(dr, kO 7 [dr_names, dr_kinds, dr_yards, dr_paces, dr_skills, dr_snow, .ref dw, .int dr_guests, .int dr_snows, .int dr_bend, .int dr_hour, .int dr_bendTold, .int dr_hourTold]), (dw, kO 0 [dw_code, dw_stack, dw_facts, .int dw_length, .int dw_top])] sz) [(dr, kO 7 [dr_names, dr_kinds, dr_yards, dr_paces, dr_skills, dr_snow, .ref dw, .int 0, .int 0, .int 10, .int 30, .int 0, .int 0]), (dw, kO 0 [dw_code, dw_stack, dw_facts, .int 0, .int dw_top])] zt) (va_A [(dr, kO 7 [dr_names, dr_kinds, dr_yards, dr_paces, dr_skills, dr_snow, .ref dw, .int dr_guests, .int dr_snows, .int dr_bend, .int dr_hour, .int dr_bendTold, .int dr_hourTold]), (dw, kO 0 [dw_code, dw_stack, dw_facts, .int dw_length, .int dw_top])] sz)) 0 0 (va_A [(dr, kO 7 [dr_names, dr_kinds, dr_yards, dr_paces, dr_skills, dr_snow, .ref dw, .int dr_guests, .int dr_snows, .int dr_bend, .int dr_hour, .int dr_bendTold, .int dr_hourTold]), (dw, kO 0 [dw_code, dw_stack, dw_facts, .int dw_length, .int dw_top])] sz) := by
  refine Met.ofW (cc := cX7_clear) (maxL := 1) (ret := none) (by decide) rfl ?_
  intro p e s m args below meth c s₁ B hml hv
  obtain ⟨hav, hsz, hP, hK, hD0, hE⟩ := hv
  have hx := B.exec
  have hb := B.bytes
  have hr := B.returns
  have hts := atoms_spec (ws := wsX7_clear) B.pre
  have hown : s.vm.findClass RX7 = some m.cls := findClass_of_methodNamed B.named
  have hlocks := B.notSynchronized
  have hi7 : ∀ w ∈ u_ws RX7 TX7 13, w ∈ wsX7_clear := by decide +kernel
  have lf34 := hts (.fieldLink RX7 34 "LastCook$Told" "law" "LLastCook$Law;") (by decide +kernel)
  have lf48 := hts (.fieldLink RX7 48 "LastCook$Told" "guests" "I") (by decide +kernel)
  have lf51 := hts (.fieldLink RX7 51 "LastCook$Told" "snows" "I") (by decide +kernel)
  have lf38 := hts (.fieldLink RX7 38 "LastCook$Told" "bend" "I") (by decide +kernel)
  have lf42 := hts (.fieldLink RX7 42 "LastCook$Told" "hour" "I") (by decide +kernel)
  have lf54 := hts (.fieldLink RX7 54 "LastCook$Told" "bendTold" "Z") (by decide +kernel)
  have lf58 := hts (.fieldLink RX7 58 "LastCook$Told" "hourTold" "Z") (by decide +kernel)
  subst hsz
  have hD := hD0.self (sz := s.heap.size)
  generalize hAe : va_A [(dr, kO 7 [dr_names, dr_kinds, dr_yards, dr_paces, dr_skills, dr_snow, .ref dw, .int dr_guests, .int dr_snows, .int dr_bend, .int dr_hour, .int dr_bendTold, .int dr_hourTold]), (dw, kO 0 [dw_code, dw_stack, dw_facts, .int dw_length, .int dw_top])] s.heap.size = A at hD ⊢
  have hA : ∀ q : Nat, s.heap.size ≤ q → A q := fun q h => by rw [← hAe]; exact Or.inr h
  have hS : va_S A s.heap s.heap [] := va_S.rf
  have hl := lv_entry ([.ref dr]) (n := 1) (Nat.le_of_ble_eq_true rfl)
  rw [show entryFrame m args 1 = entryFrame m ([.ref dr] : List Value).toArray 1 by rw [hav], lg_entry_eq]
  generalize (lg_sl ([.ref dr]) ++ List.replicate (1 - (lg_sl ([.ref dr])).length) Slot.unset).toArray = ls at hl ⊢
  have hl : lv_has ls 1 [(0, .ref dr)] := hl
  obtain ⟨R, hR⟩ : ∃ R, R = (headSpec wsX7_clear ({ frames := 1, cells := 0, slots := 0, locals := 70 } : Room)).room := ⟨_, rfl⟩
  rw [← hR]
  generalize hQ : MQ below _ args s 0 0 A = Q
  replace hQ := hQ.symm
  obtain ⟨H, hH⟩ : ∃ H, H = s.heap := ⟨_, rfl⟩
  rw [← hH] at hP ⊢
  have hS : va_S A s.heap H [] := by rw [hH]; exact hS
  refine lv_aload_n hx hb dX7_clear_0 rfl (lv_at hl 0 rfl) ?_
  refine va_get (D := D) (ci := 7) (v := .ref dw) (C := RX7) (T := TX7) (N := 13) hx hb hts hi7 hown hK hP 0 rfl rfl 6 (by decide) lf34 (fun _ h9 => h9) rfl dX7_clear_1 ?_
  refine kz_Vv (As := []) (rest := []) (wc := [(dw, kO 0 [dw_code, dw_stack, dw_facts, .int dw_length, .int dw_top])]) (wr := [(dr, kO 7 [dr_names, dr_kinds, dr_yards, dr_paces, dr_skills, dr_snow, .ref dw, .int dr_guests, .int dr_snows, .int dr_bend, .int dr_hour, .int dr_bendTold, .int dr_hourTold])]) ⟨hx, hb, hml, hown, hts⟩ hK hE hP hD hS hA (mX0_clear l D k H.size dw dw_code dw_stack dw_facts dw_length dw_top) (cwV 0 hts gX7_clear_X0_clear rfl rfl rfl (by decide +kernel) (by rw [hR]; exact ⟨Nat.le_of_ble_eq_true rfl, Nat.le_of_ble_eq_true rfl⟩)) [1] [0] rfl rfl (by decide) (by decide) (by decide) 0 rfl rfl rfl hl.1 rfl (Nat.le_of_ble_eq_true rfl) dX7_clear_4 (by rw [hR]; exact ⟨Nat.le_of_ble_eq_true rfl, Nat.le_of_ble_eq_true rfl⟩) (fun u1 H locs hw1 hP hD hS => ?_)
  have hP : va_P D vwCl [(dr, kO 7 [dr_names, dr_kinds, dr_yards, dr_paces, dr_skills, dr_snow, .ref dw, .int dr_guests, .int dr_snows, .int dr_bend, .int dr_hour, .int dr_bendTold, .int dr_hourTold]), (dw, kO 0 [dw_code, dw_stack, dw_facts, .int 0, .int dw_top])] H := hP
  have hD : va_D A [(dr, kO 7 [dr_names, dr_kinds, dr_yards, dr_paces, dr_skills, dr_snow, .ref dw, .int dr_guests, .int dr_snows, .int dr_bend, .int dr_hour, .int dr_bendTold, .int dr_hourTold]), (dw, kO 0 [dw_code, dw_stack, dw_facts, .int 0, .int dw_top])] := hD
  refine lv_aload_n hx hb dX7_clear_7 rfl (lv_at hl 0 rfl) ?_
  refine lv_iconst (v := 0) hx hb dX7_clear_8 (by decide) ?_
  refine va_put (D := D) (ci := 7) (v := .int 0) (ty := .int) (C := RX7) (T := TX7) (N := 13) hx hb hts hi7 tyX7 tyX7_ok nmX7 hown hK hP hD hS 0 rfl rfl 7 (by decide) lf48 (fun _ h9 => h9) rfl (by decide +kernel) rfl rfl (Nat.le_of_ble_eq_true rfl) dX7_clear_9 (fun H locs hP hD hS => ?_)
  have hP : va_P D vwCl [(dr, kO 7 [dr_names, dr_kinds, dr_yards, dr_paces, dr_skills, dr_snow, .ref dw, .int 0, .int dr_snows, .int dr_bend, .int dr_hour, .int dr_bendTold, .int dr_hourTold]), (dw, kO 0 [dw_code, dw_stack, dw_facts, .int 0, .int dw_top])] H := hP
  have hD : va_D A [(dr, kO 7 [dr_names, dr_kinds, dr_yards, dr_paces, dr_skills, dr_snow, .ref dw, .int 0, .int dr_snows, .int dr_bend, .int dr_hour, .int dr_bendTold, .int dr_hourTold]), (dw, kO 0 [dw_code, dw_stack, dw_facts, .int 0, .int dw_top])] := hD
  refine lv_aload_n hx hb dX7_clear_12 rfl (lv_at hl 0 rfl) ?_
  refine lv_iconst (v := 0) hx hb dX7_clear_13 (by decide) ?_
  refine va_put (D := D) (ci := 7) (v := .int 0) (ty := .int) (C := RX7) (T := TX7) (N := 13) hx hb hts hi7 tyX7 tyX7_ok nmX7 hown hK hP hD hS 0 rfl rfl 8 (by decide) lf51 (fun _ h9 => h9) rfl (by decide +kernel) rfl rfl (Nat.le_of_ble_eq_true rfl) dX7_clear_14 (fun H locs hP hD hS => ?_)
  have hP : va_P D vwCl [(dr, kO 7 [dr_names, dr_kinds, dr_yards, dr_paces, dr_skills, dr_snow, .ref dw, .int 0, .int 0, .int dr_bend, .int dr_hour, .int dr_bendTold, .int dr_hourTold]), (dw, kO 0 [dw_code, dw_stack, dw_facts, .int 0, .int dw_top])] H := hP
  have hD : va_D A [(dr, kO 7 [dr_names, dr_kinds, dr_yards, dr_paces, dr_skills, dr_snow, .ref dw, .int 0, .int 0, .int dr_bend, .int dr_hour, .int dr_bendTold, .int dr_hourTold]), (dw, kO 0 [dw_code, dw_stack, dw_facts, .int 0, .int dw_top])] := hD
  refine lv_aload_n hx hb dX7_clear_17 rfl (lv_at hl 0 rfl) ?_
  refine lv_bipush (v := 10) hx hb dX7_clear_18 (by decide) ?_
  refine va_put (D := D) (ci := 7) (v := .int 10) (ty := .int) (C := RX7) (T := TX7) (N := 13) hx hb hts hi7 tyX7 tyX7_ok nmX7 hown hK hP hD hS 0 rfl rfl 9 (by decide) lf38 (fun _ h9 => h9) rfl (by decide +kernel) rfl rfl (Nat.le_of_ble_eq_true rfl) dX7_clear_20 (fun H locs hP hD hS => ?_)
  have hP : va_P D vwCl [(dr, kO 7 [dr_names, dr_kinds, dr_yards, dr_paces, dr_skills, dr_snow, .ref dw, .int 0, .int 0, .int 10, .int dr_hour, .int dr_bendTold, .int dr_hourTold]), (dw, kO 0 [dw_code, dw_stack, dw_facts, .int 0, .int dw_top])] H := hP
  have hD : va_D A [(dr, kO 7 [dr_names, dr_kinds, dr_yards, dr_paces, dr_skills, dr_snow, .ref dw, .int 0, .int 0, .int 10, .int dr_hour, .int dr_bendTold, .int dr_hourTold]), (dw, kO 0 [dw_code, dw_stack, dw_facts, .int 0, .int dw_top])] := hD
  refine lv_aload_n hx hb dX7_clear_23 rfl (lv_at hl 0 rfl) ?_
  refine lv_bipush (v := 30) hx hb dX7_clear_24 (by decide) ?_
  refine va_put (D := D) (ci := 7) (v := .int 30) (ty := .int) (C := RX7) (T := TX7) (N := 13) hx hb hts hi7 tyX7 tyX7_ok nmX7 hown hK hP hD hS 0 rfl rfl 10 (by decide) lf42 (fun _ h9 => h9) rfl (by decide +kernel) rfl rfl (Nat.le_of_ble_eq_true rfl) dX7_clear_26 (fun H locs hP hD hS => ?_)
  have hP : va_P D vwCl [(dr, kO 7 [dr_names, dr_kinds, dr_yards, dr_paces, dr_skills, dr_snow, .ref dw, .int 0, .int 0, .int 10, .int 30, .int dr_bendTold, .int dr_hourTold]), (dw, kO 0 [dw_code, dw_stack, dw_facts, .int 0, .int dw_top])] H := hP
  have hD : va_D A [(dr, kO 7 [dr_names, dr_kinds, dr_yards, dr_paces, dr_skills, dr_snow, .ref dw, .int 0, .int 0, .int 10, .int 30, .int dr_bendTold, .int dr_hourTold]), (dw, kO 0 [dw_code, dw_stack, dw_facts, .int 0, .int dw_top])] := hD
  refine lv_aload_n hx hb dX7_clear_29 rfl (lv_at hl 0 rfl) ?_
  refine lv_iconst (v := 0) hx hb dX7_clear_30 (by decide) ?_
  refine va_put (D := D) (ci := 7) (v := .int 0) (ty := .boolean) (C := RX7) (T := TX7) (N := 13) hx hb hts hi7 tyX7 tyX7_ok nmX7 hown hK hP hD hS 0 rfl rfl 11 (by decide) lf54 (fun _ h9 => h9) rfl (by decide +kernel) rfl rfl (Nat.le_of_ble_eq_true rfl) dX7_clear_31 (fun H locs hP hD hS => ?_)
  have hP : va_P D vwCl [(dr, kO 7 [dr_names, dr_kinds, dr_yards, dr_paces, dr_skills, dr_snow, .ref dw, .int 0, .int 0, .int 10, .int 30, .int 0, .int dr_hourTold]), (dw, kO 0 [dw_code, dw_stack, dw_facts, .int 0, .int dw_top])] H := hP
  have hD : va_D A [(dr, kO 7 [dr_names, dr_kinds, dr_yards, dr_paces, dr_skills, dr_snow, .ref dw, .int 0, .int 0, .int 10, .int 30, .int 0, .int dr_hourTold]), (dw, kO 0 [dw_code, dw_stack, dw_facts, .int 0, .int dw_top])] := hD
  refine lv_aload_n hx hb dX7_clear_34 rfl (lv_at hl 0 rfl) ?_
  refine lv_iconst (v := 0) hx hb dX7_clear_35 (by decide) ?_
  refine va_put (D := D) (ci := 7) (v := .int 0) (ty := .boolean) (C := RX7) (T := TX7) (N := 13) hx hb hts hi7 tyX7 tyX7_ok nmX7 hown hK hP hD hS 0 rfl rfl 12 (by decide) lf58 (fun _ h9 => h9) rfl (by decide +kernel) rfl rfl (Nat.le_of_ble_eq_true rfl) dX7_clear_36 (fun H locs hP hD hS => ?_)
  have hP : va_P D vwCl [(dr, kO 7 [dr_names, dr_kinds, dr_yards, dr_paces, dr_skills, dr_snow, .ref dw, .int 0, .int 0, .int 10, .int 30, .int 0, .int 0]), (dw, kO 0 [dw_code, dw_stack, dw_facts, .int 0, .int dw_top])] H := hP
  have hD : va_D A [(dr, kO 7 [dr_names, dr_kinds, dr_yards, dr_paces, dr_skills, dr_snow, .ref dw, .int 0, .int 0, .int 10, .int 30, .int 0, .int 0]), (dw, kO 0 [dw_code, dw_stack, dw_facts, .int 0, .int dw_top])] := hD
  rw [hQ]
  have hP9 := hP.sub (ws' := [(dr, kO 7 [dr_names, dr_kinds, dr_yards, dr_paces, dr_skills, dr_snow, .ref dw, .int 0, .int 0, .int 10, .int 30, .int 0, .int 0]), (dw, kO 0 [dw_code, dw_stack, dw_facts, .int 0, .int dw_top])]) [0, 1] rfl
  have hD9 := hD.sub (ws' := [(dr, kO 7 [dr_names, dr_kinds, dr_yards, dr_paces, dr_skills, dr_snow, .ref dw, .int 0, .int 0, .int 10, .int 30, .int 0, .int 0]), (dw, kO 0 [dw_code, dw_stack, dw_facts, .int 0, .int dw_top])]) [0, 1] (by decide) rfl
  exact W.vret hx hb hr (fun zt ht hW => ⟨⟨(), rfl, trivial, by rw [ht]; exact hP9, hD9⟩, hS.F ht⟩) hS.2.2 dX7_clear_39
theorem dX7_read_0 : decode cX7_read 0 = .ok (.aload_n 0, 1) := by decide +kernel
theorem dX7_read_1 : decode cX7_read 1 = .ok (.invokevirtual 61, 3) := by decide +kernel
theorem dX7_read_4 : decode cX7_read 4 = .ok (.iconst 1, 1) := by decide +kernel
theorem dX7_read_5 : decode cX7_read 5 = .ok (.istore_n 2, 1) := by decide +kernel
theorem dX7_read_6 : decode cX7_read 6 = .ok (.iconst 0, 1) := by decide +kernel
theorem dX7_read_7 : decode cX7_read 7 = .ok (.istore_n 3, 1) := by decide +kernel
theorem dX7_read_8 : decode cX7_read 8 = .ok (.iload_n 3, 1) := by decide +kernel
theorem dX7_read_9 : decode cX7_read 9 = .ok (.sipush 1000, 3) := by decide +kernel
theorem dX7_read_12 : decode cX7_read 12 = .ok (.if_icmp .ge 164, 3) := by decide +kernel
theorem dX7_read_15 : decode cX7_read 15 = .ok (.iload_n 2, 1) := by decide +kernel
theorem dX7_read_16 : decode cX7_read 16 = .ok (.ifCond .eq 160, 3) := by decide +kernel
theorem dX7_read_19 : decode cX7_read 19 = .ok (.aload_n 1, 1) := by decide +kernel
theorem dX7_read_20 : decode cX7_read 20 = .ok (.invokevirtual 64, 3) := by decide +kernel
theorem dX7_read_23 : decode cX7_read 23 = .ok (.ifCond .ne 153, 3) := by decide +kernel
theorem dX7_read_176 : decode cX7_read 176 = .ok (.iload_n 2, 1) := by decide +kernel
theorem dX7_read_177 : decode cX7_read 177 = .ok (.ireturn, 1) := by decide +kernel
set_option maxRecDepth 20000 in
theorem ggX7_read_X7_clear : GoodIn wsX7_read wsX7_clear := goodIn_r _ [6, 1, 7, 8, 9, 10, 11, 12, 13, 14, 15, 16, 17, 18, 253, 254, 255, 256, 257, 258, 259, 260, 261, 262, 263, 264, 265, 266, 267, 268, 269, 270] rfl (by decide +kernel)
set_option maxRecDepth 20000 in
theorem gX7_read_X7_clear : GoodIn wsX7_read (wsV RX7 61 RX7 yX7_clear wsX7_clear) := goodIn_app (goodIn_of _ (by decide +kernel)) ggX7_read_X7_clear
set_option maxRecDepth 20000 in
theorem ggX7_read_X6_isAtEnd : GoodIn wsX7_read wsX6_isAtEnd := goodIn_r _ [23, 24, 271, 272, 273, 274, 275, 276, 277, 278, 279] rfl (by decide +kernel)
set_option maxRecDepth 20000 in
theorem gX7_read_X6_isAtEnd : GoodIn wsX7_read (wsV RX7 64 RX6 yX6_isAtEnd wsX6_isAtEnd) := goodIn_app (goodIn_of _ (by decide +kernel)) ggX7_read_X6_isAtEnd
set_option maxHeartbeats 4000000 in
set_option maxRecDepth 100000 in
theorem mX7_read (l : Launch) (D : va_G) (k : Nat → ClassId) (sz : Nat) (dr : Nat) (tp : Nat) (dr_names : Value) (dr_kinds : Value) (dr_yards : Value) (dr_paces : Value) (dr_skills : Value) (dr_snow : Value) (dw : Nat) (dr_guests : Int32) (dr_snows : Int32) (dr_bend : Int32) (dr_hour : Int32) (dr_bendTold : Int32) (dr_hourTold : Int32) (dw_code : Value) (dw_stack : Value) (dw_facts : Value) (dw_length : Int32) (dw_top : Int32) (tp_signs : Value) (tp_words : Value) (tp_length : Int32) (tp_next : Int32) (tp_place : Int32) (tp_value : Int32) (tp_letters : Int64) (tp_fault : Int32) : Met l yX7_read wsX7_read ({ frames := 2, cells := 0, slots := 0, locals := 140 }) (va_Pc [.ref dr, .ref tp] (kz_Pre D k [(dr, kO 7 [dr_names, dr_kinds, dr_yards, dr_paces, dr_skills, dr_snow, .ref dw, .int dr_guests, .int dr_snows, .int dr_bend, .int dr_hour, .int dr_bendTold, .int dr_hourTold]), (dw, kO 0 [dw_code, dw_stack, dw_facts, .int dw_length, .int dw_top]), (tp, kO 6 [tp_signs, tp_words, .int tp_length, .int tp_next, .int tp_place, .int 0, .int tp_value, .long tp_letters, .int tp_fault])] sz)) (va_Qi (fun (rr : Int32) (uu : Unit) => rr = 1) (fun uu zt => kz_B D (va_A [(dr, kO 7 [dr_names, dr_kinds, dr_yards, dr_paces, dr_skills, dr_snow, .ref dw, .int dr_guests, .int dr_snows, .int dr_bend, .int dr_hour, .int dr_bendTold, .int dr_hourTold]), (dw, kO 0 [dw_code, dw_stack, dw_facts, .int dw_length, .int dw_top]), (tp, kO 6 [tp_signs, tp_words, .int tp_length, .int tp_next, .int tp_place, .int 0, .int tp_value, .long tp_letters, .int tp_fault])] sz) [(dr, kO 7 [dr_names, dr_kinds, dr_yards, dr_paces, dr_skills, dr_snow, .ref dw, .int 0, .int 0, .int 10, .int 30, .int 0, .int 0]), (dw, kO 0 [dw_code, dw_stack, dw_facts, .int 0, .int dw_top]), (tp, kO 6 [tp_signs, tp_words, .int tp_length, .int tp_next, .int tp_place, .int 0, .int tp_value, .long tp_letters, .int tp_fault])] zt) (va_A [(dr, kO 7 [dr_names, dr_kinds, dr_yards, dr_paces, dr_skills, dr_snow, .ref dw, .int dr_guests, .int dr_snows, .int dr_bend, .int dr_hour, .int dr_bendTold, .int dr_hourTold]), (dw, kO 0 [dw_code, dw_stack, dw_facts, .int dw_length, .int dw_top]), (tp, kO 6 [tp_signs, tp_words, .int tp_length, .int tp_next, .int tp_place, .int 0, .int tp_value, .long tp_letters, .int tp_fault])] sz)) 0 0 (va_A [(dr, kO 7 [dr_names, dr_kinds, dr_yards, dr_paces, dr_skills, dr_snow, .ref dw, .int dr_guests, .int dr_snows, .int dr_bend, .int dr_hour, .int dr_bendTold, .int dr_hourTold]), (dw, kO 0 [dw_code, dw_stack, dw_facts, .int dw_length, .int dw_top]), (tp, kO 6 [tp_signs, tp_words, .int tp_length, .int tp_next, .int tp_place, .int 0, .int tp_value, .long tp_letters, .int tp_fault])] sz) := by
  refine Met.ofW (cc := cX7_read) (maxL := 4) (ret := (some .boolean)) (by decide) rfl ?_
  intro p e s m args below meth c s₁ B hml hv
  obtain ⟨hav, hsz, hP, hK, hD0, hE⟩ := hv
  have hx := B.exec
  have hb := B.bytes
  have hr := B.returns
  have hts := atoms_spec (ws := wsX7_read) B.pre
  have hown : s.vm.findClass RX7 = some m.cls := findClass_of_methodNamed B.named
  have hlocks := B.notSynchronized
  subst hsz
  have hD := hD0.self (sz := s.heap.size)
  generalize hAe : va_A [(dr, kO 7 [dr_names, dr_kinds, dr_yards, dr_paces, dr_skills, dr_snow, .ref dw, .int dr_guests, .int dr_snows, .int dr_bend, .int dr_hour, .int dr_bendTold, .int dr_hourTold]), (dw, kO 0 [dw_code, dw_stack, dw_facts, .int dw_length, .int dw_top]), (tp, kO 6 [tp_signs, tp_words, .int tp_length, .int tp_next, .int tp_place, .int 0, .int tp_value, .long tp_letters, .int tp_fault])] s.heap.size = A at hD ⊢
  have hA : ∀ q : Nat, s.heap.size ≤ q → A q := fun q h => by rw [← hAe]; exact Or.inr h
  have hS : va_S A s.heap s.heap [] := va_S.rf
  have hl := lv_entry ([.ref dr, .ref tp]) (n := 4) (Nat.le_of_ble_eq_true rfl)
  rw [show entryFrame m args 4 = entryFrame m ([.ref dr, .ref tp] : List Value).toArray 4 by rw [hav], lg_entry_eq]
  generalize (lg_sl ([.ref dr, .ref tp]) ++ List.replicate (4 - (lg_sl ([.ref dr, .ref tp])).length) Slot.unset).toArray = ls at hl ⊢
  have hl : lv_has ls 4 [(0, .ref dr), (1, .ref tp)] := hl
  obtain ⟨R, hR⟩ : ∃ R, R = (headSpec wsX7_read ({ frames := 2, cells := 0, slots := 0, locals := 140 } : Room)).room := ⟨_, rfl⟩
  rw [← hR]
  generalize hQ : MQ below _ args s 0 0 A = Q
  replace hQ := hQ.symm
  obtain ⟨H, hH⟩ : ∃ H, H = s.heap := ⟨_, rfl⟩
  rw [← hH] at hP ⊢
  have hS : va_S A s.heap H [] := by rw [hH]; exact hS
  refine lv_aload_n hx hb dX7_read_0 rfl (lv_at hl 0 rfl) ?_
  refine kz_Vv (As := []) (rest := []) (wc := [(dr, kO 7 [dr_names, dr_kinds, dr_yards, dr_paces, dr_skills, dr_snow, .ref dw, .int dr_guests, .int dr_snows, .int dr_bend, .int dr_hour, .int dr_bendTold, .int dr_hourTold]), (dw, kO 0 [dw_code, dw_stack, dw_facts, .int dw_length, .int dw_top])]) (wr := [(tp, kO 6 [tp_signs, tp_words, .int tp_length, .int tp_next, .int tp_place, .int 0, .int tp_value, .long tp_letters, .int tp_fault])]) ⟨hx, hb, hml, hown, hts⟩ hK hE hP hD hS hA (mX7_clear l D k H.size dr dr_names dr_kinds dr_yards dr_paces dr_skills dr_snow dw dr_guests dr_snows dr_bend dr_hour dr_bendTold dr_hourTold dw_code dw_stack dw_facts dw_length dw_top) (cwV 0 hts gX7_read_X7_clear rfl rfl rfl (by decide +kernel) (by rw [hR]; exact ⟨Nat.le_of_ble_eq_true rfl, Nat.le_of_ble_eq_true rfl⟩)) [0, 1] [2] rfl rfl (by decide) (by decide) (by decide) 0 rfl rfl rfl hl.1 rfl (Nat.le_of_ble_eq_true rfl) dX7_read_1 (by rw [hR]; exact ⟨Nat.le_of_ble_eq_true rfl, Nat.le_of_ble_eq_true rfl⟩) (fun u1 H locs hw1 hP hD hS => ?_)
  have hP : va_P D vwCl [(tp, kO 6 [tp_signs, tp_words, .int tp_length, .int tp_next, .int tp_place, .int 0, .int tp_value, .long tp_letters, .int tp_fault]), (dr, kO 7 [dr_names, dr_kinds, dr_yards, dr_paces, dr_skills, dr_snow, .ref dw, .int 0, .int 0, .int 10, .int 30, .int 0, .int 0]), (dw, kO 0 [dw_code, dw_stack, dw_facts, .int 0, .int dw_top])] H := hP
  have hD : va_D A [(tp, kO 6 [tp_signs, tp_words, .int tp_length, .int tp_next, .int tp_place, .int 0, .int tp_value, .long tp_letters, .int tp_fault]), (dr, kO 7 [dr_names, dr_kinds, dr_yards, dr_paces, dr_skills, dr_snow, .ref dw, .int 0, .int 0, .int 10, .int 30, .int 0, .int 0]), (dw, kO 0 [dw_code, dw_stack, dw_facts, .int 0, .int dw_top])] := hD
  refine lv_iconst (v := 1) hx hb dX7_read_4 (by decide) ?_
  refine lv_istore_n (lv' := [(2, .int 1), (0, .ref dr), (1, .ref tp)]) hx hb dX7_read_5 rfl hl (by decide) rfl (fun ls hl => ?_)
  refine lv_iconst (v := 0) hx hb dX7_read_6 (by decide) ?_
  refine lv_istore_n (lv' := [(3, .int 0), (2, .int 1), (0, .ref dr), (1, .ref tp)]) hx hb dX7_read_7 rfl hl (by decide) rfl (fun ls hl => ?_)
  refine lv_iload_n hx hb dX7_read_8 rfl (lv_at hl 0 rfl) ?_
  refine lv_sipush (v := 1000) hx hb dX7_read_9 (by decide) ?_
  refine lv_icmp_ge (tgt := 176) hx hb dX7_read_12 (by decide) (fun c_2 => absurd c_2 (by decide)) (fun c_2 => ?_)
  refine lv_iload_n hx hb dX7_read_15 rfl (lv_at hl 1 rfl) ?_
  refine lv_if_eq (tgt := 176) hx hb dX7_read_16 (by decide) (fun c_3 => absurd c_3 (by decide)) (fun c_3 => ?_)
  refine lv_aload_n hx hb dX7_read_19 rfl (lv_at hl 3 rfl) ?_
  refine kz_Vi (As := []) (rest := []) (wc := [(tp, kO 6 [tp_signs, tp_words, .int tp_length, .int tp_next, .int tp_place, .int 0, .int tp_value, .long tp_letters, .int tp_fault])]) (wr := [(dr, kO 7 [dr_names, dr_kinds, dr_yards, dr_paces, dr_skills, dr_snow, .ref dw, .int 0, .int 0, .int 10, .int 30, .int 0, .int 0]), (dw, kO 0 [dw_code, dw_stack, dw_facts, .int 0, .int dw_top])]) ⟨hx, hb, hml, hown, hts⟩ hK hE hP hD hS hA (mX6_isAtEnd l D k H.size tp tp_signs tp_words tp_length tp_next tp_place tp_value tp_letters tp_fault) (cwV 0 hts gX7_read_X6_isAtEnd rfl rfl rfl (by decide +kernel) (by rw [hR]; exact ⟨Nat.le_of_ble_eq_true rfl, Nat.le_of_ble_eq_true rfl⟩)) [0] [1, 2] rfl rfl (by decide) (by decide) (by decide) 0 rfl rfl rfl hl.1 rfl (Nat.le_of_ble_eq_true rfl) dX7_read_20 (by rw [hR]; exact ⟨Nat.le_of_ble_eq_true rfl, Nat.le_of_ble_eq_true rfl⟩) (fun r4 u4 H locs hw4 hP hD hS => ?_)
  try dsimp only at hw4
  obtain rfl : r4 = 1 := hw4
  have hP : va_P D vwCl [(dr, kO 7 [dr_names, dr_kinds, dr_yards, dr_paces, dr_skills, dr_snow, .ref dw, .int 0, .int 0, .int 10, .int 30, .int 0, .int 0]), (dw, kO 0 [dw_code, dw_stack, dw_facts, .int 0, .int dw_top]), (tp, kO 6 [tp_signs, tp_words, .int tp_length, .int tp_next, .int tp_place, .int 0, .int tp_value, .long tp_letters, .int tp_fault])] H := hP
  have hD : va_D A [(dr, kO 7 [dr_names, dr_kinds, dr_yards, dr_paces, dr_skills, dr_snow, .ref dw, .int 0, .int 0, .int 10, .int 30, .int 0, .int 0]), (dw, kO 0 [dw_code, dw_stack, dw_facts, .int 0, .int dw_top]), (tp, kO 6 [tp_signs, tp_words, .int tp_length, .int tp_next, .int tp_place, .int 0, .int tp_value, .long tp_letters, .int tp_fault])] := hD
  refine lv_if_ne (tgt := 176) hx hb dX7_read_23 (by decide) (fun c_5 => ?_) (fun c_5 => absurd c_5 (by decide))
  refine lv_iload_n hx hb dX7_read_176 rfl (lv_at hl 1 rfl) ?_
  rw [hQ]
  have hP9 := hP.sub (ws' := [(dr, kO 7 [dr_names, dr_kinds, dr_yards, dr_paces, dr_skills, dr_snow, .ref dw, .int 0, .int 0, .int 10, .int 30, .int 0, .int 0]), (dw, kO 0 [dw_code, dw_stack, dw_facts, .int 0, .int dw_top]), (tp, kO 6 [tp_signs, tp_words, .int tp_length, .int tp_next, .int tp_place, .int 0, .int tp_value, .long tp_letters, .int tp_fault])]) [0, 1, 2] rfl
  have hD9 := hD.sub (ws' := [(dr, kO 7 [dr_names, dr_kinds, dr_yards, dr_paces, dr_skills, dr_snow, .ref dw, .int 0, .int 0, .int 10, .int 30, .int 0, .int 0]), (dw, kO 0 [dw_code, dw_stack, dw_facts, .int 0, .int dw_top]), (tp, kO 6 [tp_signs, tp_words, .int tp_length, .int tp_next, .int tp_place, .int 0, .int tp_value, .long tp_letters, .int tp_fault])]) [0, 1, 2] (by decide) rfl
  exact W.zret (v := 1) hx hb hr rfl (fun zt ht hW => ⟨⟨1, (), rfl, rfl, by rw [ht]; exact hP9, hD9⟩, hS.F ht⟩) hS.2.2 dX7_read_177
