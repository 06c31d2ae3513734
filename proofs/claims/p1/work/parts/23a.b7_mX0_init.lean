theorem dX0_init_0 : decode cX0_init 0 = .ok (.aload_n 0, 1) := by decide +kernel
theorem dX0_init_1 : decode cX0_init 1 = .ok (.invokespecial 1, 3) := by decide +kernel
theorem dX0_init_4 : decode cX0_init 4 = .ok (.aload_n 0, 1) := by decide +kernel
theorem dX0_init_5 : decode cX0_init 5 = .ok (.sipush 1000, 3) := by decide +kernel
theorem dX0_init_8 : decode cX0_init 8 = .ok (.newarray .int, 2) := by decide +kernel
theorem dX0_init_10 : decode cX0_init 10 = .ok (.putfield 9, 3) := by decide +kernel
theorem dX0_init_13 : decode cX0_init 13 = .ok (.aload_n 0, 1) := by decide +kernel
theorem dX0_init_14 : decode cX0_init 14 = .ok (.bipush 24, 2) := by decide +kernel
theorem dX0_init_16 : decode cX0_init 16 = .ok (.newarray .int, 2) := by decide +kernel
theorem dX0_init_18 : decode cX0_init 18 = .ok (.putfield 15, 3) := by decide +kernel
theorem dX0_init_21 : decode cX0_init 21 = .ok (.aload_n 0, 1) := by decide +kernel
theorem dX0_init_22 : decode cX0_init 22 = .ok (.iconst 4, 1) := by decide +kernel
theorem dX0_init_23 : decode cX0_init 23 = .ok (.newarray .int, 2) := by decide +kernel
theorem dX0_init_25 : decode cX0_init 25 = .ok (.putfield 18, 3) := by decide +kernel
theorem dX0_init_28 : decode cX0_init 28 = .ok (.return_, 1) := by decide +kernel
set_option maxHeartbeats 4000000 in
set_option maxRecDepth 100000 in
theorem mX0_init (l : Launch) (D : va_G) (k : Nat → ClassId) (sz : Nat) (w : Nat) : Met l yX0_init wsX0_init ({ frames := 1, cells := 3, slots := 1028, locals := 70 }) (va_Pc [.ref w] (kz_Pre D k [(w, kO 0 [.null, .null, .null, .int 0, .int 0])] sz)) (va_Qv (fun (uu : Nat × Nat × Nat) => True) (fun uu zt => kz_B D (va_A [(w, kO 0 [.null, .null, .null, .int 0, .int 0])] sz) [(w, kO 0 [.ref uu.1, .ref uu.2.1, .ref uu.2.2, .int 0, .int 0])] zt) (va_A [(w, kO 0 [.null, .null, .null, .int 0, .int 0])] sz)) 3 1028 (va_A [(w, kO 0 [.null, .null, .null, .int 0, .int 0])] sz) := by
  refine Met.ofW (cc := cX0_init) (maxL := 1) (ret := none) (by decide) rfl ?_
  intro p e s m args below meth c s₁ B hml hv
  obtain ⟨hav, hsz, hP, hK, hD0, hE⟩ := hv
  have hx := B.exec
  have hb := B.bytes
  have hr := B.returns
  have hts := atoms_spec (ws := wsX0_init) B.pre
  have hown : s.vm.findClass RX0 = some m.cls := findClass_of_methodNamed B.named
  have hlocks := B.notSynchronized
  have hin : meth.name = "<init>" := (name_of_methodNamed B.named B.method).1
  have hi0 : ∀ w ∈ u_ws RX0 TX0 5, w ∈ wsX0_init := by decide +kernel
  have lm1 := hts (.methodLink RX0 1 objectInit) (by decide +kernel)
  have lio := hts (.instanceMethod objectInit) (by decide +kernel)
  have lco := hts (.code objectInit ⟨#[0xb1]⟩ 1 none) (by decide +kernel)
  have laI := hts (.arrayClass .int) (by decide +kernel)
  have lf9 := hts (.fieldLink RX0 9 "LastCook$Law" "code" "[I") (by decide +kernel)
  have lf15 := hts (.fieldLink RX0 15 "LastCook$Law" "stack" "[I") (by decide +kernel)
  have lf18 := hts (.fieldLink RX0 18 "LastCook$Law" "facts" "[I") (by decide +kernel)
  subst hsz
  have hD := hD0.self (sz := s.heap.size)
  generalize hAe : va_A [(w, kO 0 [.null, .null, .null, .int 0, .int 0])] s.heap.size = A at hD ⊢
  have hA : ∀ q : Nat, s.heap.size ≤ q → A q := fun q h => by rw [← hAe]; exact Or.inr h
  have hS : va_S A s.heap s.heap [] := va_S.rf
  have hl := lv_entry ([.ref w]) (n := 1) (Nat.le_of_ble_eq_true rfl)
  rw [show entryFrame m args 1 = entryFrame m ([.ref w] : List Value).toArray 1 by rw [hav], lg_entry_eq]
  generalize (lg_sl ([.ref w]) ++ List.replicate (1 - (lg_sl ([.ref w])).length) Slot.unset).toArray = ls at hl ⊢
  have hl : lv_has ls 1 [(0, .ref w)] := hl
  obtain ⟨R, hR⟩ : ∃ R, R = (headSpec wsX0_init ({ frames := 1, cells := 3, slots := 1028, locals := 70 } : Room)).room := ⟨_, rfl⟩
  rw [← hR]
  generalize hQ : MQ below _ args s 3 1028 A = Q
  replace hQ := hQ.symm
  obtain ⟨H, hH⟩ : ∃ H, H = s.heap := ⟨_, rfl⟩
  rw [← hH] at hP ⊢
  have hS : va_S A s.heap H [] := by rw [hH]; exact hS
  have hRc : R.cells = 3 ∧ R.slots = 1028 := by rw [hR]; exact ⟨rfl, rfl⟩
  obtain ⟨hRc, hRs⟩ := hRc
  refine lv_aload_n hx hb dX0_init_0 rfl (lv_at hl 0 rfl) ?_
  refine W.objInit hx hb hown lm1 lio lco rfl (by rw [hml]; exact hl.1) rfl dX0_init_1 (by rw [hR]; exact Nat.le_of_ble_eq_true rfl) (by rw [hR]; exact Nat.le_of_ble_eq_true rfl) ?_
  refine W.eq (g2 := F0 m 4 ls []) rfl ?_
  refine lv_aload_n hx hb dX0_init_4 rfl (lv_at hl 0 rfl) ?_
  refine lv_sipush (v := 1000) hx hb dX0_init_5 (by decide) ?_
  refine va_newa (atype := .int) (ty := .int) (N' := 1000) (a0 := (1000, .inl (fun _ => 0))) hx hb laI rfl hK hP hD hS hA (fun _ => rfl) (by decide) (by decide) (by decide) (by omega) (by omega) dX0_init_8 (fun q8_1 cA H hK9 hP hD hS => ?_)
  obtain rfl : cA = k 0 := kz_same hK9 0 rfl
  refine W.widen (k := 1) (n := 1000) (by omega) (by omega) ?_
  have hP : va_P D vwCl [(w, kO 0 [.null, .null, .null, .int 0, .int 0]), (q8_1, kI k 1000 (fun _ => 0))] H := hP
  have hD : va_D A [(w, kO 0 [.null, .null, .null, .int 0, .int 0]), (q8_1, kI k 1000 (fun _ => 0))] := hD
  refine va_putF (D := D) (ci := 0) (v := .ref q8_1) (ty := (.array .int)) (C := RX0) (T := TX0) (N := 5) hx hb hts hi0 tyX0 tyX0_ok nmX0 hown hK hP hD hS 0 rfl rfl 0 (by decide) lf9 (fun _ h9 => h9) rfl hin rfl (by decide +kernel) rfl rfl (Nat.le_of_ble_eq_true rfl) dX0_init_10 (fun H locs hP hD hS => ?_)
  have hP : va_P D vwCl [(w, kO 0 [.ref q8_1, .null, .null, .int 0, .int 0]), (q8_1, kI k 1000 (fun _ => 0))] H := hP
  have hD : va_D A [(w, kO 0 [.ref q8_1, .null, .null, .int 0, .int 0]), (q8_1, kI k 1000 (fun _ => 0))] := hD
  refine lv_aload_n hx hb dX0_init_13 rfl (lv_at hl 0 rfl) ?_
  refine lv_bipush (v := 24) hx hb dX0_init_14 (by decide) ?_
  refine va_newa (atype := .int) (ty := .int) (N' := 24) (a0 := (24, .inl (fun _ => 0))) hx hb laI rfl hK hP hD hS hA (fun _ => rfl) (by decide) (by decide) (by decide) (by omega) (by omega) dX0_init_16 (fun q16_2 cA H hK9 hP hD hS => ?_)
  obtain rfl : cA = k 0 := kz_same hK9 0 rfl
  refine W.widen (k := 2) (n := 1024) (by omega) (by omega) ?_
  have hP : va_P D vwCl [(w, kO 0 [.ref q8_1, .null, .null, .int 0, .int 0]), (q8_1, kI k 1000 (fun _ => 0)), (q16_2, kI k 24 (fun _ => 0))] H := hP
  have hD : va_D A [(w, kO 0 [.ref q8_1, .null, .null, .int 0, .int 0]), (q8_1, kI k 1000 (fun _ => 0)), (q16_2, kI k 24 (fun _ => 0))] := hD
  refine va_putF (D := D) (ci := 0) (v := .ref q16_2) (ty := (.array .int)) (C := RX0) (T := TX0) (N := 5) hx hb hts hi0 tyX0 tyX0_ok nmX0 hown hK hP hD hS 0 rfl rfl 1 (by decide) lf15 (fun _ h9 => h9) rfl hin rfl (by decide +kernel) rfl rfl (Nat.le_of_ble_eq_true rfl) dX0_init_18 (fun H locs hP hD hS => ?_)
  have hP : va_P D vwCl [(w, kO 0 [.ref q8_1, .ref q16_2, .null, .int 0, .int 0]), (q8_1, kI k 1000 (fun _ => 0)), (q16_2, kI k 24 (fun _ => 0))] H := hP
  have hD : va_D A [(w, kO 0 [.ref q8_1, .ref q16_2, .null, .int 0, .int 0]), (q8_1, kI k 1000 (fun _ => 0)), (q16_2, kI k 24 (fun _ => 0))] := hD
  refine lv_aload_n hx hb dX0_init_21 rfl (lv_at hl 0 rfl) ?_
  refine lv_iconst (v := 4) hx hb dX0_init_22 (by decide) ?_
  refine va_newa (atype := .int) (ty := .int) (N' := 4) (a0 := (4, .inl (fun _ => 0))) hx hb laI rfl hK hP hD hS hA (fun _ => rfl) (by decide) (by decide) (by decide) (by omega) (by omega) dX0_init_23 (fun q23_3 cA H hK9 hP hD hS => ?_)
  obtain rfl : cA = k 0 := kz_same hK9 0 rfl
  refine W.widen (k := 3) (n := 1028) (by omega) (by omega) ?_
  have hP : va_P D vwCl [(w, kO 0 [.ref q8_1, .ref q16_2, .null, .int 0, .int 0]), (q8_1, kI k 1000 (fun _ => 0)), (q16_2, kI k 24 (fun _ => 0)), (q23_3, kI k 4 (fun _ => 0))] H := hP
  have hD : va_D A [(w, kO 0 [.ref q8_1, .ref q16_2, .null, .int 0, .int 0]), (q8_1, kI k 1000 (fun _ => 0)), (q16_2, kI k 24 (fun _ => 0)), (q23_3, kI k 4 (fun _ => 0))] := hD
  refine va_putF (D := D) (ci := 0) (v := .ref q23_3) (ty := (.array .int)) (C := RX0) (T := TX0) (N := 5) hx hb hts hi0 tyX0 tyX0_ok nmX0 hown hK hP hD hS 0 rfl rfl 2 (by decide) lf18 (fun _ h9 => h9) rfl hin rfl (by decide +kernel) rfl rfl (Nat.le_of_ble_eq_true rfl) dX0_init_25 (fun H locs hP hD hS => ?_)
  have hP : va_P D vwCl [(w, kO 0 [.ref q8_1, .ref q16_2, .ref q23_3, .int 0, .int 0]), (q8_1, kI k 1000 (fun _ => 0)), (q16_2, kI k 24 (fun _ => 0)), (q23_3, kI k 4 (fun _ => 0))] H := hP
  have hD : va_D A [(w, kO 0 [.ref q8_1, .ref q16_2, .ref q23_3, .int 0, .int 0]), (q8_1, kI k 1000 (fun _ => 0)), (q16_2, kI k 24 (fun _ => 0)), (q23_3, kI k 4 (fun _ => 0))] := hD
  rw [hQ]
  have hP9 := hP.sub (ws' := [(w, kO 0 [.ref q8_1, .ref q16_2, .ref q23_3, .int 0, .int 0])]) [0] rfl
  have hD9 := hD.sub (ws' := [(w, kO 0 [.ref q8_1, .ref q16_2, .ref q23_3, .int 0, .int 0])]) [0] (by decide) rfl
  exact W.vret hx hb hr (fun zt ht hW => ⟨⟨⟨q8_1, q16_2, q23_3⟩, rfl, trivial, by rw [ht]; exact hP9, hD9⟩, hS.F ht⟩) hS.2.2 dX0_init_28
theorem dX1_init_0 : decode cX1_init 0 = .ok (.aload_n 0, 1) := by decide +kernel
theorem dX1_init_1 : decode cX1_init 1 = .ok (.invokespecial 3, 3) := by decide +kernel
theorem dX1_init_4 : decode cX1_init 4 = .ok (.aload_n 0, 1) := by decide +kernel
theorem dX1_init_5 : decode cX1_init 5 = .ok (.bipush 40, 2) := by decide +kernel
theorem dX1_init_7 : decode cX1_init 7 = .ok (.newarray .int, 2) := by decide +kernel
theorem dX1_init_9 : decode cX1_init 9 = .ok (.putfield 11, 3) := by decide +kernel
theorem dX1_init_12 : decode cX1_init 12 = .ok (.aload_n 0, 1) := by decide +kernel
theorem dX1_init_13 : decode cX1_init 13 = .ok (.bipush 40, 2) := by decide +kernel
theorem dX1_init_15 : decode cX1_init 15 = .ok (.newarray .int, 2) := by decide +kernel
theorem dX1_init_17 : decode cX1_init 17 = .ok (.putfield 15, 3) := by decide +kernel
theorem dX1_init_20 : decode cX1_init 20 = .ok (.aload_n 0, 1) := by decide +kernel
theorem dX1_init_21 : decode cX1_init 21 = .ok (.bipush 40, 2) := by decide +kernel
theorem dX1_init_23 : decode cX1_init 23 = .ok (.newarray .int, 2) := by decide +kernel
theorem dX1_init_25 : decode cX1_init 25 = .ok (.putfield 18, 3) := by decide +kernel
theorem dX1_init_28 : decode cX1_init 28 = .ok (.return_, 1) := by decide +kernel
set_option maxHeartbeats 4000000 in
set_option maxRecDepth 100000 in
theorem mX1_init (l : Launch) (D : va_G) (k : Nat → ClassId) (sz : Nat) (w : Nat) : Met l yX1_init wsX1_init ({ frames := 1, cells := 3, slots := 120, locals := 70 }) (va_Pc [.ref w] (kz_Pre D k [(w, kO 1 [.null, .null, .null, .int 0])] sz)) (va_Qv (fun (uu : Nat × Nat × Nat) => True) (fun uu zt => kz_B D (va_A [(w, kO 1 [.null, .null, .null, .int 0])] sz) [(w, kO 1 [.ref uu.1, .ref uu.2.1, .ref uu.2.2, .int 0]), (uu.1, kI k 40 (fun _ => 0)), (uu.2.1, kI k 40 (fun _ => 0)), (uu.2.2, kI k 40 (fun _ => 0))] zt) (va_A [(w, kO 1 [.null, .null, .null, .int 0])] sz)) 3 120 (va_A [(w, kO 1 [.null, .null, .null, .int 0])] sz) := by
  refine Met.ofW (cc := cX1_init) (maxL := 1) (ret := none) (by decide) rfl ?_
  intro p e s m args below meth c s₁ B hml hv
  obtain ⟨hav, hsz, hP, hK, hD0, hE⟩ := hv
  have hx := B.exec
  have hb := B.bytes
  have hr := B.returns
  have hts := atoms_spec (ws := wsX1_init) B.pre
  have hown : s.vm.findClass RX1 = some m.cls := findClass_of_methodNamed B.named
  have hlocks := B.notSynchronized
  have hin : meth.name = "<init>" := (name_of_methodNamed B.named B.method).1
  have hi1 : ∀ w ∈ u_ws RX1 TX1 4, w ∈ wsX1_init := by decide +kernel
  have lm3 := hts (.methodLink RX1 3 objectInit) (by decide +kernel)
  have lio := hts (.instanceMethod objectInit) (by decide +kernel)
  have lco := hts (.code objectInit ⟨#[0xb1]⟩ 1 none) (by decide +kernel)
  have laI := hts (.arrayClass .int) (by decide +kernel)
  have lf11 := hts (.fieldLink RX1 11 "LastCook$Lines" "deeds" "[I") (by decide +kernel)
  have lf15 := hts (.fieldLink RX1 15 "LastCook$Lines" "guests" "[I") (by decide +kernel)
  have lf18 := hts (.fieldLink RX1 18 "LastCook$Lines" "wholes" "[I") (by decide +kernel)
  subst hsz
  have hD := hD0.self (sz := s.heap.size)
  generalize hAe : va_A [(w, kO 1 [.null, .null, .null, .int 0])] s.heap.size = A at hD ⊢
  have hA : ∀ q : Nat, s.heap.size ≤ q → A q := fun q h => by rw [← hAe]; exact Or.inr h
  have hS : va_S A s.heap s.heap [] := va_S.rf
  have hl := lv_entry ([.ref w]) (n := 1) (Nat.le_of_ble_eq_true rfl)
  rw [show entryFrame m args 1 = entryFrame m ([.ref w] : List Value).toArray 1 by rw [hav], lg_entry_eq]
  generalize (lg_sl ([.ref w]) ++ List.replicate (1 - (lg_sl ([.ref w])).length) Slot.unset).toArray = ls at hl ⊢
  have hl : lv_has ls 1 [(0, .ref w)] := hl
  obtain ⟨R, hR⟩ : ∃ R, R = (headSpec wsX1_init ({ frames := 1, cells := 3, slots := 120, locals := 70 } : Room)).room := ⟨_, rfl⟩
  rw [← hR]
  generalize hQ : MQ below _ args s 3 120 A = Q
  replace hQ := hQ.symm
  obtain ⟨H, hH⟩ : ∃ H, H = s.heap := ⟨_, rfl⟩
  rw [← hH] at hP ⊢
  have hS : va_S A s.heap H [] := by rw [hH]; exact hS
  have hRc : R.cells = 3 ∧ R.slots = 120 := by rw [hR]; exact ⟨rfl, rfl⟩
  obtain ⟨hRc, hRs⟩ := hRc
  refine lv_aload_n hx hb dX1_init_0 rfl (lv_at hl 0 rfl) ?_
  refine W.objInit hx hb hown lm3 lio lco rfl (by rw [hml]; exact hl.1) rfl dX1_init_1 (by rw [hR]; exact Nat.le_of_ble_eq_true rfl) (by rw [hR]; exact Nat.le_of_ble_eq_true rfl) ?_
  refine W.eq (g2 := F0 m 4 ls []) rfl ?_
  refine lv_aload_n hx hb dX1_init_4 rfl (lv_at hl 0 rfl) ?_
  refine lv_bipush (v := 40) hx hb dX1_init_5 (by decide) ?_
  refine va_newa (atype := .int) (ty := .int) (N' := 40) (a0 := (40, .inl (fun _ => 0))) hx hb laI rfl hK hP hD hS hA (fun _ => rfl) (by decide) (by decide) (by decide) (by omega) (by omega) dX1_init_7 (fun q7_1 cA H hK9 hP hD hS => ?_)
  obtain rfl : cA = k 0 := kz_same hK9 0 rfl
  refine W.widen (k := 1) (n := 40) (by omega) (by omega) ?_
  have hP : va_P D vwCl [(w, kO 1 [.null, .null, .null, .int 0]), (q7_1, kI k 40 (fun _ => 0))] H := hP
  have hD : va_D A [(w, kO 1 [.null, .null, .null, .int 0]), (q7_1, kI k 40 (fun _ => 0))] := hD
  refine va_putF (D := D) (ci := 1) (v := .ref q7_1) (ty := (.array .int)) (C := RX1) (T := TX1) (N := 4) hx hb hts hi1 tyX1 tyX1_ok nmX1 hown hK hP hD hS 0 rfl rfl 0 (by decide) lf11 (fun _ h9 => h9) rfl hin rfl (by decide +kernel) rfl rfl (Nat.le_of_ble_eq_true rfl) dX1_init_9 (fun H locs hP hD hS => ?_)
  have hP : va_P D vwCl [(w, kO 1 [.ref q7_1, .null, .null, .int 0]), (q7_1, kI k 40 (fun _ => 0))] H := hP
  have hD : va_D A [(w, kO 1 [.ref q7_1, .null, .null, .int 0]), (q7_1, kI k 40 (fun _ => 0))] := hD
  refine lv_aload_n hx hb dX1_init_12 rfl (lv_at hl 0 rfl) ?_
  refine lv_bipush (v := 40) hx hb dX1_init_13 (by decide) ?_
  refine va_newa (atype := .int) (ty := .int) (N' := 40) (a0 := (40, .inl (fun _ => 0))) hx hb laI rfl hK hP hD hS hA (fun _ => rfl) (by decide) (by decide) (by decide) (by omega) (by omega) dX1_init_15 (fun q15_2 cA H hK9 hP hD hS => ?_)
  obtain rfl : cA = k 0 := kz_same hK9 0 rfl
  refine W.widen (k := 2) (n := 80) (by omega) (by omega) ?_
  have hP : va_P D vwCl [(w, kO 1 [.ref q7_1, .null, .null, .int 0]), (q7_1, kI k 40 (fun _ => 0)), (q15_2, kI k 40 (fun _ => 0))] H := hP
  have hD : va_D A [(w, kO 1 [.ref q7_1, .null, .null, .int 0]), (q7_1, kI k 40 (fun _ => 0)), (q15_2, kI k 40 (fun _ => 0))] := hD
  refine va_putF (D := D) (ci := 1) (v := .ref q15_2) (ty := (.array .int)) (C := RX1) (T := TX1) (N := 4) hx hb hts hi1 tyX1 tyX1_ok nmX1 hown hK hP hD hS 0 rfl rfl 1 (by decide) lf15 (fun _ h9 => h9) rfl hin rfl (by decide +kernel) rfl rfl (Nat.le_of_ble_eq_true rfl) dX1_init_17 (fun H locs hP hD hS => ?_)
  have hP : va_P D vwCl [(w, kO 1 [.ref q7_1, .ref q15_2, .null, .int 0]), (q7_1, kI k 40 (fun _ => 0)), (q15_2, kI k 40 (fun _ => 0))] H := hP
  have hD : va_D A [(w, kO 1 [.ref q7_1, .ref q15_2, .null, .int 0]), (q7_1, kI k 40 (fun _ => 0)), (q15_2, kI k 40 (fun _ => 0))] := hD
  refine lv_aload_n hx hb dX1_init_20 rfl (lv_at hl 0 rfl) ?_
  refine lv_bipush (v := 40) hx hb dX1_init_21 (by decide) ?_
  refine va_newa (atype := .int) (ty := .int) (N' := 40) (a0 := (40, .inl (fun _ => 0))) hx hb laI rfl hK hP hD hS hA (fun _ => rfl) (by decide) (by decide) (by decide) (by omega) (by omega) dX1_init_23 (fun q23_3 cA H hK9 hP hD hS => ?_)
  obtain rfl : cA = k 0 := kz_same hK9 0 rfl
  refine W.widen (k := 3) (n := 120) (by omega) (by omega) ?_
  have hP : va_P D vwCl [(w, kO 1 [.ref q7_1, .ref q15_2, .null, .int 0]), (q7_1, kI k 40 (fun _ => 0)), (q15_2, kI k 40 (fun _ => 0)), (q23_3, kI k 40 (fun _ => 0))] H := hP
  have hD : va_D A [(w, kO 1 [.ref q7_1, .ref q15_2, .null, .int 0]), (q7_1, kI k 40 (fun _ => 0)), (q15_2, kI k 40 (fun _ => 0)), (q23_3, kI k 40 (fun _ => 0))] := hD
  refine va_putF (D := D) (ci := 1) (v := .ref q23_3) (ty := (.array .int)) (C := RX1) (T := TX1) (N := 4) hx hb hts hi1 tyX1 tyX1_ok nmX1 hown hK hP hD hS 0 rfl rfl 2 (by decide) lf18 (fun _ h9 => h9) rfl hin rfl (by decide +kernel) rfl rfl (Nat.le_of_ble_eq_true rfl) dX1_init_25 (fun H locs hP hD hS => ?_)
  have hP : va_P D vwCl [(w, kO 1 [.ref q7_1, .ref q15_2, .ref q23_3, .int 0]), (q7_1, kI k 40 (fun _ => 0)), (q15_2, kI k 40 (fun _ => 0)), (q23_3, kI k 40 (fun _ => 0))] H := hP
  have hD : va_D A [(w, kO 1 [.ref q7_1, .ref q15_2, .ref q23_3, .int 0]), (q7_1, kI k 40 (fun _ => 0)), (q15_2, kI k 40 (fun _ => 0)), (q23_3, kI k 40 (fun _ => 0))] := hD
  rw [hQ]
  have hP9 := hP.sub (ws' := [(w, kO 1 [.ref q7_1, .ref q15_2, .ref q23_3, .int 0]), (q7_1, kI k 40 (fun _ => 0)), (q15_2, kI k 40 (fun _ => 0)), (q23_3, kI k 40 (fun _ => 0))]) [0, 1, 2, 3] rfl
  have hD9 := hD.sub (ws' := [(w, kO 1 [.ref q7_1, .ref q15_2, .ref q23_3, .int 0]), (q7_1, kI k 40 (fun _ => 0)), (q15_2, kI k 40 (fun _ => 0)), (q23_3, kI k 40 (fun _ => 0))]) [0, 1, 2, 3] (by decide) rfl
  exact W.vret hx hb hr (fun zt ht hW => ⟨⟨⟨q7_1, q15_2, q23_3⟩, rfl, trivial, by rw [ht]; exact hP9, hD9⟩, hS.F ht⟩) hS.2.2 dX1_init_28
theorem dX5_init_0 : decode cX5_init 0 = .ok (.aload_n 0, 1) := by decide +kernel
theorem dX5_init_1 : decode cX5_init 1 = .ok (.invokespecial 3, 3) := by decide +kernel
theorem dX5_init_4 : decode cX5_init 4 = .ok (.aload_n 0, 1) := by decide +kernel
theorem dX5_init_5 : decode cX5_init 5 = .ok (.bipush 8, 2) := by decide +kernel
theorem dX5_init_7 : decode cX5_init 7 = .ok (.newarray .int, 2) := by decide +kernel
theorem dX5_init_9 : decode cX5_init 9 = .ok (.putfield 11, 3) := by decide +kernel
theorem dX5_init_12 : decode cX5_init 12 = .ok (.aload_n 0, 1) := by decide +kernel
theorem dX5_init_13 : decode cX5_init 13 = .ok (.bipush 8, 2) := by decide +kernel
theorem dX5_init_15 : decode cX5_init 15 = .ok (.newarray .int, 2) := by decide +kernel
theorem dX5_init_17 : decode cX5_init 17 = .ok (.putfield 15, 3) := by decide +kernel
theorem dX5_init_20 : decode cX5_init 20 = .ok (.aload_n 0, 1) := by decide +kernel
theorem dX5_init_21 : decode cX5_init 21 = .ok (.bipush 8, 2) := by decide +kernel
theorem dX5_init_23 : decode cX5_init 23 = .ok (.newarray .boolean, 2) := by decide +kernel
theorem dX5_init_25 : decode cX5_init 25 = .ok (.putfield 18, 3) := by decide +kernel
theorem dX5_init_28 : decode cX5_init 28 = .ok (.return_, 1) := by decide +kernel
set_option maxHeartbeats 4000000 in
set_option maxRecDepth 100000 in
theorem mX5_init (l : Launch) (D : va_G) (k : Nat → ClassId) (sz : Nat) (w : Nat) : Met l yX5_init wsX5_init ({ frames := 1, cells := 3, slots := 24, locals := 70 }) (va_Pc [.ref w] (kz_Pre D k [(w, kO 5 [.null, .null, .null, .int 0])] sz)) (va_Qv (fun (uu : Nat × Nat × Nat) => True) (fun uu zt => kz_B D (va_A [(w, kO 5 [.null, .null, .null, .int 0])] sz) [(w, kO 5 [.ref uu.1, .ref uu.2.1, .ref uu.2.2, .int 0]), (uu.1, kI k 8 (fun _ => 0)), (uu.2.1, kI k 8 (fun _ => 0)), (uu.2.2, kZ k 8 (fun _ => 0))] zt) (va_A [(w, kO 5 [.null, .null, .null, .int 0])] sz)) 3 24 (va_A [(w, kO 5 [.null, .null, .null, .int 0])] sz) := by
  refine Met.ofW (cc := cX5_init) (maxL := 1) (ret := none) (by decide) rfl ?_
  intro p e s m args below meth c s₁ B hml hv
  obtain ⟨hav, hsz, hP, hK, hD0, hE⟩ := hv
  have hx := B.exec
  have hb := B.bytes
  have hr := B.returns
  have hts := atoms_spec (ws := wsX5_init) B.pre
  have hown : s.vm.findClass RX5 = some m.cls := findClass_of_methodNamed B.named
  have hlocks := B.notSynchronized
  have hin : meth.name = "<init>" := (name_of_methodNamed B.named B.method).1
  have hi5 : ∀ w ∈ u_ws RX5 TX5 4, w ∈ wsX5_init := by decide +kernel
  have lm3 := hts (.methodLink RX5 3 objectInit) (by decide +kernel)
  have lio := hts (.instanceMethod objectInit) (by decide +kernel)
  have lco := hts (.code objectInit ⟨#[0xb1]⟩ 1 none) (by decide +kernel)
  have laI := hts (.arrayClass .int) (by decide +kernel)
  have lf11 := hts (.fieldLink RX5 11 "LastCook$Sights" "minutes" "[I") (by decide +kernel)
  have lf15 := hts (.fieldLink RX5 15 "LastCook$Sights" "yards" "[I") (by decide +kernel)
  have laZ := hts (.arrayClass .boolean) (by decide +kernel)
  have lf18 := hts (.fieldLink RX5 18 "LastCook$Sights" "near" "[Z") (by decide +kernel)
  subst hsz
  have hD := hD0.self (sz := s.heap.size)
  generalize hAe : va_A [(w, kO 5 [.null, .null, .null, .int 0])] s.heap.size = A at hD ⊢
  have hA : ∀ q : Nat, s.heap.size ≤ q → A q := fun q h => by rw [← hAe]; exact Or.inr h
  have hS : va_S A s.heap s.heap [] := va_S.rf
  have hl := lv_entry ([.ref w]) (n := 1) (Nat.le_of_ble_eq_true rfl)
  rw [show entryFrame m args 1 = entryFrame m ([.ref w] : List Value).toArray 1 by rw [hav], lg_entry_eq]
  generalize (lg_sl ([.ref w]) ++ List.replicate (1 - (lg_sl ([.ref w])).length) Slot.unset).toArray = ls at hl ⊢
  have hl : lv_has ls 1 [(0, .ref w)] := hl
  obtain ⟨R, hR⟩ : ∃ R, R = (headSpec wsX5_init ({ frames := 1, cells := 3, slots := 24, locals := 70 } : Room)).room := ⟨_, rfl⟩
  rw [← hR]
  generalize hQ : MQ below _ args s 3 24 A = Q
  replace hQ := hQ.symm
  obtain ⟨H, hH⟩ : ∃ H, H = s.heap := ⟨_, rfl⟩
  rw [← hH] at hP ⊢
  have hS : va_S A s.heap H [] := by rw [hH]; exact hS
  have hRc : R.cells = 3 ∧ R.slots = 24 := by rw [hR]; exact ⟨rfl, rfl⟩
  obtain ⟨hRc, hRs⟩ := hRc
  refine lv_aload_n hx hb dX5_init_0 rfl (lv_at hl 0 rfl) ?_
  refine W.objInit hx hb hown lm3 lio lco rfl (by rw [hml]; exact hl.1) rfl dX5_init_1 (by rw [hR]; exact Nat.le_of_ble_eq_true rfl) (by rw [hR]; exact Nat.le_of_ble_eq_true rfl) ?_
  refine W.eq (g2 := F0 m 4 ls []) rfl ?_
  refine lv_aload_n hx hb dX5_init_4 rfl (lv_at hl 0 rfl) ?_
  refine lv_bipush (v := 8) hx hb dX5_init_5 (by decide) ?_
  refine va_newa (atype := .int) (ty := .int) (N' := 8) (a0 := (8, .inl (fun _ => 0))) hx hb laI rfl hK hP hD hS hA (fun _ => rfl) (by decide) (by decide) (by decide) (by omega) (by omega) dX5_init_7 (fun q7_1 cA H hK9 hP hD hS => ?_)
  obtain rfl : cA = k 0 := kz_same hK9 0 rfl
  refine W.widen (k := 1) (n := 8) (by omega) (by omega) ?_
  have hP : va_P D vwCl [(w, kO 5 [.null, .null, .null, .int 0]), (q7_1, kI k 8 (fun _ => 0))] H := hP
  have hD : va_D A [(w, kO 5 [.null, .null, .null, .int 0]), (q7_1, kI k 8 (fun _ => 0))] := hD
  refine va_putF (D := D) (ci := 5) (v := .ref q7_1) (ty := (.array .int)) (C := RX5) (T := TX5) (N := 4) hx hb hts hi5 tyX5 tyX5_ok nmX5 hown hK hP hD hS 0 rfl rfl 0 (by decide) lf11 (fun _ h9 => h9) rfl hin rfl (by decide +kernel) rfl rfl (Nat.le_of_ble_eq_true rfl) dX5_init_9 (fun H locs hP hD hS => ?_)
  have hP : va_P D vwCl [(w, kO 5 [.ref q7_1, .null, .null, .int 0]), (q7_1, kI k 8 (fun _ => 0))] H := hP
  have hD : va_D A [(w, kO 5 [.ref q7_1, .null, .null, .int 0]), (q7_1, kI k 8 (fun _ => 0))] := hD
  refine lv_aload_n hx hb dX5_init_12 rfl (lv_at hl 0 rfl) ?_
  refine lv_bipush (v := 8) hx hb dX5_init_13 (by decide) ?_
  refine va_newa (atype := .int) (ty := .int) (N' := 8) (a0 := (8, .inl (fun _ => 0))) hx hb laI rfl hK hP hD hS hA (fun _ => rfl) (by decide) (by decide) (by decide) (by omega) (by omega) dX5_init_15 (fun q15_2 cA H hK9 hP hD hS => ?_)
  obtain rfl : cA = k 0 := kz_same hK9 0 rfl
  refine W.widen (k := 2) (n := 16) (by omega) (by omega) ?_
  have hP : va_P D vwCl [(w, kO 5 [.ref q7_1, .null, .null, .int 0]), (q7_1, kI k 8 (fun _ => 0)), (q15_2, kI k 8 (fun _ => 0))] H := hP
  have hD : va_D A [(w, kO 5 [.ref q7_1, .null, .null, .int 0]), (q7_1, kI k 8 (fun _ => 0)), (q15_2, kI k 8 (fun _ => 0))] := hD
  refine va_putF (D := D) (ci := 5) (v := .ref q15_2) (ty := (.array .int)) (C := RX5) (T := TX5) (N := 4) hx hb hts hi5 tyX5 tyX5_ok nmX5 hown hK hP hD hS 0 rfl rfl 1 (by decide) lf15 (fun _ h9 => h9) rfl hin rfl (by decide +kernel) rfl rfl (Nat.le_of_ble_eq_true rfl) dX5_init_17 (fun H locs hP hD hS => ?_)
  have hP : va_P D vwCl [(w, kO 5 [.ref q7_1, .ref q15_2, .null, .int 0]), (q7_1, kI k 8 (fun _ => 0)), (q15_2, kI k 8 (fun _ => 0))] H := hP
  have hD : va_D A [(w, kO 5 [.ref q7_1, .ref q15_2, .null, .int 0]), (q7_1, kI k 8 (fun _ => 0)), (q15_2, kI k 8 (fun _ => 0))] := hD
  refine lv_aload_n hx hb dX5_init_20 rfl (lv_at hl 0 rfl) ?_
  refine lv_bipush (v := 8) hx hb dX5_init_21 (by decide) ?_
  refine va_newa (atype := .boolean) (ty := .boolean) (N' := 8) (a0 := (8, .inl (fun _ => 0))) hx hb laZ rfl hK hP hD hS hA (fun _ => rfl) (by decide) (by decide) (by decide) (by omega) (by omega) dX5_init_23 (fun q23_3 cA H hK9 hP hD hS => ?_)
  obtain rfl : cA = k 3 := kz_same hK9 3 rfl
  refine W.widen (k := 3) (n := 24) (by omega) (by omega) ?_
  have hP : va_P D vwCl [(w, kO 5 [.ref q7_1, .ref q15_2, .null, .int 0]), (q7_1, kI k 8 (fun _ => 0)), (q15_2, kI k 8 (fun _ => 0)), (q23_3, kZ k 8 (fun _ => 0))] H := hP
  have hD : va_D A [(w, kO 5 [.ref q7_1, .ref q15_2, .null, .int 0]), (q7_1, kI k 8 (fun _ => 0)), (q15_2, kI k 8 (fun _ => 0)), (q23_3, kZ k 8 (fun _ => 0))] := hD
  refine va_putF (D := D) (ci := 5) (v := .ref q23_3) (ty := (.array .boolean)) (C := RX5) (T := TX5) (N := 4) hx hb hts hi5 tyX5 tyX5_ok nmX5 hown hK hP hD hS 0 rfl rfl 2 (by decide) lf18 (fun _ h9 => h9) rfl hin rfl (by decide +kernel) rfl rfl (Nat.le_of_ble_eq_true rfl) dX5_init_25 (fun H locs hP hD hS => ?_)
  have hP : va_P D vwCl [(w, kO 5 [.ref q7_1, .ref q15_2, .ref q23_3, .int 0]), (q7_1, kI k 8 (fun _ => 0)), (q15_2, kI k 8 (fun _ => 0)), (q23_3, kZ k 8 (fun _ => 0))] H := hP
  have hD : va_D A [(w, kO 5 [.ref q7_1, .ref q15_2, .ref q23_3, .int 0]), (q7_1, kI k 8 (fun _ => 0)), (q15_2, kI k 8 (fun _ => 0)), (q23_3, kZ k 8 (fun _ => 0))] := hD
  rw [hQ]
  have hP9 := hP.sub (ws' := [(w, kO 5 [.ref q7_1, .ref q15_2, .ref q23_3, .int 0]), (q7_1, kI k 8 (fun _ => 0)), (q15_2, kI k 8 (fun _ => 0)), (q23_3, kZ k 8 (fun _ => 0))]) [0, 1, 2, 3] rfl
  have hD9 := hD.sub (ws' := [(w, kO 5 [.ref q7_1, .ref q15_2, .ref q23_3, .int 0]), (q7_1, kI k 8 (fun _ => 0)), (q15_2, kI k 8 (fun _ => 0)), (q23_3, kZ k 8 (fun _ => 0))]) [0, 1, 2, 3] (by decide) rfl
  exact W.vret hx hb hr (fun zt ht hW => ⟨⟨⟨q7_1, q15_2, q23_3⟩, rfl, trivial, by rw [ht]; exact hP9, hD9⟩, hS.F ht⟩) hS.2.2 dX5_init_28
theorem dX4_init_0 : decode cX4_init 0 = .ok (.aload_n 0, 1) := by decide +kernel
theorem dX4_init_1 : decode cX4_init 1 = .ok (.invokespecial 3, 3) := by decide +kernel
theorem dX4_init_4 : decode cX4_init 4 = .ok (.aload_n 0, 1) := by decide +kernel
theorem dX4_init_5 : decode cX4_init 5 = .ok (.bipush 6, 2) := by decide +kernel
theorem dX4_init_7 : decode cX4_init 7 = .ok (.newarray .int, 2) := by decide +kernel
theorem dX4_init_9 : decode cX4_init 9 = .ok (.putfield 9, 3) := by decide +kernel
theorem dX4_init_12 : decode cX4_init 12 = .ok (.aload_n 0, 1) := by decide +kernel
theorem dX4_init_13 : decode cX4_init 13 = .ok (.bipush 6, 2) := by decide +kernel
theorem dX4_init_15 : decode cX4_init 15 = .ok (.newarray .int, 2) := by decide +kernel
theorem dX4_init_17 : decode cX4_init 17 = .ok (.putfield 15, 3) := by decide +kernel
theorem dX4_init_20 : decode cX4_init 20 = .ok (.aload_n 0, 1) := by decide +kernel
theorem dX4_init_21 : decode cX4_init 21 = .ok (.bipush 6, 2) := by decide +kernel
theorem dX4_init_23 : decode cX4_init 23 = .ok (.newarray .int, 2) := by decide +kernel
theorem dX4_init_25 : decode cX4_init 25 = .ok (.putfield 18, 3) := by decide +kernel
theorem dX4_init_28 : decode cX4_init 28 = .ok (.aload_n 0, 1) := by decide +kernel
theorem dX4_init_29 : decode cX4_init 29 = .ok (.bipush 6, 2) := by decide +kernel
theorem dX4_init_31 : decode cX4_init 31 = .ok (.newarray .int, 2) := by decide +kernel
theorem dX4_init_33 : decode cX4_init 33 = .ok (.putfield 21, 3) := by decide +kernel
theorem dX4_init_36 : decode cX4_init 36 = .ok (.aload_n 0, 1) := by decide +kernel
theorem dX4_init_37 : decode cX4_init 37 = .ok (.bipush 6, 2) := by decide +kernel
theorem dX4_init_39 : decode cX4_init 39 = .ok (.newarray .int, 2) := by decide +kernel
theorem dX4_init_41 : decode cX4_init 41 = .ok (.putfield 24, 3) := by decide +kernel
theorem dX4_init_44 : decode cX4_init 44 = .ok (.aload_n 0, 1) := by decide +kernel
theorem dX4_init_45 : decode cX4_init 45 = .ok (.bipush 6, 2) := by decide +kernel
theorem dX4_init_47 : decode cX4_init 47 = .ok (.newarray .int, 2) := by decide +kernel
theorem dX4_init_49 : decode cX4_init 49 = .ok (.putfield 27, 3) := by decide +kernel
theorem dX4_init_52 : decode cX4_init 52 = .ok (.aload_n 0, 1) := by decide +kernel
theorem dX4_init_53 : decode cX4_init 53 = .ok (.bipush 6, 2) := by decide +kernel
theorem dX4_init_55 : decode cX4_init 55 = .ok (.newarray .int, 2) := by decide +kernel
theorem dX4_init_57 : decode cX4_init 57 = .ok (.putfield 30, 3) := by decide +kernel
theorem dX4_init_60 : decode cX4_init 60 = .ok (.aload_n 0, 1) := by decide +kernel
theorem dX4_init_61 : decode cX4_init 61 = .ok (.iconst (-1), 1) := by decide +kernel
theorem dX4_init_62 : decode cX4_init 62 = .ok (.putfield 33, 3) := by decide +kernel
theorem dX4_init_65 : decode cX4_init 65 = .ok (.return_, 1) := by decide +kernel
set_option maxHeartbeats 4000000 in
set_option maxRecDepth 100000 in
theorem mX4_init (l : Launch) (D : va_G) (k : Nat → ClassId) (sz : Nat) (w : Nat) : Met l yX4_init wsX4_init ({ frames := 1, cells := 7, slots := 42, locals := 70 }) (va_Pc [.ref w] (kz_Pre D k [(w, kO 4 [.null, .null, .null, .null, .null, .null, .null, .int 0, .int 0, .int 0, .int 0, .int 0, .int 0])] sz)) (va_Qv (fun (uu : Nat × Nat × Nat × Nat × Nat × Nat × Nat) => True) (fun uu zt => kz_B D (va_A [(w, kO 4 [.null, .null, .null, .null, .null, .null, .null, .int 0, .int 0, .int 0, .int 0, .int 0, .int 0])] sz) [(w, kO 4 [.ref uu.1, .ref uu.2.1, .ref uu.2.2.1, .ref uu.2.2.2.1, .ref uu.2.2.2.2.1, .ref uu.2.2.2.2.2.1, .ref uu.2.2.2.2.2.2, .int 0, .int 0, .int 0, .int 0, .int (-1), .int 0]), (uu.1, kI k 6 (fun _ => 0)), (uu.2.1, kI k 6 (fun _ => 0)), (uu.2.2.1, kI k 6 (fun _ => 0)), (uu.2.2.2.1, kI k 6 (fun _ => 0)), (uu.2.2.2.2.1, kI k 6 (fun _ => 0)), (uu.2.2.2.2.2.1, kI k 6 (fun _ => 0)), (uu.2.2.2.2.2.2, kI k 6 (fun _ => 0))] zt) (va_A [(w, kO 4 [.null, .null, .null, .null, .null, .null, .null, .int 0, .int 0, .int 0, .int 0, .int 0, .int 0])] sz)) 7 42 (va_A [(w, kO 4 [.null, .null, .null, .null, .null, .null, .null, .int 0, .int 0, .int 0, .int 0, .int 0, .int 0])] sz) := by
  refine Met.ofW (cc := cX4_init) (maxL := 1) (ret := none) (by decide) rfl ?_
  intro p e s m args below meth c s₁ B hml hv
  obtain ⟨hav, hsz, hP, hK, hD0, hE⟩ := hv
  have hx := B.exec
  have hb := B.bytes
  have hr := B.returns
  have hts := atoms_spec (ws := wsX4_init) B.pre
  have hown : s.vm.findClass RX4 = some m.cls := findClass_of_methodNamed B.named
  have hlocks := B.notSynchronized
  have hin : meth.name = "<init>" := (name_of_methodNamed B.named B.method).1
  have hi4 : ∀ w ∈ u_ws RX4 TX4 13, w ∈ wsX4_init := by decide +kernel
  have lm3 := hts (.methodLink RX4 3 objectInit) (by decide +kernel)
  have lio := hts (.instanceMethod objectInit) (by decide +kernel)
  have lco := hts (.code objectInit ⟨#[0xb1]⟩ 1 none) (by decide +kernel)
  have laI := hts (.arrayClass .int) (by decide +kernel)
  have lf9 := hts (.fieldLink RX4 9 "LastCook$Road" "yards" "[I") (by decide +kernel)
  have lf15 := hts (.fieldLink RX4 15 "LastCook$Road" "paces" "[I") (by decide +kernel)
  have lf18 := hts (.fieldLink RX4 18 "LastCook$Road" "stuck" "[I") (by decide +kernel)
  have lf21 := hts (.fieldLink RX4 21 "LastCook$Road" "hirers" "[I") (by decide +kernel)
  have lf24 := hts (.fieldLink RX4 24 "LastCook$Road" "places" "[I") (by decide +kernel)
  have lf27 := hts (.fieldLink RX4 27 "LastCook$Road" "cameAt" "[I") (by decide +kernel)
  have lf30 := hts (.fieldLink RX4 30 "LastCook$Road" "cooked" "[I") (by decide +kernel)
  have lf33 := hts (.fieldLink RX4 33 "LastCook$Road" "lastCook" "I") (by decide +kernel)
  subst hsz
  have hD := hD0.self (sz := s.heap.size)
  generalize hAe : va_A [(w, kO 4 [.null, .null, .null, .null, .null, .null, .null, .int 0, .int 0, .int 0, .int 0, .int 0, .int 0])] s.heap.size = A at hD ⊢
  have hA : ∀ q : Nat, s.heap.size ≤ q → A q := fun q h => by rw [← hAe]; exact Or.inr h
  have hS : va_S A s.heap s.heap [] := va_S.rf
  have hl := lv_entry ([.ref w]) (n := 1) (Nat.le_of_ble_eq_true rfl)
  rw [show entryFrame m args 1 = entryFrame m ([.ref w] : List Value).toArray 1 by rw [hav], lg_entry_eq]
  generalize (lg_sl ([.ref w]) ++ List.replicate (1 - (lg_sl ([.ref w])).length) Slot.unset).toArray = ls at hl ⊢
  have hl : lv_has ls 1 [(0, .ref w)] := hl
  obtain ⟨R, hR⟩ : ∃ R, R = (headSpec wsX4_init ({ frames := 1, cells := 7, slots := 42, locals := 70 } : Room)).room := ⟨_, rfl⟩
  rw [← hR]
  generalize hQ : MQ below _ args s 7 42 A = Q
  replace hQ := hQ.symm
  obtain ⟨H, hH⟩ : ∃ H, H = s.heap := ⟨_, rfl⟩
  rw [← hH] at hP ⊢
  have hS : va_S A s.heap H [] := by rw [hH]; exact hS
  have hRc : R.cells = 7 ∧ R.slots = 42 := by rw [hR]; exact ⟨rfl, rfl⟩
  obtain ⟨hRc, hRs⟩ := hRc
  refine lv_aload_n hx hb dX4_init_0 rfl (lv_at hl 0 rfl) ?_
  refine W.objInit hx hb hown lm3 lio lco rfl (by rw [hml]; exact hl.1) rfl dX4_init_1 (by rw [hR]; exact Nat.le_of_ble_eq_true rfl) (by rw [hR]; exact Nat.le_of_ble_eq_true rfl) ?_
  refine W.eq (g2 := F0 m 4 ls []) rfl ?_
  refine lv_aload_n hx hb dX4_init_4 rfl (lv_at hl 0 rfl) ?_
  refine lv_bipush (v := 6) hx hb dX4_init_5 (by decide) ?_
  refine va_newa (atype := .int) (ty := .int) (N' := 6) (a0 := (6, .inl (fun _ => 0))) hx hb laI rfl hK hP hD hS hA (fun _ => rfl) (by decide) (by decide) (by decide) (by omega) (by omega) dX4_init_7 (fun q7_1 cA H hK9 hP hD hS => ?_)
  obtain rfl : cA = k 0 := kz_same hK9 0 rfl
  refine W.widen (k := 1) (n := 6) (by omega) (by omega) ?_
  have hP : va_P D vwCl [(w, kO 4 [.null, .null, .null, .null, .null, .null, .null, .int 0, .int 0, .int 0, .int 0, .int 0, .int 0]), (q7_1, kI k 6 (fun _ => 0))] H := hP
  have hD : va_D A [(w, kO 4 [.null, .null, .null, .null, .null, .null, .null, .int 0, .int 0, .int 0, .int 0, .int 0, .int 0]), (q7_1, kI k 6 (fun _ => 0))] := hD
  refine va_putF (D := D) (ci := 4) (v := .ref q7_1) (ty := (.array .int)) (C := RX4) (T := TX4) (N := 13) hx hb hts hi4 tyX4 tyX4_ok nmX4 hown hK hP hD hS 0 rfl rfl 0 (by decide) lf9 (fun _ h9 => h9) rfl hin rfl (by decide +kernel) rfl rfl (Nat.le_of_ble_eq_true rfl) dX4_init_9 (fun H locs hP hD hS => ?_)
  have hP : va_P D vwCl [(w, kO 4 [.ref q7_1, .null, .null, .null, .null, .null, .null, .int 0, .int 0, .int 0, .int 0, .int 0, .int 0]), (q7_1, kI k 6 (fun _ => 0))] H := hP
  have hD : va_D A [(w, kO 4 [.ref q7_1, .null, .null, .null, .null, .null, .null, .int 0, .int 0, .int 0, .int 0, .int 0, .int 0]), (q7_1, kI k 6 (fun _ => 0))] := hD
  refine lv_aload_n hx hb dX4_init_12 rfl (lv_at hl 0 rfl) ?_
  refine lv_bipush (v := 6) hx hb dX4_init_13 (by decide) ?_
  refine va_newa (atype := .int) (ty := .int) (N' := 6) (a0 := (6, .inl (fun _ => 0))) hx hb laI rfl hK hP hD hS hA (fun _ => rfl) (by decide) (by decide) (by decide) (by omega) (by omega) dX4_init_15 (fun q15_2 cA H hK9 hP hD hS => ?_)
  obtain rfl : cA = k 0 := kz_same hK9 0 rfl
  refine W.widen (k := 2) (n := 12) (by omega) (by omega) ?_
  have hP : va_P D vwCl [(w, kO 4 [.ref q7_1, .null, .null, .null, .null, .null, .null, .int 0, .int 0, .int 0, .int 0, .int 0, .int 0]), (q7_1, kI k 6 (fun _ => 0)), (q15_2, kI k 6 (fun _ => 0))] H := hP
  have hD : va_D A [(w, kO 4 [.ref q7_1, .null, .null, .null, .null, .null, .null, .int 0, .int 0, .int 0, .int 0, .int 0, .int 0]), (q7_1, kI k 6 (fun _ => 0)), (q15_2, kI k 6 (fun _ => 0))] := hD
  refine va_putF (D := D) (ci := 4) (v := .ref q15_2) (ty := (.array .int)) (C := RX4) (T := TX4) (N := 13) hx hb hts hi4 tyX4 tyX4_ok nmX4 hown hK hP hD hS 0 rfl rfl 1 (by decide) lf15 (fun _ h9 => h9) rfl hin rfl (by decide +kernel) rfl rfl (Nat.le_of_ble_eq_true rfl) dX4_init_17 (fun H locs hP hD hS => ?_)
  have hP : va_P D vwCl [(w, kO 4 [.ref q7_1, .ref q15_2, .null, .null, .null, .null, .null, .int 0, .int 0, .int 0, .int 0, .int 0, .int 0]), (q7_1, kI k 6 (fun _ => 0)), (q15_2, kI k 6 (fun _ => 0))] H := hP
  have hD : va_D A [(w, kO 4 [.ref q7_1, .ref q15_2, .null, .null, .null, .null, .null, .int 0, .int 0, .int 0, .int 0, .int 0, .int 0]), (q7_1, kI k 6 (fun _ => 0)), (q15_2, kI k 6 (fun _ => 0))] := hD
  refine lv_aload_n hx hb dX4_init_20 rfl (lv_at hl 0 rfl) ?_
  refine lv_bipush (v := 6) hx hb dX4_init_21 (by decide) ?_
  refine va_newa (atype := .int) (ty := .int) (N' := 6) (a0 := (6, .inl (fun _ => 0))) hx hb laI rfl hK hP hD hS hA (fun _ => rfl) (by decide) (by decide) (by decide) (by omega) (by omega) dX4_init_23 (fun q23_3 cA H hK9 hP hD hS => ?_)
  obtain rfl : cA = k 0 := kz_same hK9 0 rfl
  refine W.widen (k := 3) (n := 18) (by omega) (by omega) ?_
  have hP : va_P D vwCl [(w, kO 4 [.ref q7_1, .ref q15_2, .null, .null, .null, .null, .null, .int 0, .int 0, .int 0, .int 0, .int 0, .int 0]), (q7_1, kI k 6 (fun _ => 0)), (q15_2, kI k 6 (fun _ => 0)), (q23_3, kI k 6 (fun _ => 0))] H := hP
  have hD : va_D A [(w, kO 4 [.ref q7_1, .ref q15_2, .null, .null, .null, .null, .null, .int 0, .int 0, .int 0, .int 0, .int 0, .int 0]), (q7_1, kI k 6 (fun _ => 0)), (q15_2, kI k 6 (fun _ => 0)), (q23_3, kI k 6 (fun _ => 0))] := hD
  refine va_putF (D := D) (ci := 4) (v := .ref q23_3) (ty := (.array .int)) (C := RX4) (T := TX4) (N := 13) hx hb hts hi4 tyX4 tyX4_ok nmX4 hown hK hP hD hS 0 rfl rfl 2 (by decide) lf18 (fun _ h9 => h9) rfl hin rfl (by decide +kernel) rfl rfl (Nat.le_of_ble_eq_true rfl) dX4_init_25 (fun H locs hP hD hS => ?_)
  have hP : va_P D vwCl [(w, kO 4 [.ref q7_1, .ref q15_2, .ref q23_3, .null, .null, .null, .null, .int 0, .int 0, .int 0, .int 0, .int 0, .int 0]), (q7_1, kI k 6 (fun _ => 0)), (q15_2, kI k 6 (fun _ => 0)), (q23_3, kI k 6 (fun _ => 0))] H := hP
  have hD : va_D A [(w, kO 4 [.ref q7_1, .ref q15_2, .ref q23_3, .null, .null, .null, .null, .int 0, .int 0, .int 0, .int 0, .int 0, .int 0]), (q7_1, kI k 6 (fun _ => 0)), (q15_2, kI k 6 (fun _ => 0)), (q23_3, kI k 6 (fun _ => 0))] := hD
  refine lv_aload_n hx hb dX4_init_28 rfl (lv_at hl 0 rfl) ?_
  refine lv_bipush (v := 6) hx hb dX4_init_29 (by decide) ?_
  refine va_newa (atype := .int) (ty := .int) (N' := 6) (a0 := (6, .inl (fun _ => 0))) hx hb laI rfl hK hP hD hS hA (fun _ => rfl) (by decide) (by decide) (by decide) (by omega) (by omega) dX4_init_31 (fun q31_4 cA H hK9 hP hD hS => ?_)
  obtain rfl : cA = k 0 := kz_same hK9 0 rfl
  refine W.widen (k := 4) (n := 24) (by omega) (by omega) ?_
  have hP : va_P D vwCl [(w, kO 4 [.ref q7_1, .ref q15_2, .ref q23_3, .null, .null, .null, .null, .int 0, .int 0, .int 0, .int 0, .int 0, .int 0]), (q7_1, kI k 6 (fun _ => 0)), (q15_2, kI k 6 (fun _ => 0)), (q23_3, kI k 6 (fun _ => 0)), (q31_4, kI k 6 (fun _ => 0))] H := hP
  have hD : va_D A [(w, kO 4 [.ref q7_1, .ref q15_2, .ref q23_3, .null, .null, .null, .null, .int 0, .int 0, .int 0, .int 0, .int 0, .int 0]), (q7_1, kI k 6 (fun _ => 0)), (q15_2, kI k 6 (fun _ => 0)), (q23_3, kI k 6 (fun _ => 0)), (q31_4, kI k 6 (fun _ => 0))] := hD
  refine va_putF (D := D) (ci := 4) (v := .ref q31_4) (ty := (.array .int)) (C := RX4) (T := TX4) (N := 13) hx hb hts hi4 tyX4 tyX4_ok nmX4 hown hK hP hD hS 0 rfl rfl 3 (by decide) lf21 (fun _ h9 => h9) rfl hin rfl (by decide +kernel) rfl rfl (Nat.le_of_ble_eq_true rfl) dX4_init_33 (fun H locs hP hD hS => ?_)
  have hP : va_P D vwCl [(w, kO 4 [.ref q7_1, .ref q15_2, .ref q23_3, .ref q31_4, .null, .null, .null, .int 0, .int 0, .int 0, .int 0, .int 0, .int 0]), (q7_1, kI k 6 (fun _ => 0)), (q15_2, kI k 6 (fun _ => 0)), (q23_3, kI k 6 (fun _ => 0)), (q31_4, kI k 6 (fun _ => 0))] H := hP
  have hD : va_D A [(w, kO 4 [.ref q7_1, .ref q15_2, .ref q23_3, .ref q31_4, .null, .null, .null, .int 0, .int 0, .int 0, .int 0, .int 0, .int 0]), (q7_1, kI k 6 (fun _ => 0)), (q15_2, kI k 6 (fun _ => 0)), (q23_3, kI k 6 (fun _ => 0)), (q31_4, kI k 6 (fun _ => 0))] := hD
  refine lv_aload_n hx hb dX4_init_36 rfl (lv_at hl 0 rfl) ?_
  refine lv_bipush (v := 6) hx hb dX4_init_37 (by decide) ?_
  refine va_newa (atype := .int) (ty := .int) (N' := 6) (a0 := (6, .inl (fun _ => 0))) hx hb laI rfl hK hP hD hS hA (fun _ => rfl) (by decide) (by decide) (by decide) (by omega) (by omega) dX4_init_39 (fun q39_5 cA H hK9 hP hD hS => ?_)
  obtain rfl : cA = k 0 := kz_same hK9 0 rfl
  refine W.widen (k := 5) (n := 30) (by omega) (by omega) ?_
  have hP : va_P D vwCl [(w, kO 4 [.ref q7_1, .ref q15_2, .ref q23_3, .ref q31_4, .null, .null, .null, .int 0, .int 0, .int 0, .int 0, .int 0, .int 0]), (q7_1, kI k 6 (fun _ => 0)), (q15_2, kI k 6 (fun _ => 0)), (q23_3, kI k 6 (fun _ => 0)), (q31_4, kI k 6 (fun _ => 0)), (q39_5, kI k 6 (fun _ => 0))] H := hP
  have hD : va_D A [(w, kO 4 [.ref q7_1, .ref q15_2, .ref q23_3, .ref q31_4, .null, .null, .null, .int 0, .int 0, .int 0, .int 0, .int 0, .int 0]), (q7_1, kI k 6 (fun _ => 0)), (q15_2, kI k 6 (fun _ => 0)), (q23_3, kI k 6 (fun _ => 0)), (q31_4, kI k 6 (fun _ => 0)), (q39_5, kI k 6 (fun _ => 0))] := hD
  refine va_putF (D := D) (ci := 4) (v := .ref q39_5) (ty := (.array .int)) (C := RX4) (T := TX4) (N := 13) hx hb hts hi4 tyX4 tyX4_ok nmX4 hown hK hP hD hS 0 rfl rfl 4 (by decide) lf24 (fun _ h9 => h9) rfl hin rfl (by decide +kernel) rfl rfl (Nat.le_of_ble_eq_true rfl) dX4_init_41 (fun H locs hP hD hS => ?_)
  have hP : va_P D vwCl [(w, kO 4 [.ref q7_1, .ref q15_2, .ref q23_3, .ref q31_4, .ref q39_5, .null, .null, .int 0, .int 0, .int 0, .int 0, .int 0, .int 0]), (q7_1, kI k 6 (fun _ => 0)), (q15_2, kI k 6 (fun _ => 0)), (q23_3, kI k 6 (fun _ => 0)), (q31_4, kI k 6 (fun _ => 0)), (q39_5, kI k 6 (fun _ => 0))] H := hP
  have hD : va_D A [(w, kO 4 [.ref q7_1, .ref q15_2, .ref q23_3, .ref q31_4, .ref q39_5, .null, .null, .int 0, .int 0, .int 0, .int 0, .int 0, .int 0]), (q7_1, kI k 6 (fun _ => 0)), (q15_2, kI k 6 (fun _ => 0)), (q23_3, kI k 6 (fun _ => 0)), (q31_4, kI k 6 (fun _ => 0)), (q39_5, kI k 6 (fun _ => 0))] := hD
  refine lv_aload_n hx hb dX4_init_44 rfl (lv_at hl 0 rfl) ?_
  refine lv_bipush (v := 6) hx hb dX4_init_45 (by decide) ?_
  refine va_newa (atype := .int) (ty := .int) (N' := 6) (a0 := (6, .inl (fun _ => 0))) hx hb laI rfl hK hP hD hS hA (fun _ => rfl) (by decide) (by decide) (by decide) (by omega) (by omega) dX4_init_47 (fun q47_6 cA H hK9 hP hD hS => ?_)
  obtain rfl : cA = k 0 := kz_same hK9 0 rfl
  refine W.widen (k := 6) (n := 36) (by omega) (by omega) ?_
  have hP : va_P D vwCl [(w, kO 4 [.ref q7_1, .ref q15_2, .ref q23_3, .ref q31_4, .ref q39_5, .null, .null, .int 0, .int 0, .int 0, .int 0, .int 0, .int 0]), (q7_1, kI k 6 (fun _ => 0)), (q15_2, kI k 6 (fun _ => 0)), (q23_3, kI k 6 (fun _ => 0)), (q31_4, kI k 6 (fun _ => 0)), (q39_5, kI k 6 (fun _ => 0)), (q47_6, kI k 6 (fun _ => 0))] H := hP
  have hD : va_D A [(w, kO 4 [.ref q7_1, .ref q15_2, .ref q23_3, .ref q31_4, .ref q39_5, .null, .null, .int 0, .int 0, .int 0, .int 0, .int 0, .int 0]), (q7_1, kI k 6 (fun _ => 0)), (q15_2, kI k 6 (fun _ => 0)), (q23_3, kI k 6 (fun _ => 0)), (q31_4, kI k 6 (fun _ => 0)), (q39_5, kI k 6 (fun _ => 0)), (q47_6, kI k 6 (fun _ => 0))] := hD
  refine va_putF (D := D) (ci := 4) (v := .ref q47_6) (ty := (.array .int)) (C := RX4) (T := TX4) (N := 13) hx hb hts hi4 tyX4 tyX4_ok nmX4 hown hK hP hD hS 0 rfl rfl 5 (by decide) lf27 (fun _ h9 => h9) rfl hin rfl (by decide +kernel) rfl rfl (Nat.le_of_ble_eq_true rfl) dX4_init_49 (fun H locs hP hD hS => ?_)
  have hP : va_P D vwCl [(w, kO 4 [.ref q7_1, .ref q15_2, .ref q23_3, .ref q31_4, .ref q39_5, .ref q47_6, .null, .int 0, .int 0, .int 0, .int 0, .int 0, .int 0]), (q7_1, kI k 6 (fun _ => 0)), (q15_2, kI k 6 (fun _ => 0)), (q23_3, kI k 6 (fun _ => 0)), (q31_4, kI k 6 (fun _ => 0)), (q39_5, kI k 6 (fun _ => 0)), (q47_6, kI k 6 (fun _ => 0))] H := hP
  have hD : va_D A [(w, kO 4 [.ref q7_1, .ref q15_2, .ref q23_3, .ref q31_4, .ref q39_5, .ref q47_6, .null, .int 0, .int 0, .int 0, .int 0, .int 0, .int 0]), (q7_1, kI k 6 (fun _ => 0)), (q15_2, kI k 6 (fun _ => 0)), (q23_3, kI k 6 (fun _ => 0)), (q31_4, kI k 6 (fun _ => 0)), (q39_5, kI k 6 (fun _ => 0)), (q47_6, kI k 6 (fun _ => 0))] := hD
  refine lv_aload_n hx hb dX4_init_52 rfl (lv_at hl 0 rfl) ?_
  refine lv_bipush (v := 6) hx hb dX4_init_53 (by decide) ?_
  refine va_newa (atype := .int) (ty := .int) (N' := 6) (a0 := (6, .inl (fun _ => 0))) hx hb laI rfl hK hP hD hS hA (fun _ => rfl) (by decide) (by decide) (by decide) (by omega) (by omega) dX4_init_55 (fun q55_7 cA H hK9 hP hD hS => ?_)
  obtain rfl : cA = k 0 := kz_same hK9 0 rfl
  refine W.widen (k := 7) (n := 42) (by omega) (by omega) ?_
  have hP : va_P D vwCl [(w, kO 4 [.ref q7_1, .ref q15_2, .ref q23_3, .ref q31_4, .ref q39_5, .ref q47_6, .null, .int 0, .int 0, .int 0, .int 0, .int 0, .int 0]), (q7_1, kI k 6 (fun _ => 0)), (q15_2, kI k 6 (fun _ => 0)), (q23_3, kI k 6 (fun _ => 0)), (q31_4, kI k 6 (fun _ => 0)), (q39_5, kI k 6 (fun _ => 0)), (q47_6, kI k 6 (fun _ => 0)), (q55_7, kI k 6 (fun _ => 0))] H := hP
  have hD : va_D A [(w, kO 4 [.ref q7_1, .ref q15_2, .ref q23_3, .ref q31_4, .ref q39_5, .ref q47_6, .null, .int 0, .int 0, .int 0, .int 0, .int 0, .int 0]), (q7_1, kI k 6 (fun _ => 0)), (q15_2, kI k 6 (fun _ => 0)), (q23_3, kI k 6 (fun _ => 0)), (q31_4, kI k 6 (fun _ => 0)), (q39_5, kI k 6 (fun _ => 0)), (q47_6, kI k 6 (fun _ => 0)), (q55_7, kI k 6 (fun _ => 0))] := hD
  refine va_putF (D := D) (ci := 4) (v := .ref q55_7) (ty := (.array .int)) (C := RX4) (T := TX4) (N := 13) hx hb hts hi4 tyX4 tyX4_ok nmX4 hown hK hP hD hS 0 rfl rfl 6 (by decide) lf30 (fun _ h9 => h9) rfl hin rfl (by decide +kernel) rfl rfl (Nat.le_of_ble_eq_true rfl) dX4_init_57 (fun H locs hP hD hS => ?_)
  have hP : va_P D vwCl [(w, kO 4 [.ref q7_1, .ref q15_2, .ref q23_3, .ref q31_4, .ref q39_5, .ref q47_6, .ref q55_7, .int 0, .int 0, .int 0, .int 0, .int 0, .int 0]), (q7_1, kI k 6 (fun _ => 0)), (q15_2, kI k 6 (fun _ => 0)), (q23_3, kI k 6 (fun _ => 0)), (q31_4, kI k 6 (fun _ => 0)), (q39_5, kI k 6 (fun _ => 0)), (q47_6, kI k 6 (fun _ => 0)), (q55_7, kI k 6 (fun _ => 0))] H := hP
  have hD : va_D A [(w, kO 4 [.ref q7_1, .ref q15_2, .ref q23_3, .ref q31_4, .ref q39_5, .ref q47_6, .ref q55_7, .int 0, .int 0, .int 0, .int 0, .int 0, .int 0]), (q7_1, kI k 6 (fun _ => 0)), (q15_2, kI k 6 (fun _ => 0)), (q23_3, kI k 6 (fun _ => 0)), (q31_4, kI k 6 (fun _ => 0)), (q39_5, kI k 6 (fun _ => 0)), (q47_6, kI k 6 (fun _ => 0)), (q55_7, kI k 6 (fun _ => 0))] := hD
  refine lv_aload_n hx hb dX4_init_60 rfl (lv_at hl 0 rfl) ?_
  refine lv_iconst (v := (-1)) hx hb dX4_init_61 (by decide) ?_
  refine va_put (D := D) (ci := 4) (v := .int (-1)) (ty := .int) (C := RX4) (T := TX4) (N := 13) hx hb hts hi4 tyX4 tyX4_ok nmX4 hown hK hP hD hS 0 rfl rfl 11 (by decide) lf33 (fun _ h9 => h9) rfl (by decide +kernel) rfl rfl (Nat.le_of_ble_eq_true rfl) dX4_init_62 (fun H locs hP hD hS => ?_)
  have hP : va_P D vwCl [(w, kO 4 [.ref q7_1, .ref q15_2, .ref q23_3, .ref q31_4, .ref q39_5, .ref q47_6, .ref q55_7, .int 0, .int 0, .int 0, .int 0, .int (-1), .int 0]), (q7_1, kI k 6 (fun _ => 0)), (q15_2, kI k 6 (fun _ => 0)), (q23_3, kI k 6 (fun _ => 0)), (q31_4, kI k 6 (fun _ => 0)), (q39_5, kI k 6 (fun _ => 0)), (q47_6, kI k 6 (fun _ => 0)), (q55_7, kI k 6 (fun _ => 0))] H := hP
  have hD : va_D A [(w, kO 4 [.ref q7_1, .ref q15_2, .ref q23_3, .ref q31_4, .ref q39_5, .ref q47_6, .ref q55_7, .int 0, .int 0, .int 0, .int 0, .int (-1), .int 0]), (q7_1, kI k 6 (fun _ => 0)), (q15_2, kI k 6 (fun _ => 0)), (q23_3, kI k 6 (fun _ => 0)), (q31_4, kI k 6 (fun _ => 0)), (q39_5, kI k 6 (fun _ => 0)), (q47_6, kI k 6 (fun _ => 0)), (q55_7, kI k 6 (fun _ => 0))] := hD
  rw [hQ]
  have hP9 := hP.sub (ws' := [(w, kO 4 [.ref q7_1, .ref q15_2, .ref q23_3, .ref q31_4, .ref q39_5, .ref q47_6, .ref q55_7, .int 0, .int 0, .int 0, .int 0, .int (-1), .int 0]), (q7_1, kI k 6 (fun _ => 0)), (q15_2, kI k 6 (fun _ => 0)), (q23_3, kI k 6 (fun _ => 0)), (q31_4, kI k 6 (fun _ => 0)), (q39_5, kI k 6 (fun _ => 0)), (q47_6, kI k 6 (fun _ => 0)), (q55_7, kI k 6 (fun _ => 0))]) [0, 1, 2, 3, 4, 5, 6, 7] rfl
  have hD9 := hD.sub (ws' := [(w, kO 4 [.ref q7_1, .ref q15_2, .ref q23_3, .ref q31_4, .ref q39_5, .ref q47_6, .ref q55_7, .int 0, .int 0, .int 0, .int 0, .int (-1), .int 0]), (q7_1, kI k 6 (fun _ => 0)), (q15_2, kI k 6 (fun _ => 0)), (q23_3, kI k 6 (fun _ => 0)), (q31_4, kI k 6 (fun _ => 0)), (q39_5, kI k 6 (fun _ => 0)), (q47_6, kI k 6 (fun _ => 0)), (q55_7, kI k 6 (fun _ => 0))]) [0, 1, 2, 3, 4, 5, 6, 7] (by decide) rfl
  exact W.vret hx hb hr (fun zt ht hW => ⟨⟨⟨q7_1, q15_2, q23_3, q31_4, q39_5, q47_6, q55_7⟩, rfl, trivial, by rw [ht]; exact hP9, hD9⟩, hS.F ht⟩) hS.2.2 dX4_init_65
