theorem dX0_init_0 : decode cX0_init 0 = .ok (.aload_n 0, 1) := dk_aload_n_0 (by decide +kernel)
theorem dX0_init_1 : decode cX0_init 1 = .ok (.invokespecial 1, 3) := dk_invokespecial (by decide +kernel)
theorem dX0_init_4 : decode cX0_init 4 = .ok (.aload_n 0, 1) := dk_aload_n_0 (by decide +kernel)
theorem dX0_init_5 : decode cX0_init 5 = .ok (.sipush 1000, 3) := dk_sipush (by decide +kernel)
theorem dX0_init_8 : decode cX0_init 8 = .ok (.newarray .int, 2) := by decide +kernel
theorem dX0_init_10 : decode cX0_init 10 = .ok (.putfield 9, 3) := dk_putfield (by decide +kernel)
theorem dX0_init_13 : decode cX0_init 13 = .ok (.aload_n 0, 1) := dk_aload_n_0 (by decide +kernel)
theorem dX0_init_14 : decode cX0_init 14 = .ok (.bipush 24, 2) := dk_bipush (by decide +kernel)
theorem dX0_init_16 : decode cX0_init 16 = .ok (.newarray .int, 2) := by decide +kernel
theorem dX0_init_18 : decode cX0_init 18 = .ok (.putfield 15, 3) := dk_putfield (by decide +kernel)
theorem dX0_init_21 : decode cX0_init 21 = .ok (.aload_n 0, 1) := dk_aload_n_0 (by decide +kernel)
theorem dX0_init_22 : decode cX0_init 22 = .ok (.iconst 4, 1) := dk_iconst_4 (by decide +kernel)
theorem dX0_init_23 : decode cX0_init 23 = .ok (.newarray .int, 2) := by decide +kernel
theorem dX0_init_25 : decode cX0_init 25 = .ok (.putfield 18, 3) := dk_putfield (by decide +kernel)
theorem dX0_init_28 : decode cX0_init 28 = .ok (.return_, 1) := dk_return_ (by decide +kernel)
set_option maxHeartbeats 4000000 in
set_option maxRecDepth 100000 in
theorem kX0_init (l : Launch) (D : va_G) (k : Nat → ClassId) (sz : Nat) (w : Nat) : Met l yX0_init wsX0_init ({ frames := 1, cells := 3, slots := 1028, locals := 70 }) (va_Pc [.ref w] (kz_Pre D k [(w, kO 0 [.null, .null, .null, .int 0, .int 0])] sz)) (va_Qv (fun (uu : Nat × Nat × Nat) => True) (fun uu zt => kz_B D (va_A [(w, kO 0 [.null, .null, .null, .int 0, .int 0])] sz) [(w, kO 0 [.ref uu.1, .ref uu.2.1, .ref uu.2.2, .int 0, .int 0]), (uu.1, kI k 1000 (fun _ => 0)), (uu.2.1, kI k 24 (fun _ => 0)), (uu.2.2, kI k 4 (fun _ => 0))] zt) (va_A [(w, kO 0 [.null, .null, .null, .int 0, .int 0])] sz)) 3 1028 (va_A [(w, kO 0 [.null, .null, .null, .int 0, .int 0])] sz) := by
  refine Met.ofW (cc := cX0_init) (maxL := 1) (ret := none) (by decide) rfl ?_
  intro p e s m args below meth c s₁ B hml hv
  obtain ⟨hav, hsz, hP, hK, hD0, hE⟩ := hv
  have hx := B.exec
  have hb := B.bytes
  have hr := B.returns
  have hts := atoms_spec (ws := wsX0_init) B.pre
  have hown : s.vm.findClass RX0 = some m.cls := findClass_of_methodNamed B.named
  have hlocks := B.notSynchronized
  have hin : meth.name = "<init>" := (name_of_methodNamed B.named B.method).1
  have hi0 : ∀ w ∈ u_ws RX0 TX0 5, w ∈ wsX0_init := fun w h9 => List.mem_cons_of_mem _ (List.mem_append_right _ h9)
  have lm1 := hts (.methodLink RX0 1 objectInit) (List.mem_cons_of_mem _ (List.mem_append_left _ (List.mem_of_getElem? (i := 0) rfl)))
  have lio := hts (.instanceMethod objectInit) (List.mem_cons_of_mem _ (List.mem_append_left _ (List.mem_of_getElem? (i := 1) rfl)))
  have lco := hts (.code objectInit ⟨#[0xb1]⟩ 1 none) (List.mem_cons_of_mem _ (List.mem_append_left _ (List.mem_of_getElem? (i := 2) rfl)))
  have laI := hts (.arrayClass .int) (List.mem_cons_of_mem _ (List.mem_append_left _ (List.mem_of_getElem? (i := 3) rfl)))
  have lf9 := hts (.fieldLink RX0 9 "LastCook$Law" "code" "[I") (List.mem_cons_of_mem _ (List.mem_append_left _ (List.mem_of_getElem? (i := 4) rfl)))
  have lf15 := hts (.fieldLink RX0 15 "LastCook$Law" "stack" "[I") (List.mem_cons_of_mem _ (List.mem_append_left _ (List.mem_of_getElem? (i := 5) rfl)))
  have lf18 := hts (.fieldLink RX0 18 "LastCook$Law" "facts" "[I") (List.mem_cons_of_mem _ (List.mem_append_left _ (List.mem_of_getElem? (i := 6) rfl)))
  subst hsz
  have hD := hD0.self (sz := s.heap.size)
  generalize hAe : va_A [(w, kO 0 [.null, .null, .null, .int 0, .int 0])] s.heap.size = A at hD ⊢
  have hA : ∀ q : Nat, s.heap.size ≤ q → A q := fun q h => by rw [← hAe]; exact Or.inr h
  have hS : va_S A s.heap s.heap [] := va_S.rf
  have hl := lv_entry ([.ref w]) (n := 1) (Nat.le_of_ble_eq_true rfl)
  rw [show entryFrame m args 1 = entryFrame m ([.ref w] : List Value).toArray 1 by rw [hav], lg_entry_eq]
  generalize (lg_sl ([.ref w]) ++ List.replicate (1 - (lg_sl ([.ref w])).length) Slot.unset).toArray = ls at hl ⊢
  have hl : lv_has ls 1 [(0, .ref w)] := hl
  obtain ⟨R, hR⟩ : ∃ R, R = (headSpec wsX0_init ({ frames := 1, cells := 3, slots := 1028, locals := 70 } : Room)).room := ⟨_, rfl⟩
  rw [← hR]
  generalize hQ : MQ below _ args s 3 1028 A = Q
  replace hQ := hQ.symm
  obtain ⟨H, hH⟩ : ∃ H, H = s.heap := ⟨_, rfl⟩
  rw [← hH] at hP ⊢
  have hS : va_S A s.heap H [] := by rw [hH]; exact hS
  have hRc : R.cells = 3 ∧ R.slots = 1028 := by rw [hR]; exact ⟨rfl, rfl⟩
  obtain ⟨hRc, hRs⟩ := hRc
  refine lv_aload_n hx hb dX0_init_0 rfl (lv_at hl 0 rfl) ?_
  refine W.objInit hx hb hown lm1 lio lco rfl (by rw [hml]; exact hl.1) rfl dX0_init_1 (by rw [hR]; exact Nat.le_of_ble_eq_true rfl) (by rw [hR]; exact Nat.le_of_ble_eq_true rfl) ?_
  refine W.eq (g2 := F0 m 4 ls []) rfl ?_
  refine lv_aload_n hx hb dX0_init_4 rfl (lv_at hl 0 rfl) ?_
  refine lv_sipush (v := 1000) hx hb dX0_init_5 (by decide) ?_
  refine va_newa (atype := .int) (ty := .int) (N' := 1000) (a0 := (1000, .inl (fun _ => 0))) hx hb laI rfl hK hP hD hS hA (fun _ => rfl) (by decide) (by decide) (by decide) (by omega) (by omega) dX0_init_8 (fun q8_1 cA H hK9 hP hD hS => ?_)
  exact by
   obtain rfl : cA = k 0 := kz_same hK9 0 rfl
   refine W.widen (k := 1) (n := 1000) (by omega) (by omega) ?_
   have hP : va_P D vwCl ([(w, kO 0 [.null, .null, .null, .int 0, .int 0]), (q8_1, kI k 1000 (fun _ => 0))]) H := hP
   have hD : va_D A ([(w, kO 0 [.null, .null, .null, .int 0, .int 0]), (q8_1, kI k 1000 (fun _ => 0))]) := hD
   refine va_putF (D := D) (ci := 0) (v := .ref q8_1) (ty := (.array .int)) (C := RX0) (T := TX0) (N := 5) hx hb hts hi0 tyX0 tyX0_ok nmX0 hown hK hP hD hS 0 rfl rfl 0 (by decide) lf9 (fun _ h9 => h9) rfl hin rfl (by decide +kernel) rfl rfl (Nat.le_of_ble_eq_true rfl) dX0_init_10 (fun H locs hP hD hS => ?_)
   exact by
    have hP : va_P D vwCl ([(w, kO 0 [.ref q8_1, .null, .null, .int 0, .int 0]), (q8_1, kI k 1000 (fun _ => 0))]) H := hP
    have hD : va_D A ([(w, kO 0 [.ref q8_1, .null, .null, .int 0, .int 0]), (q8_1, kI k 1000 (fun _ => 0))]) := hD
    refine lv_aload_n hx hb dX0_init_13 rfl (lv_at hl 0 rfl) ?_
    refine lv_bipush (v := 24) hx hb dX0_init_14 (by decide) ?_
    refine va_newa (atype := .int) (ty := .int) (N' := 24) (a0 := (24, .inl (fun _ => 0))) hx hb laI rfl hK hP hD hS hA (fun _ => rfl) (by decide) (by decide) (by decide) (by omega) (by omega) dX0_init_16 (fun q16_2 cA H hK9 hP hD hS => ?_)
    exact by
     obtain rfl : cA = k 0 := kz_same hK9 0 rfl
     refine W.widen (k := 2) (n := 1024) (by omega) (by omega) ?_
     have hP : va_P D vwCl ([(w, kO 0 [.ref q8_1, .null, .null, .int 0, .int 0]), (q8_1, kI k 1000 (fun _ => 0)), (q16_2, kI k 24 (fun _ => 0))]) H := hP
     have hD : va_D A ([(w, kO 0 [.ref q8_1, .null, .null, .int 0, .int 0]), (q8_1, kI k 1000 (fun _ => 0)), (q16_2, kI k 24 (fun _ => 0))]) := hD
     refine va_putF (D := D) (ci := 0) (v := .ref q16_2) (ty := (.array .int)) (C := RX0) (T := TX0) (N := 5) hx hb hts hi0 tyX0 tyX0_ok nmX0 hown hK hP hD hS 0 rfl rfl 1 (by decide) lf15 (fun _ h9 => h9) rfl hin rfl (by decide +kernel) rfl rfl (Nat.le_of_ble_eq_true rfl) dX0_init_18 (fun H locs hP hD hS => ?_)
     exact by
      have hP : va_P D vwCl ([(w, kO 0 [.ref q8_1, .ref q16_2, .null, .int 0, .int 0]), (q8_1, kI k 1000 (fun _ => 0)), (q16_2, kI k 24 (fun _ => 0))]) H := hP
      have hD : va_D A ([(w, kO 0 [.ref q8_1, .ref q16_2, .null, .int 0, .int 0]), (q8_1, kI k 1000 (fun _ => 0)), (q16_2, kI k 24 (fun _ => 0))]) := hD
      refine lv_aload_n hx hb dX0_init_21 rfl (lv_at hl 0 rfl) ?_
      refine lv_iconst (v := 4) hx hb dX0_init_22 (by decide) ?_
      refine va_newa (atype := .int) (ty := .int) (N' := 4) (a0 := (4, .inl (fun _ => 0))) hx hb laI rfl hK hP hD hS hA (fun _ => rfl) (by decide) (by decide) (by decide) (by omega) (by omega) dX0_init_23 (fun q23_3 cA H hK9 hP hD hS => ?_)
      exact by
       obtain rfl : cA = k 0 := kz_same hK9 0 rfl
       refine W.widen (k := 3) (n := 1028) (by omega) (by omega) ?_
       have hP : va_P D vwCl ([(w, kO 0 [.ref q8_1, .ref q16_2, .null, .int 0, .int 0]), (q8_1, kI k 1000 (fun _ => 0)), (q16_2, kI k 24 (fun _ => 0)), (q23_3, kI k 4 (fun _ => 0))]) H := hP
       have hD : va_D A ([(w, kO 0 [.ref q8_1, .ref q16_2, .null, .int 0, .int 0]), (q8_1, kI k 1000 (fun _ => 0)), (q16_2, kI k 24 (fun _ => 0)), (q23_3, kI k 4 (fun _ => 0))]) := hD
       refine va_putF (D := D) (ci := 0) (v := .ref q23_3) (ty := (.array .int)) (C := RX0) (T := TX0) (N := 5) hx hb hts hi0 tyX0 tyX0_ok nmX0 hown hK hP hD hS 0 rfl rfl 2 (by decide) lf18 (fun _ h9 => h9) rfl hin rfl (by decide +kernel) rfl rfl (Nat.le_of_ble_eq_true rfl) dX0_init_25 (fun H locs hP hD hS => ?_)
       exact by
        have hP : va_P D vwCl ([(w, kO 0 [.ref q8_1, .ref q16_2, .ref q23_3, .int 0, .int 0]), (q8_1, kI k 1000 (fun _ => 0)), (q16_2, kI k 24 (fun _ => 0)), (q23_3, kI k 4 (fun _ => 0))]) H := hP
        have hD : va_D A ([(w, kO 0 [.ref q8_1, .ref q16_2, .ref q23_3, .int 0, .int 0]), (q8_1, kI k 1000 (fun _ => 0)), (q16_2, kI k 24 (fun _ => 0)), (q23_3, kI k 4 (fun _ => 0))]) := hD
        rw [hQ]
        have hP9 := hP.sub (ws' := [(w, kO 0 [.ref q8_1, .ref q16_2, .ref q23_3, .int 0, .int 0]), (q8_1, kI k 1000 (fun _ => 0)), (q16_2, kI k 24 (fun _ => 0)), (q23_3, kI k 4 (fun _ => 0))]) [0, 1, 2, 3] rfl
        have hD9 := hD.sub (ws' := [(w, kO 0 [.ref q8_1, .ref q16_2, .ref q23_3, .int 0, .int 0]), (q8_1, kI k 1000 (fun _ => 0)), (q16_2, kI k 24 (fun _ => 0)), (q23_3, kI k 4 (fun _ => 0))]) [0, 1, 2, 3] (by decide +kernel) rfl
        exact W.vret hx hb hr (fun zt ht hW => ⟨⟨⟨q8_1, q16_2, q23_3⟩, rfl, trivial, by rw [ht]; exact hP9, hD9⟩, hS.F ht⟩) hS.2.2 dX0_init_28
theorem dX1_init_0 : decode cX1_init 0 = .ok (.aload_n 0, 1) := dk_aload_n_0 (by decide +kernel)
theorem dX1_init_1 : decode cX1_init 1 = .ok (.invokespecial 3, 3) := dk_invokespecial (by decide +kernel)
theorem dX1_init_4 : decode cX1_init 4 = .ok (.aload_n 0, 1) := dk_aload_n_0 (by decide +kernel)
theorem dX1_init_5 : decode cX1_init 5 = .ok (.bipush 40, 2) := dk_bipush (by decide +kernel)
theorem dX1_init_7 : decode cX1_init 7 = .ok (.newarray .int, 2) := by decide +kernel
theorem dX1_init_9 : decode cX1_init 9 = .ok (.putfield 11, 3) := dk_putfield (by decide +kernel)
theorem dX1_init_12 : decode cX1_init 12 = .ok (.aload_n 0, 1) := dk_aload_n_0 (by decide +kernel)
theorem dX1_init_13 : decode cX1_init 13 = .ok (.bipush 40, 2) := dk_bipush (by decide +kernel)
theorem dX1_init_15 : decode cX1_init 15 = .ok (.newarray .int, 2) := by decide +kernel
theorem dX1_init_17 : decode cX1_init 17 = .ok (.putfield 15, 3) := dk_putfield (by decide +kernel)
theorem dX1_init_20 : decode cX1_init 20 = .ok (.aload_n 0, 1) := dk_aload_n_0 (by decide +kernel)
theorem dX1_init_21 : decode cX1_init 21 = .ok (.bipush 40, 2) := dk_bipush (by decide +kernel)
theorem dX1_init_23 : decode cX1_init 23 = .ok (.newarray .int, 2) := by decide +kernel
theorem dX1_init_25 : decode cX1_init 25 = .ok (.putfield 18, 3) := dk_putfield (by decide +kernel)
theorem dX1_init_28 : decode cX1_init 28 = .ok (.return_, 1) := dk_return_ (by decide +kernel)
set_option maxHeartbeats 4000000 in
set_option maxRecDepth 100000 in
theorem kX1_init (l : Launch) (D : va_G) (k : Nat → ClassId) (sz : Nat) (w : Nat) : Met l yX1_init wsX1_init ({ frames := 1, cells := 3, slots := 120, locals := 70 }) (va_Pc [.ref w] (kz_Pre D k [(w, kO 1 [.null, .null, .null, .int 0])] sz)) (va_Qv (fun (uu : Nat × Nat × Nat) => True) (fun uu zt => kz_B D (va_A [(w, kO 1 [.null, .null, .null, .int 0])] sz) [(w, kO 1 [.ref uu.1, .ref uu.2.1, .ref uu.2.2, .int 0]), (uu.1, kI k 40 (fun _ => 0)), (uu.2.1, kI k 40 (fun _ => 0)), (uu.2.2, kI k 40 (fun _ => 0))] zt) (va_A [(w, kO 1 [.null, .null, .null, .int 0])] sz)) 3 120 (va_A [(w, kO 1 [.null, .null, .null, .int 0])] sz) := by
  refine Met.ofW (cc := cX1_init) (maxL := 1) (ret := none) (by decide) rfl ?_
  intro p e s m args below meth c s₁ B hml hv
  obtain ⟨hav, hsz, hP, hK, hD0, hE⟩ := hv
  have hx := B.exec
  have hb := B.bytes
  have hr := B.returns
  have hts := atoms_spec (ws := wsX1_init) B.pre
  have hown : s.vm.findClass RX1 = some m.cls := findClass_of_methodNamed B.named
  have hlocks := B.notSynchronized
  have hin : meth.name = "<init>" := (name_of_methodNamed B.named B.method).1
  have hi1 : ∀ w ∈ u_ws RX1 TX1 4, w ∈ wsX1_init := fun w h9 => List.mem_cons_of_mem _ (List.mem_append_right _ h9)
  have lm3 := hts (.methodLink RX1 3 objectInit) (List.mem_cons_of_mem _ (List.mem_append_left _ (List.mem_of_getElem? (i := 0) rfl)))
  have lio := hts (.instanceMethod objectInit) (List.mem_cons_of_mem _ (List.mem_append_left _ (List.mem_of_getElem? (i := 1) rfl)))
  have lco := hts (.code objectInit ⟨#[0xb1]⟩ 1 none) (List.mem_cons_of_mem _ (List.mem_append_left _ (List.mem_of_getElem? (i := 2) rfl)))
  have laI := hts (.arrayClass .int) (List.mem_cons_of_mem _ (List.mem_append_left _ (List.mem_of_getElem? (i := 3) rfl)))
  have lf11 := hts (.fieldLink RX1 11 "LastCook$Lines" "deeds" "[I") (List.mem_cons_of_mem _ (List.mem_append_left _ (List.mem_of_getElem? (i := 4) rfl)))
  have lf15 := hts (.fieldLink RX1 15 "LastCook$Lines" "guests" "[I") (List.mem_cons_of_mem _ (List.mem_append_left _ (List.mem_of_getElem? (i := 5) rfl)))
  have lf18 := hts (.fieldLink RX1 18 "LastCook$Lines" "wholes" "[I") (List.mem_cons_of_mem _ (List.mem_append_left _ (List.mem_of_getElem? (i := 6) rfl)))
  subst hsz
  have hD := hD0.self (sz := s.heap.size)
  generalize hAe : va_A [(w, kO 1 [.null, .null, .null, .int 0])] s.heap.size = A at hD ⊢
  have hA : ∀ q : Nat, s.heap.size ≤ q → A q := fun q h => by rw [← hAe]; exact Or.inr h
  have hS : va_S A s.heap s.heap [] := va_S.rf
  have hl := lv_entry ([.ref w]) (n := 1) (Nat.le_of_ble_eq_true rfl)
  rw [show entryFrame m args 1 = entryFrame m ([.ref w] : List Value).toArray 1 by rw [hav], lg_entry_eq]
  generalize (lg_sl ([.ref w]) ++ List.replicate (1 - (lg_sl ([.ref w])).length) Slot.unset).toArray = ls at hl ⊢
  have hl : lv_has ls 1 [(0, .ref w)] := hl
  obtain ⟨R, hR⟩ : ∃ R, R = (headSpec wsX1_init ({ frames := 1, cells := 3, slots := 120, locals := 70 } : Room)).room := ⟨_, rfl⟩
  rw [← hR]
  generalize hQ : MQ below _ args s 3 120 A = Q
  replace hQ := hQ.symm
  obtain ⟨H, hH⟩ : ∃ H, H = s.heap := ⟨_, rfl⟩
  rw [← hH] at hP ⊢
  have hS : va_S A s.heap H [] := by rw [hH]; exact hS
  have hRc : R.cells = 3 ∧ R.slots = 120 := by rw [hR]; exact ⟨rfl, rfl⟩
  obtain ⟨hRc, hRs⟩ := hRc
  refine lv_aload_n hx hb dX1_init_0 rfl (lv_at hl 0 rfl) ?_
  refine W.objInit hx hb hown lm3 lio lco rfl (by rw [hml]; exact hl.1) rfl dX1_init_1 (by rw [hR]; exact Nat.le_of_ble_eq_true rfl) (by rw [hR]; exact Nat.le_of_ble_eq_true rfl) ?_
  refine W.eq (g2 := F0 m 4 ls []) rfl ?_
  refine lv_aload_n hx hb dX1_init_4 rfl (lv_at hl 0 rfl) ?_
  refine lv_bipush (v := 40) hx hb dX1_init_5 (by decide) ?_
  refine va_newa (atype := .int) (ty := .int) (N' := 40) (a0 := (40, .inl (fun _ => 0))) hx hb laI rfl hK hP hD hS hA (fun _ => rfl) (by decide) (by decide) (by decide) (by omega) (by omega) dX1_init_7 (fun q7_1 cA H hK9 hP hD hS => ?_)
  exact by
   obtain rfl : cA = k 0 := kz_same hK9 0 rfl
   refine W.widen (k := 1) (n := 40) (by omega) (by omega) ?_
   have hP : va_P D vwCl ([(w, kO 1 [.null, .null, .null, .int 0]), (q7_1, kI k 40 (fun _ => 0))]) H := hP
   have hD : va_D A ([(w, kO 1 [.null, .null, .null, .int 0]), (q7_1, kI k 40 (fun _ => 0))]) := hD
   refine va_putF (D := D) (ci := 1) (v := .ref q7_1) (ty := (.array .int)) (C := RX1) (T := TX1) (N := 4) hx hb hts hi1 tyX1 tyX1_ok nmX1 hown hK hP hD hS 0 rfl rfl 0 (by decide) lf11 (fun _ h9 => h9) rfl hin rfl (by decide +kernel) rfl rfl (Nat.le_of_ble_eq_true rfl) dX1_init_9 (fun H locs hP hD hS => ?_)
   exact by
    have hP : va_P D vwCl ([(w, kO 1 [.ref q7_1, .null, .null, .int 0]), (q7_1, kI k 40 (fun _ => 0))]) H := hP
    have hD : va_D A ([(w, kO 1 [.ref q7_1, .null, .null, .int 0]), (q7_1, kI k 40 (fun _ => 0))]) := hD
    refine lv_aload_n hx hb dX1_init_12 rfl (lv_at hl 0 rfl) ?_
    refine lv_bipush (v := 40) hx hb dX1_init_13 (by decide) ?_
    refine va_newa (atype := .int) (ty := .int) (N' := 40) (a0 := (40, .inl (fun _ => 0))) hx hb laI rfl hK hP hD hS hA (fun _ => rfl) (by decide) (by decide) (by decide) (by omega) (by omega) dX1_init_15 (fun q15_2 cA H hK9 hP hD hS => ?_)
    exact by
     obtain rfl : cA = k 0 := kz_same hK9 0 rfl
     refine W.widen (k := 2) (n := 80) (by omega) (by omega) ?_
     have hP : va_P D vwCl ([(w, kO 1 [.ref q7_1, .null, .null, .int 0]), (q7_1, kI k 40 (fun _ => 0)), (q15_2, kI k 40 (fun _ => 0))]) H := hP
     have hD : va_D A ([(w, kO 1 [.ref q7_1, .null, .null, .int 0]), (q7_1, kI k 40 (fun _ => 0)), (q15_2, kI k 40 (fun _ => 0))]) := hD
     refine va_putF (D := D) (ci := 1) (v := .ref q15_2) (ty := (.array .int)) (C := RX1) (T := TX1) (N := 4) hx hb hts hi1 tyX1 tyX1_ok nmX1 hown hK hP hD hS 0 rfl rfl 1 (by decide) lf15 (fun _ h9 => h9) rfl hin rfl (by decide +kernel) rfl rfl (Nat.le_of_ble_eq_true rfl) dX1_init_17 (fun H locs hP hD hS => ?_)
     exact by
      have hP : va_P D vwCl ([(w, kO 1 [.ref q7_1, .ref q15_2, .null, .int 0]), (q7_1, kI k 40 (fun _ => 0)), (q15_2, kI k 40 (fun _ => 0))]) H := hP
      have hD : va_D A ([(w, kO 1 [.ref q7_1, .ref q15_2, .null, .int 0]), (q7_1, kI k 40 (fun _ => 0)), (q15_2, kI k 40 (fun _ => 0))]) := hD
      refine lv_aload_n hx hb dX1_init_20 rfl (lv_at hl 0 rfl) ?_
      refine lv_bipush (v := 40) hx hb dX1_init_21 (by decide) ?_
      refine va_newa (atype := .int) (ty := .int) (N' := 40) (a0 := (40, .inl (fun _ => 0))) hx hb laI rfl hK hP hD hS hA (fun _ => rfl) (by decide) (by decide) (by decide) (by omega) (by omega) dX1_init_23 (fun q23_3 cA H hK9 hP hD hS => ?_)
      exact by
       obtain rfl : cA = k 0 := kz_same hK9 0 rfl
       refine W.widen (k := 3) (n := 120) (by omega) (by omega) ?_
       have hP : va_P D vwCl ([(w, kO 1 [.ref q7_1, .ref q15_2, .null, .int 0]), (q7_1, kI k 40 (fun _ => 0)), (q15_2, kI k 40 (fun _ => 0)), (q23_3, kI k 40 (fun _ => 0))]) H := hP
       have hD : va_D A ([(w, kO 1 [.ref q7_1, .ref q15_2, .null, .int 0]), (q7_1, kI k 40 (fun _ => 0)), (q15_2, kI k 40 (fun _ => 0)), (q23_3, kI k 40 (fun _ => 0))]) := hD
       refine va_putF (D := D) (ci := 1) (v := .ref q23_3) (ty := (.array .int)) (C := RX1) (T := TX1) (N := 4) hx hb hts hi1 tyX1 tyX1_ok nmX1 hown hK hP hD hS 0 rfl rfl 2 (by decide) lf18 (fun _ h9 => h9) rfl hin rfl (by decide +kernel) rfl rfl (Nat.le_of_ble_eq_true rfl) dX1_init_25 (fun H locs hP hD hS => ?_)
       exact by
        have hP : va_P D vwCl ([(w, kO 1 [.ref q7_1, .ref q15_2, .ref q23_3, .int 0]), (q7_1, kI k 40 (fun _ => 0)), (q15_2, kI k 40 (fun _ => 0)), (q23_3, kI k 40 (fun _ => 0))]) H := hP
        have hD : va_D A ([(w, kO 1 [.ref q7_1, .ref q15_2, .ref q23_3, .int 0]), (q7_1, kI k 40 (fun _ => 0)), (q15_2, kI k 40 (fun _ => 0)), (q23_3, kI k 40 (fun _ => 0))]) := hD
        rw [hQ]
        have hP9 := hP.sub (ws' := [(w, kO 1 [.ref q7_1, .ref q15_2, .ref q23_3, .int 0]), (q7_1, kI k 40 (fun _ => 0)), (q15_2, kI k 40 (fun _ => 0)), (q23_3, kI k 40 (fun _ => 0))]) [0, 1, 2, 3] rfl
        have hD9 := hD.sub (ws' := [(w, kO 1 [.ref q7_1, .ref q15_2, .ref q23_3, .int 0]), (q7_1, kI k 40 (fun _ => 0)), (q15_2, kI k 40 (fun _ => 0)), (q23_3, kI k 40 (fun _ => 0))]) [0, 1, 2, 3] (by decide +kernel) rfl
        exact W.vret hx hb hr (fun zt ht hW => ⟨⟨⟨q7_1, q15_2, q23_3⟩, rfl, trivial, by rw [ht]; exact hP9, hD9⟩, hS.F ht⟩) hS.2.2 dX1_init_28
theorem dX5_init_0 : decode cX5_init 0 = .ok (.aload_n 0, 1) := dk_aload_n_0 (by decide +kernel)
theorem dX5_init_1 : decode cX5_init 1 = .ok (.invokespecial 3, 3) := dk_invokespecial (by decide +kernel)
theorem dX5_init_4 : decode cX5_init 4 = .ok (.aload_n 0, 1) := dk_aload_n_0 (by decide +kernel)
theorem dX5_init_5 : decode cX5_init 5 = .ok (.bipush 8, 2) := dk_bipush (by decide +kernel)
theorem dX5_init_7 : decode cX5_init 7 = .ok (.newarray .int, 2) := by decide +kernel
theorem dX5_init_9 : decode cX5_init 9 = .ok (.putfield 11, 3) := dk_putfield (by decide +kernel)
theorem dX5_init_12 : decode cX5_init 12 = .ok (.aload_n 0, 1) := dk_aload_n_0 (by decide +kernel)
theorem dX5_init_13 : decode cX5_init 13 = .ok (.bipush 8, 2) := dk_bipush (by decide +kernel)
theorem dX5_init_15 : decode cX5_init 15 = .ok (.newarray .int, 2) := by decide +kernel
theorem dX5_init_17 : decode cX5_init 17 = .ok (.putfield 15, 3) := dk_putfield (by decide +kernel)
theorem dX5_init_20 : decode cX5_init 20 = .ok (.aload_n 0, 1) := dk_aload_n_0 (by decide +kernel)
theorem dX5_init_21 : decode cX5_init 21 = .ok (.bipush 8, 2) := dk_bipush (by decide +kernel)
theorem dX5_init_23 : decode cX5_init 23 = .ok (.newarray .boolean, 2) := by decide +kernel
theorem dX5_init_25 : decode cX5_init 25 = .ok (.putfield 18, 3) := dk_putfield (by decide +kernel)
theorem dX5_init_28 : decode cX5_init 28 = .ok (.return_, 1) := dk_return_ (by decide +kernel)
set_option maxHeartbeats 4000000 in
set_option maxRecDepth 100000 in
theorem kX5_init (l : Launch) (D : va_G) (k : Nat → ClassId) (sz : Nat) (w : Nat) : Met l yX5_init wsX5_init ({ frames := 1, cells := 3, slots := 24, locals := 70 }) (va_Pc [.ref w] (kz_Pre D k [(w, kO 5 [.null, .null, .null, .int 0])] sz)) (va_Qv (fun (uu : Nat × Nat × Nat) => True) (fun uu zt => kz_B D (va_A [(w, kO 5 [.null, .null, .null, .int 0])] sz) [(w, kO 5 [.ref uu.1, .ref uu.2.1, .ref uu.2.2, .int 0]), (uu.1, kI k 8 (fun _ => 0)), (uu.2.1, kI k 8 (fun _ => 0)), (uu.2.2, kZ k 8 (fun _ => 0))] zt) (va_A [(w, kO 5 [.null, .null, .null, .int 0])] sz)) 3 24 (va_A [(w, kO 5 [.null, .null, .null, .int 0])] sz) := by
  refine Met.ofW (cc := cX5_init) (maxL := 1) (ret := none) (by decide) rfl ?_
  intro p e s m args below meth c s₁ B hml hv
  obtain ⟨hav, hsz, hP, hK, hD0, hE⟩ := hv
  have hx := B.exec
  have hb := B.bytes
  have hr := B.returns
  have hts := atoms_spec (ws := wsX5_init) B.pre
  have hown : s.vm.findClass RX5 = some m.cls := findClass_of_methodNamed B.named
  have hlocks := B.notSynchronized
  have hin : meth.name = "<init>" := (name_of_methodNamed B.named B.method).1
  have hi5 : ∀ w ∈ u_ws RX5 TX5 4, w ∈ wsX5_init := fun w h9 => List.mem_cons_of_mem _ (List.mem_append_right _ h9)
  have lm3 := hts (.methodLink RX5 3 objectInit) (List.mem_cons_of_mem _ (List.mem_append_left _ (List.mem_of_getElem? (i := 0) rfl)))
  have lio := hts (.instanceMethod objectInit) (List.mem_cons_of_mem _ (List.mem_append_left _ (List.mem_of_getElem? (i := 1) rfl)))
  have lco := hts (.code objectInit ⟨#[0xb1]⟩ 1 none) (List.mem_cons_of_mem _ (List.mem_append_left _ (List.mem_of_getElem? (i := 2) rfl)))
  have laI := hts (.arrayClass .int) (List.mem_cons_of_mem _ (List.mem_append_left _ (List.mem_of_getElem? (i := 3) rfl)))
  have lf11 := hts (.fieldLink RX5 11 "LastCook$Sights" "minutes" "[I") (List.mem_cons_of_mem _ (List.mem_append_left _ (List.mem_of_getElem? (i := 4) rfl)))
  have lf15 := hts (.fieldLink RX5 15 "LastCook$Sights" "yards" "[I") (List.mem_cons_of_mem _ (List.mem_append_left _ (List.mem_of_getElem? (i := 5) rfl)))
  have laZ := hts (.arrayClass .boolean) (List.mem_cons_of_mem _ (List.mem_append_left _ (List.mem_of_getElem? (i := 6) rfl)))
  have lf18 := hts (.fieldLink RX5 18 "LastCook$Sights" "near" "[Z") (List.mem_cons_of_mem _ (List.mem_append_left _ (List.mem_of_getElem? (i := 7) rfl)))
  subst hsz
  have hD := hD0.self (sz := s.heap.size)
  generalize hAe : va_A [(w, kO 5 [.null, .null, .null, .int 0])] s.heap.size = A at hD ⊢
  have hA : ∀ q : Nat, s.heap.size ≤ q → A q := fun q h => by rw [← hAe]; exact Or.inr h
  have hS : va_S A s.heap s.heap [] := va_S.rf
  have hl := lv_entry ([.ref w]) (n := 1) (Nat.le_of_ble_eq_true rfl)
  rw [show entryFrame m args 1 = entryFrame m ([.ref w] : List Value).toArray 1 by rw [hav], lg_entry_eq]
  generalize (lg_sl ([.ref w]) ++ List.replicate (1 - (lg_sl ([.ref w])).length) Slot.unset).toArray = ls at hl ⊢
  have hl : lv_has ls 1 [(0, .ref w)] := hl
  obtain ⟨R, hR⟩ : ∃ R, R = (headSpec wsX5_init ({ frames := 1, cells := 3, slots := 24, locals := 70 } : Room)).room := ⟨_, rfl⟩
  rw [← hR]
  generalize hQ : MQ below _ args s 3 24 A = Q
  replace hQ := hQ.symm
  obtain ⟨H, hH⟩ : ∃ H, H = s.heap := ⟨_, rfl⟩
  rw [← hH] at hP ⊢
  have hS : va_S A s.heap H [] := by rw [hH]; exact hS
  have hRc : R.cells = 3 ∧ R.slots = 24 := by rw [hR]; exact ⟨rfl, rfl⟩
  obtain ⟨hRc, hRs⟩ := hRc
  refine lv_aload_n hx hb dX5_init_0 rfl (lv_at hl 0 rfl) ?_
  refine W.objInit hx hb hown lm3 lio lco rfl (by rw [hml]; exact hl.1) rfl dX5_init_1 (by rw [hR]; exact Nat.le_of_ble_eq_true rfl) (by rw [hR]; exact Nat.le_of_ble_eq_true rfl) ?_
  refine W.eq (g2 := F0 m 4 ls []) rfl ?_
  refine lv_aload_n hx hb dX5_init_4 rfl (lv_at hl 0 rfl) ?_
  refine lv_bipush (v := 8) hx hb dX5_init_5 (by decide) ?_
  refine va_newa (atype := .int) (ty := .int) (N' := 8) (a0 := (8, .inl (fun _ => 0))) hx hb laI rfl hK hP hD hS hA (fun _ => rfl) (by decide) (by decide) (by decide) (by omega) (by omega) dX5_init_7 (fun q7_1 cA H hK9 hP hD hS => ?_)
  exact by
   obtain rfl : cA = k 0 := kz_same hK9 0 rfl
   refine W.widen (k := 1) (n := 8) (by omega) (by omega) ?_
   have hP : va_P D vwCl ([(w, kO 5 [.null, .null, .null, .int 0]), (q7_1, kI k 8 (fun _ => 0))]) H := hP
   have hD : va_D A ([(w, kO 5 [.null, .null, .null, .int 0]), (q7_1, kI k 8 (fun _ => 0))]) := hD
   refine va_putF (D := D) (ci := 5) (v := .ref q7_1) (ty := (.array .int)) (C := RX5) (T := TX5) (N := 4) hx hb hts hi5 tyX5 tyX5_ok nmX5 hown hK hP hD hS 0 rfl rfl 0 (by decide) lf11 (fun _ h9 => h9) rfl hin rfl (by decide +kernel) rfl rfl (Nat.le_of_ble_eq_true rfl) dX5_init_9 (fun H locs hP hD hS => ?_)
   exact by
    have hP : va_P D vwCl ([(w, kO 5 [.ref q7_1, .null, .null, .int 0]), (q7_1, kI k 8 (fun _ => 0))]) H := hP
    have hD : va_D A ([(w, kO 5 [.ref q7_1, .null, .null, .int 0]), (q7_1, kI k 8 (fun _ => 0))]) := hD
    refine lv_aload_n hx hb dX5_init_12 rfl (lv_at hl 0 rfl) ?_
    refine lv_bipush (v := 8) hx hb dX5_init_13 (by decide) ?_
    refine va_newa (atype := .int) (ty := .int) (N' := 8) (a0 := (8, .inl (fun _ => 0))) hx hb laI rfl hK hP hD hS hA (fun _ => rfl) (by decide) (by decide) (by decide) (by omega) (by omega) dX5_init_15 (fun q15_2 cA H hK9 hP hD hS => ?_)
    exact by
     obtain rfl : cA = k 0 := kz_same hK9 0 rfl
     refine W.widen (k := 2) (n := 16) (by omega) (by omega) ?_
     have hP : va_P D vwCl ([(w, kO 5 [.ref q7_1, .null, .null, .int 0]), (q7_1, kI k 8 (fun _ => 0)), (q15_2, kI k 8 (fun _ => 0))]) H := hP
     have hD : va_D A ([(w, kO 5 [.ref q7_1, .null, .null, .int 0]), (q7_1, kI k 8 (fun _ => 0)), (q15_2, kI k 8 (fun _ => 0))]) := hD
     refine va_putF (D := D) (ci := 5) (v := .ref q15_2) (ty := (.array .int)) (C := RX5) (T := TX5) (N := 4) hx hb hts hi5 tyX5 tyX5_ok nmX5 hown hK hP hD hS 0 rfl rfl 1 (by decide) lf15 (fun _ h9 => h9) rfl hin rfl (by decide +kernel) rfl rfl (Nat.le_of_ble_eq_true rfl) dX5_init_17 (fun H locs hP hD hS => ?_)
     exact by
      have hP : va_P D vwCl ([(w, kO 5 [.ref q7_1, .ref q15_2, .null, .int 0]), (q7_1, kI k 8 (fun _ => 0)), (q15_2, kI k 8 (fun _ => 0))]) H := hP
      have hD : va_D A ([(w, kO 5 [.ref q7_1, .ref q15_2, .null, .int 0]), (q7_1, kI k 8 (fun _ => 0)), (q15_2, kI k 8 (fun _ => 0))]) := hD
      refine lv_aload_n hx hb dX5_init_20 rfl (lv_at hl 0 rfl) ?_
      refine lv_bipush (v := 8) hx hb dX5_init_21 (by decide) ?_
      refine va_newa (atype := .boolean) (ty := .boolean) (N' := 8) (a0 := (8, .inl (fun _ => 0))) hx hb laZ rfl hK hP hD hS hA (fun _ => rfl) (by decide) (by decide) (by decide) (by omega) (by omega) dX5_init_23 (fun q23_3 cA H hK9 hP hD hS => ?_)
      exact by
       obtain rfl : cA = k 3 := kz_same hK9 3 rfl
       refine W.widen (k := 3) (n := 24) (by omega) (by omega) ?_
       have hP : va_P D vwCl ([(w, kO 5 [.ref q7_1, .ref q15_2, .null, .int 0]), (q7_1, kI k 8 (fun _ => 0)), (q15_2, kI k 8 (fun _ => 0)), (q23_3, kZ k 8 (fun _ => 0))]) H := hP
       have hD : va_D A ([(w, kO 5 [.ref q7_1, .ref q15_2, .null, .int 0]), (q7_1, kI k 8 (fun _ => 0)), (q15_2, kI k 8 (fun _ => 0)), (q23_3, kZ k 8 (fun _ => 0))]) := hD
       refine va_putF (D := D) (ci := 5) (v := .ref q23_3) (ty := (.array .boolean)) (C := RX5) (T := TX5) (N := 4) hx hb hts hi5 tyX5 tyX5_ok nmX5 hown hK hP hD hS 0 rfl rfl 2 (by decide) lf18 (fun _ h9 => h9) rfl hin rfl (by decide +kernel) rfl rfl (Nat.le_of_ble_eq_true rfl) dX5_init_25 (fun H locs hP hD hS => ?_)
       exact by
        have hP : va_P D vwCl ([(w, kO 5 [.ref q7_1, .ref q15_2, .ref q23_3, .int 0]), (q7_1, kI k 8 (fun _ => 0)), (q15_2, kI k 8 (fun _ => 0)), (q23_3, kZ k 8 (fun _ => 0))]) H := hP
        have hD : va_D A ([(w, kO 5 [.ref q7_1, .ref q15_2, .ref q23_3, .int 0]), (q7_1, kI k 8 (fun _ => 0)), (q15_2, kI k 8 (fun _ => 0)), (q23_3, kZ k 8 (fun _ => 0))]) := hD
        rw [hQ]
        have hP9 := hP.sub (ws' := [(w, kO 5 [.ref q7_1, .ref q15_2, .ref q23_3, .int 0]), (q7_1, kI k 8 (fun _ => 0)), (q15_2, kI k 8 (fun _ => 0)), (q23_3, kZ k 8 (fun _ => 0))]) [0, 1, 2, 3] rfl
        have hD9 := hD.sub (ws' := [(w, kO 5 [.ref q7_1, .ref q15_2, .ref q23_3, .int 0]), (q7_1, kI k 8 (fun _ => 0)), (q15_2, kI k 8 (fun _ => 0)), (q23_3, kZ k 8 (fun _ => 0))]) [0, 1, 2, 3] (by decide +kernel) rfl
        exact W.vret hx hb hr (fun zt ht hW => ⟨⟨⟨q7_1, q15_2, q23_3⟩, rfl, trivial, by rw [ht]; exact hP9, hD9⟩, hS.F ht⟩) hS.2.2 dX5_init_28
theorem dX4_init_0 : decode cX4_init 0 = .ok (.aload_n 0, 1) := dk_aload_n_0 (by decide +kernel)
theorem dX4_init_1 : decode cX4_init 1 = .ok (.invokespecial 3, 3) := dk_invokespecial (by decide +kernel)
theorem dX4_init_4 : decode cX4_init 4 = .ok (.aload_n 0, 1) := dk_aload_n_0 (by decide +kernel)
theorem dX4_init_5 : decode cX4_init 5 = .ok (.bipush 6, 2) := dk_bipush (by decide +kernel)
theorem dX4_init_7 : decode cX4_init 7 = .ok (.newarray .int, 2) := by decide +kernel
theorem dX4_init_9 : decode cX4_init 9 = .ok (.putfield 9, 3) := dk_putfield (by decide +kernel)
theorem dX4_init_12 : decode cX4_init 12 = .ok (.aload_n 0, 1) := dk_aload_n_0 (by decide +kernel)
theorem dX4_init_13 : decode cX4_init 13 = .ok (.bipush 6, 2) := dk_bipush (by decide +kernel)
theorem dX4_init_15 : decode cX4_init 15 = .ok (.newarray .int, 2) := by decide +kernel
theorem dX4_init_17 : decode cX4_init 17 = .ok (.putfield 15, 3) := dk_putfield (by decide +kernel)
theorem dX4_init_20 : decode cX4_init 20 = .ok (.aload_n 0, 1) := dk_aload_n_0 (by decide +kernel)
theorem dX4_init_21 : decode cX4_init 21 = .ok (.bipush 6, 2) := dk_bipush (by decide +kernel)
theorem dX4_init_23 : decode cX4_init 23 = .ok (.newarray .int, 2) := by decide +kernel
theorem dX4_init_25 : decode cX4_init 25 = .ok (.putfield 18, 3) := dk_putfield (by decide +kernel)
theorem dX4_init_28 : decode cX4_init 28 = .ok (.aload_n 0, 1) := dk_aload_n_0 (by decide +kernel)
theorem dX4_init_29 : decode cX4_init 29 = .ok (.bipush 6, 2) := dk_bipush (by decide +kernel)
theorem dX4_init_31 : decode cX4_init 31 = .ok (.newarray .int, 2) := by decide +kernel
theorem dX4_init_33 : decode cX4_init 33 = .ok (.putfield 21, 3) := dk_putfield (by decide +kernel)
theorem dX4_init_36 : decode cX4_init 36 = .ok (.aload_n 0, 1) := dk_aload_n_0 (by decide +kernel)
theorem dX4_init_37 : decode cX4_init 37 = .ok (.bipush 6, 2) := dk_bipush (by decide +kernel)
theorem dX4_init_39 : decode cX4_init 39 = .ok (.newarray .int, 2) := by decide +kernel
theorem dX4_init_41 : decode cX4_init 41 = .ok (.putfield 24, 3) := dk_putfield (by decide +kernel)
theorem dX4_init_44 : decode cX4_init 44 = .ok (.aload_n 0, 1) := dk_aload_n_0 (by decide +kernel)
theorem dX4_init_45 : decode cX4_init 45 = .ok (.bipush 6, 2) := dk_bipush (by decide +kernel)
theorem dX4_init_47 : decode cX4_init 47 = .ok (.newarray .int, 2) := by decide +kernel
theorem dX4_init_49 : decode cX4_init 49 = .ok (.putfield 27, 3) := dk_putfield (by decide +kernel)
theorem dX4_init_52 : decode cX4_init 52 = .ok (.aload_n 0, 1) := dk_aload_n_0 (by decide +kernel)
theorem dX4_init_53 : decode cX4_init 53 = .ok (.bipush 6, 2) := dk_bipush (by decide +kernel)
theorem dX4_init_55 : decode cX4_init 55 = .ok (.newarray .int, 2) := by decide +kernel
theorem dX4_init_57 : decode cX4_init 57 = .ok (.putfield 30, 3) := dk_putfield (by decide +kernel)
theorem dX4_init_60 : decode cX4_init 60 = .ok (.aload_n 0, 1) := dk_aload_n_0 (by decide +kernel)
theorem dX4_init_61 : decode cX4_init 61 = .ok (.iconst (-1), 1) := dk_iconst_m1 (by decide +kernel)
theorem dX4_init_62 : decode cX4_init 62 = .ok (.putfield 33, 3) := dk_putfield (by decide +kernel)
theorem dX4_init_65 : decode cX4_init 65 = .ok (.return_, 1) := dk_return_ (by decide +kernel)
set_option maxHeartbeats 4000000 in
set_option maxRecDepth 100000 in
theorem kX4_init (l : Launch) (D : va_G) (k : Nat → ClassId) (sz : Nat) (w : Nat) : Met l yX4_init wsX4_init ({ frames := 1, cells := 7, slots := 42, locals := 70 }) (va_Pc [.ref w] (kz_Pre D k [(w, kO 4 [.null, .null, .null, .null, .null, .null, .null, .int 0, .int 0, .int 0, .int 0, .int 0, .int 0])] sz)) (va_Qv (fun (uu : Nat × Nat × Nat × Nat × Nat × Nat × Nat) => True) (fun uu zt => kz_B D (va_A [(w, kO 4 [.null, .null, .null, .null, .null, .null, .null, .int 0, .int 0, .int 0, .int 0, .int 0, .int 0])] sz) [(w, kO 4 [.ref uu.1, .ref uu.2.1, .ref uu.2.2.1, .ref uu.2.2.2.1, .ref uu.2.2.2.2.1, .ref uu.2.2.2.2.2.1, .ref uu.2.2.2.2.2.2, .int 0, .int 0, .int 0, .int 0, .int (-1), .int 0]), (uu.1, kI k 6 (fun _ => 0)), (uu.2.1, kI k 6 (fun _ => 0)), (uu.2.2.1, kI k 6 (fun _ => 0)), (uu.2.2.2.1, kI k 6 (fun _ => 0)), (uu.2.2.2.2.1, kI k 6 (fun _ => 0)), (uu.2.2.2.2.2.1, kI k 6 (fun _ => 0)), (uu.2.2.2.2.2.2, kI k 6 (fun _ => 0))] zt) (va_A [(w, kO 4 [.null, .null, .null, .null, .null, .null, .null, .int 0, .int 0, .int 0, .int 0, .int 0, .int 0])] sz)) 7 42 (va_A [(w, kO 4 [.null, .null, .null, .null, .null, .null, .null, .int 0, .int 0, .int 0, .int 0, .int 0, .int 0])] sz) := by
  refine Met.ofW (cc := cX4_init) (maxL := 1) (ret := none) (by decide) rfl ?_
  intro p e s m args below meth c s₁ B hml hv
  obtain ⟨hav, hsz, hP, hK, hD0, hE⟩ := hv
  have hx := B.exec
  have hb := B.bytes
  have hr := B.returns
  have hts := atoms_spec (ws := wsX4_init) B.pre
  have hown : s.vm.findClass RX4 = some m.cls := findClass_of_methodNamed B.named
  have hlocks := B.notSynchronized
  have hin : meth.name = "<init>" := (name_of_methodNamed B.named B.method).1
  have hi4 : ∀ w ∈ u_ws RX4 TX4 13, w ∈ wsX4_init := fun w h9 => List.mem_cons_of_mem _ (List.mem_append_right _ h9)
  have lm3 := hts (.methodLink RX4 3 objectInit) (List.mem_cons_of_mem _ (List.mem_append_left _ (List.mem_of_getElem? (i := 0) rfl)))
  have lio := hts (.instanceMethod objectInit) (List.mem_cons_of_mem _ (List.mem_append_left _ (List.mem_of_getElem? (i := 1) rfl)))
  have lco := hts (.code objectInit ⟨#[0xb1]⟩ 1 none) (List.mem_cons_of_mem _ (List.mem_append_left _ (List.mem_of_getElem? (i := 2) rfl)))
  have laI := hts (.arrayClass .int) (List.mem_cons_of_mem _ (List.mem_append_left _ (List.mem_of_getElem? (i := 3) rfl)))
  have lf9 := hts (.fieldLink RX4 9 "LastCook$Road" "yards" "[I") (List.mem_cons_of_mem _ (List.mem_append_left _ (List.mem_of_getElem? (i := 4) rfl)))
  have lf15 := hts (.fieldLink RX4 15 "LastCook$Road" "paces" "[I") (List.mem_cons_of_mem _ (List.mem_append_left _ (List.mem_of_getElem? (i := 5) rfl)))
  have lf18 := hts (.fieldLink RX4 18 "LastCook$Road" "stuck" "[I") (List.mem_cons_of_mem _ (List.mem_append_left _ (List.mem_of_getElem? (i := 6) rfl)))
  have lf21 := hts (.fieldLink RX4 21 "LastCook$Road" "hirers" "[I") (List.mem_cons_of_mem _ (List.mem_append_left _ (List.mem_of_getElem? (i := 7) rfl)))
  have lf24 := hts (.fieldLink RX4 24 "LastCook$Road" "places" "[I") (List.mem_cons_of_mem _ (List.mem_append_left _ (List.mem_of_getElem? (i := 8) rfl)))
  have lf27 := hts (.fieldLink RX4 27 "LastCook$Road" "cameAt" "[I") (List.mem_cons_of_mem _ (List.mem_append_left _ (List.mem_of_getElem? (i := 9) rfl)))
  have lf30 := hts (.fieldLink RX4 30 "LastCook$Road" "cooked" "[I") (List.mem_cons_of_mem _ (List.mem_append_left _ (List.mem_of_getElem? (i := 10) rfl)))
  have lf33 := hts (.fieldLink RX4 33 "LastCook$Road" "lastCook" "I") (List.mem_cons_of_mem _ (List.mem_append_left _ (List.mem_of_getElem? (i := 11) rfl)))
  subst hsz
  have hD := hD0.self (sz := s.heap.size)
  generalize hAe : va_A [(w, kO 4 [.null, .null, .null, .null, .null, .null, .null, .int 0, .int 0, .int 0, .int 0, .int 0, .int 0])] s.heap.size = A at hD ⊢
  have hA : ∀ q : Nat, s.heap.size ≤ q → A q := fun q h => by rw [← hAe]; exact Or.inr h
  have hS : va_S A s.heap s.heap [] := va_S.rf
  have hl := lv_entry ([.ref w]) (n := 1) (Nat.le_of_ble_eq_true rfl)
  rw [show entryFrame m args 1 = entryFrame m ([.ref w] : List Value).toArray 1 by rw [hav], lg_entry_eq]
  generalize (lg_sl ([.ref w]) ++ List.replicate (1 - (lg_sl ([.ref w])).length) Slot.unset).toArray = ls at hl ⊢
  have hl : lv_has ls 1 [(0, .ref w)] := hl
  obtain ⟨R, hR⟩ : ∃ R, R = (headSpec wsX4_init ({ frames := 1, cells := 7, slots := 42, locals := 70 } : Room)).room := ⟨_, rfl⟩
  rw [← hR]
  generalize hQ : MQ below _ args s 7 42 A = Q
  replace hQ := hQ.symm
  obtain ⟨H, hH⟩ : ∃ H, H = s.heap := ⟨_, rfl⟩
  rw [← hH] at hP ⊢
  have hS : va_S A s.heap H [] := by rw [hH]; exact hS
  have hRc : R.cells = 7 ∧ R.slots = 42 := by rw [hR]; exact ⟨rfl, rfl⟩
  obtain ⟨hRc, hRs⟩ := hRc
  refine lv_aload_n hx hb dX4_init_0 rfl (lv_at hl 0 rfl) ?_
  refine W.objInit hx hb hown lm3 lio lco rfl (by rw [hml]; exact hl.1) rfl dX4_init_1 (by rw [hR]; exact Nat.le_of_ble_eq_true rfl) (by rw [hR]; exact Nat.le_of_ble_eq_true rfl) ?_
  refine W.eq (g2 := F0 m 4 ls []) rfl ?_
  refine lv_aload_n hx hb dX4_init_4 rfl (lv_at hl 0 rfl) ?_
  refine lv_bipush (v := 6) hx hb dX4_init_5 (by decide) ?_
  refine va_newa (atype := .int) (ty := .int) (N' := 6) (a0 := (6, .inl (fun _ => 0))) hx hb laI rfl hK hP hD hS hA (fun _ => rfl) (by decide) (by decide) (by decide) (by omega) (by omega) dX4_init_7 (fun q7_1 cA H hK9 hP hD hS => ?_)
  exact by
   obtain rfl : cA = k 0 := kz_same hK9 0 rfl
   refine W.widen (k := 1) (n := 6) (by omega) (by omega) ?_
   have hP : va_P D vwCl ([(w, kO 4 [.null, .null, .null, .null, .null, .null, .null, .int 0, .int 0, .int 0, .int 0, .int 0, .int 0]), (q7_1, kI k 6 (fun _ => 0))]) H := hP
   have hD : va_D A ([(w, kO 4 [.null, .null, .null, .null, .null, .null, .null, .int 0, .int 0, .int 0, .int 0, .int 0, .int 0]), (q7_1, kI k 6 (fun _ => 0))]) := hD
   refine va_putF (D := D) (ci := 4) (v := .ref q7_1) (ty := (.array .int)) (C := RX4) (T := TX4) (N := 13) hx hb hts hi4 tyX4 tyX4_ok nmX4 hown hK hP hD hS 0 rfl rfl 0 (by decide) lf9 (fun _ h9 => h9) rfl hin rfl (by decide +kernel) rfl rfl (Nat.le_of_ble_eq_true rfl) dX4_init_9 (fun H locs hP hD hS => ?_)
   exact by
    have hP : va_P D vwCl ([(w, kO 4 [.ref q7_1, .null, .null, .null, .null, .null, .null, .int 0, .int 0, .int 0, .int 0, .int 0, .int 0]), (q7_1, kI k 6 (fun _ => 0))]) H := hP
    have hD : va_D A ([(w, kO 4 [.ref q7_1, .null, .null, .null, .null, .null, .null, .int 0, .int 0, .int 0, .int 0, .int 0, .int 0]), (q7_1, kI k 6 (fun _ => 0))]) := hD
    refine lv_aload_n hx hb dX4_init_12 rfl (lv_at hl 0 rfl) ?_
    refine lv_bipush (v := 6) hx hb dX4_init_13 (by decide) ?_
    refine va_newa (atype := .int) (ty := .int) (N' := 6) (a0 := (6, .inl (fun _ => 0))) hx hb laI rfl hK hP hD hS hA (fun _ => rfl) (by decide) (by decide) (by decide) (by omega) (by omega) dX4_init_15 (fun q15_2 cA H hK9 hP hD hS => ?_)
    exact by
     obtain rfl : cA = k 0 := kz_same hK9 0 rfl
     refine W.widen (k := 2) (n := 12) (by omega) (by omega) ?_
     have hP : va_P D vwCl ([(w, kO 4 [.ref q7_1, .null, .null, .null, .null, .null, .null, .int 0, .int 0, .int 0, .int 0, .int 0, .int 0]), (q7_1, kI k 6 (fun _ => 0)), (q15_2, kI k 6 (fun _ => 0))]) H := hP
     have hD : va_D A ([(w, kO 4 [.ref q7_1, .null, .null, .null, .null, .null, .null, .int 0, .int 0, .int 0, .int 0, .int 0, .int 0]), (q7_1, kI k 6 (fun _ => 0)), (q15_2, kI k 6 (fun _ => 0))]) := hD
     refine va_putF (D := D) (ci := 4) (v := .ref q15_2) (ty := (.array .int)) (C := RX4) (T := TX4) (N := 13) hx hb hts hi4 tyX4 tyX4_ok nmX4 hown hK hP hD hS 0 rfl rfl 1 (by decide) lf15 (fun _ h9 => h9) rfl hin rfl (by decide +kernel) rfl rfl (Nat.le_of_ble_eq_true rfl) dX4_init_17 (fun H locs hP hD hS => ?_)
     exact by
      have hP : va_P D vwCl ([(w, kO 4 [.ref q7_1, .ref q15_2, .null, .null, .null, .null, .null, .int 0, .int 0, .int 0, .int 0, .int 0, .int 0]), (q7_1, kI k 6 (fun _ => 0)), (q15_2, kI k 6 (fun _ => 0))]) H := hP
      have hD : va_D A ([(w, kO 4 [.ref q7_1, .ref q15_2, .null, .null, .null, .null, .null, .int 0, .int 0, .int 0, .int 0, .int 0, .int 0]), (q7_1, kI k 6 (fun _ => 0)), (q15_2, kI k 6 (fun _ => 0))]) := hD
      refine lv_aload_n hx hb dX4_init_20 rfl (lv_at hl 0 rfl) ?_
      refine lv_bipush (v := 6) hx hb dX4_init_21 (by decide) ?_
      refine va_newa (atype := .int) (ty := .int) (N' := 6) (a0 := (6, .inl (fun _ => 0))) hx hb laI rfl hK hP hD hS hA (fun _ => rfl) (by decide) (by decide) (by decide) (by omega) (by omega) dX4_init_23 (fun q23_3 cA H hK9 hP hD hS => ?_)
      exact by
       obtain rfl : cA = k 0 := kz_same hK9 0 rfl
       refine W.widen (k := 3) (n := 18) (by omega) (by omega) ?_
       have hP : va_P D vwCl ([(w, kO 4 [.ref q7_1, .ref q15_2, .null, .null, .null, .null, .null, .int 0, .int 0, .int 0, .int 0, .int 0, .int 0]), (q7_1, kI k 6 (fun _ => 0)), (q15_2, kI k 6 (fun _ => 0)), (q23_3, kI k 6 (fun _ => 0))]) H := hP
       have hD : va_D A ([(w, kO 4 [.ref q7_1, .ref q15_2, .null, .null, .null, .null, .null, .int 0, .int 0, .int 0, .int 0, .int 0, .int 0]), (q7_1, kI k 6 (fun _ => 0)), (q15_2, kI k 6 (fun _ => 0)), (q23_3, kI k 6 (fun _ => 0))]) := hD
       refine va_putF (D := D) (ci := 4) (v := .ref q23_3) (ty := (.array .int)) (C := RX4) (T := TX4) (N := 13) hx hb hts hi4 tyX4 tyX4_ok nmX4 hown hK hP hD hS 0 rfl rfl 2 (by decide) lf18 (fun _ h9 => h9) rfl hin rfl (by decide +kernel) rfl rfl (Nat.le_of_ble_eq_true rfl) dX4_init_25 (fun H locs hP hD hS => ?_)
       exact by
        have hP : va_P D vwCl ([(w, kO 4 [.ref q7_1, .ref q15_2, .ref q23_3, .null, .null, .null, .null, .int 0, .int 0, .int 0, .int 0, .int 0, .int 0]), (q7_1, kI k 6 (fun _ => 0)), (q15_2, kI k 6 (fun _ => 0)), (q23_3, kI k 6 (fun _ => 0))]) H := hP
        have hD : va_D A ([(w, kO 4 [.ref q7_1, .ref q15_2, .ref q23_3, .null, .null, .null, .null, .int 0, .int 0, .int 0, .int 0, .int 0, .int 0]), (q7_1, kI k 6 (fun _ => 0)), (q15_2, kI k 6 (fun _ => 0)), (q23_3, kI k 6 (fun _ => 0))]) := hD
        refine lv_aload_n hx hb dX4_init_28 rfl (lv_at hl 0 rfl) ?_
        refine lv_bipush (v := 6) hx hb dX4_init_29 (by decide) ?_
        refine va_newa (atype := .int) (ty := .int) (N' := 6) (a0 := (6, .inl (fun _ => 0))) hx hb laI rfl hK hP hD hS hA (fun _ => rfl) (by decide) (by decide) (by decide) (by omega) (by omega) dX4_init_31 (fun q31_4 cA H hK9 hP hD hS => ?_)
        exact by
         obtain rfl : cA = k 0 := kz_same hK9 0 rfl
         refine W.widen (k := 4) (n := 24) (by omega) (by omega) ?_
         have hP : va_P D vwCl ([(w, kO 4 [.ref q7_1, .ref q15_2, .ref q23_3, .null, .null, .null, .null, .int 0, .int 0, .int 0, .int 0, .int 0, .int 0]), (q7_1, kI k 6 (fun _ => 0)), (q15_2, kI k 6 (fun _ => 0)), (q23_3, kI k 6 (fun _ => 0)), (q31_4, kI k 6 (fun _ => 0))]) H := hP
         have hD : va_D A ([(w, kO 4 [.ref q7_1, .ref q15_2, .ref q23_3, .null, .null, .null, .null, .int 0, .int 0, .int 0, .int 0, .int 0, .int 0]), (q7_1, kI k 6 (fun _ => 0)), (q15_2, kI k 6 (fun _ => 0)), (q23_3, kI k 6 (fun _ => 0)), (q31_4, kI k 6 (fun _ => 0))]) := hD
         refine va_putF (D := D) (ci := 4) (v := .ref q31_4) (ty := (.array .int)) (C := RX4) (T := TX4) (N := 13) hx hb hts hi4 tyX4 tyX4_ok nmX4 hown hK hP hD hS 0 rfl rfl 3 (by decide) lf21 (fun _ h9 => h9) rfl hin rfl (by decide +kernel) rfl rfl (Nat.le_of_ble_eq_true rfl) dX4_init_33 (fun H locs hP hD hS => ?_)
         exact by
          have hP : va_P D vwCl ([(w, kO 4 [.ref q7_1, .ref q15_2, .ref q23_3, .ref q31_4, .null, .null, .null, .int 0, .int 0, .int 0, .int 0, .int 0, .int 0]), (q7_1, kI k 6 (fun _ => 0)), (q15_2, kI k 6 (fun _ => 0)), (q23_3, kI k 6 (fun _ => 0)), (q31_4, kI k 6 (fun _ => 0))]) H := hP
          have hD : va_D A ([(w, kO 4 [.ref q7_1, .ref q15_2, .ref q23_3, .ref q31_4, .null, .null, .null, .int 0, .int 0, .int 0, .int 0, .int 0, .int 0]), (q7_1, kI k 6 (fun _ => 0)), (q15_2, kI k 6 (fun _ => 0)), (q23_3, kI k 6 (fun _ => 0)), (q31_4, kI k 6 (fun _ => 0))]) := hD
          refine lv_aload_n hx hb dX4_init_36 rfl (lv_at hl 0 rfl) ?_
          refine lv_bipush (v := 6) hx hb dX4_init_37 (by decide) ?_
          refine va_newa (atype := .int) (ty := .int) (N' := 6) (a0 := (6, .inl (fun _ => 0))) hx hb laI rfl hK hP hD hS hA (fun _ => rfl) (by decide) (by decide) (by decide) (by omega) (by omega) dX4_init_39 (fun q39_5 cA H hK9 hP hD hS => ?_)
          exact by
           obtain rfl : cA = k 0 := kz_same hK9 0 rfl
           refine W.widen (k := 5) (n := 30) (by omega) (by omega) ?_
           have hP : va_P D vwCl ([(w, kO 4 [.ref q7_1, .ref q15_2, .ref q23_3, .ref q31_4, .null, .null, .null, .int 0, .int 0, .int 0, .int 0, .int 0, .int 0]), (q7_1, kI k 6 (fun _ => 0)), (q15_2, kI k 6 (fun _ => 0)), (q23_3, kI k 6 (fun _ => 0)), (q31_4, kI k 6 (fun _ => 0)), (q39_5, kI k 6 (fun _ => 0))]) H := hP
           have hD : va_D A ([(w, kO 4 [.ref q7_1, .ref q15_2, .ref q23_3, .ref q31_4, .null, .null, .null, .int 0, .int 0, .int 0, .int 0, .int 0, .int 0]), (q7_1, kI k 6 (fun _ => 0)), (q15_2, kI k 6 (fun _ => 0)), (q23_3, kI k 6 (fun _ => 0)), (q31_4, kI k 6 (fun _ => 0)), (q39_5, kI k 6 (fun _ => 0))]) := hD
           refine va_putF (D := D) (ci := 4) (v := .ref q39_5) (ty := (.array .int)) (C := RX4) (T := TX4) (N := 13) hx hb hts hi4 tyX4 tyX4_ok nmX4 hown hK hP hD hS 0 rfl rfl 4 (by decide) lf24 (fun _ h9 => h9) rfl hin rfl (by decide +kernel) rfl rfl (Nat.le_of_ble_eq_true rfl) dX4_init_41 (fun H locs hP hD hS => ?_)
           exact by
            have hP : va_P D vwCl ([(w, kO 4 [.ref q7_1, .ref q15_2, .ref q23_3, .ref q31_4, .ref q39_5, .null, .null, .int 0, .int 0, .int 0, .int 0, .int 0, .int 0]), (q7_1, kI k 6 (fun _ => 0)), (q15_2, kI k 6 (fun _ => 0)), (q23_3, kI k 6 (fun _ => 0)), (q31_4, kI k 6 (fun _ => 0)), (q39_5, kI k 6 (fun _ => 0))]) H := hP
            have hD : va_D A ([(w, kO 4 [.ref q7_1, .ref q15_2, .ref q23_3, .ref q31_4, .ref q39_5, .null, .null, .int 0, .int 0, .int 0, .int 0, .int 0, .int 0]), (q7_1, kI k 6 (fun _ => 0)), (q15_2, kI k 6 (fun _ => 0)), (q23_3, kI k 6 (fun _ => 0)), (q31_4, kI k 6 (fun _ => 0)), (q39_5, kI k 6 (fun _ => 0))]) := hD
            refine lv_aload_n hx hb dX4_init_44 rfl (lv_at hl 0 rfl) ?_
            refine lv_bipush (v := 6) hx hb dX4_init_45 (by decide) ?_
            refine va_newa (atype := .int) (ty := .int) (N' := 6) (a0 := (6, .inl (fun _ => 0))) hx hb laI rfl hK hP hD hS hA (fun _ => rfl) (by decide) (by decide) (by decide) (by omega) (by omega) dX4_init_47 (fun q47_6 cA H hK9 hP hD hS => ?_)
            exact by
             obtain rfl : cA = k 0 := kz_same hK9 0 rfl
             refine W.widen (k := 6) (n := 36) (by omega) (by omega) ?_
             have hP : va_P D vwCl ([(w, kO 4 [.ref q7_1, .ref q15_2, .ref q23_3, .ref q31_4, .ref q39_5, .null, .null, .int 0, .int 0, .int 0, .int 0, .int 0, .int 0]), (q7_1, kI k 6 (fun _ => 0)), (q15_2, kI k 6 (fun _ => 0)), (q23_3, kI k 6 (fun _ => 0)), (q31_4, kI k 6 (fun _ => 0)), (q39_5, kI k 6 (fun _ => 0)), (q47_6, kI k 6 (fun _ => 0))]) H := hP
             have hD : va_D A ([(w, kO 4 [.ref q7_1, .ref q15_2, .ref q23_3, .ref q31_4, .ref q39_5, .null, .null, .int 0, .int 0, .int 0, .int 0, .int 0, .int 0]), (q7_1, kI k 6 (fun _ => 0)), (q15_2, kI k 6 (fun _ => 0)), (q23_3, kI k 6 (fun _ => 0)), (q31_4, kI k 6 (fun _ => 0)), (q39_5, kI k 6 (fun _ => 0)), (q47_6, kI k 6 (fun _ => 0))]) := hD
             refine va_putF (D := D) (ci := 4) (v := .ref q47_6) (ty := (.array .int)) (C := RX4) (T := TX4) (N := 13) hx hb hts hi4 tyX4 tyX4_ok nmX4 hown hK hP hD hS 0 rfl rfl 5 (by decide) lf27 (fun _ h9 => h9) rfl hin rfl (by decide +kernel) rfl rfl (Nat.le_of_ble_eq_true rfl) dX4_init_49 (fun H locs hP hD hS => ?_)
             exact by
              have hP : va_P D vwCl ([(w, kO 4 [.ref q7_1, .ref q15_2, .ref q23_3, .ref q31_4, .ref q39_5, .ref q47_6, .null, .int 0, .int 0, .int 0, .int 0, .int 0, .int 0]), (q7_1, kI k 6 (fun _ => 0)), (q15_2, kI k 6 (fun _ => 0)), (q23_3, kI k 6 (fun _ => 0)), (q31_4, kI k 6 (fun _ => 0)), (q39_5, kI k 6 (fun _ => 0)), (q47_6, kI k 6 (fun _ => 0))]) H := hP
              have hD : va_D A ([(w, kO 4 [.ref q7_1, .ref q15_2, .ref q23_3, .ref q31_4, .ref q39_5, .ref q47_6, .null, .int 0, .int 0, .int 0, .int 0, .int 0, .int 0]), (q7_1, kI k 6 (fun _ => 0)), (q15_2, kI k 6 (fun _ => 0)), (q23_3, kI k 6 (fun _ => 0)), (q31_4, kI k 6 (fun _ => 0)), (q39_5, kI k 6 (fun _ => 0)), (q47_6, kI k 6 (fun _ => 0))]) := hD
              refine lv_aload_n hx hb dX4_init_52 rfl (lv_at hl 0 rfl) ?_
              refine lv_bipush (v := 6) hx hb dX4_init_53 (by decide) ?_
              refine va_newa (atype := .int) (ty := .int) (N' := 6) (a0 := (6, .inl (fun _ => 0))) hx hb laI rfl hK hP hD hS hA (fun _ => rfl) (by decide) (by decide) (by decide) (by omega) (by omega) dX4_init_55 (fun q55_7 cA H hK9 hP hD hS => ?_)
              exact by
               obtain rfl : cA = k 0 := kz_same hK9 0 rfl
               refine W.widen (k := 7) (n := 42) (by omega) (by omega) ?_
               have hP : va_P D vwCl ([(w, kO 4 [.ref q7_1, .ref q15_2, .ref q23_3, .ref q31_4, .ref q39_5, .ref q47_6, .null, .int 0, .int 0, .int 0, .int 0, .int 0, .int 0]), (q7_1, kI k 6 (fun _ => 0)), (q15_2, kI k 6 (fun _ => 0)), (q23_3, kI k 6 (fun _ => 0)), (q31_4, kI k 6 (fun _ => 0)), (q39_5, kI k 6 (fun _ => 0)), (q47_6, kI k 6 (fun _ => 0)), (q55_7, kI k 6 (fun _ => 0))]) H := hP
               have hD : va_D A ([(w, kO 4 [.ref q7_1, .ref q15_2, .ref q23_3, .ref q31_4, .ref q39_5, .ref q47_6, .null, .int 0, .int 0, .int 0, .int 0, .int 0, .int 0]), (q7_1, kI k 6 (fun _ => 0)), (q15_2, kI k 6 (fun _ => 0)), (q23_3, kI k 6 (fun _ => 0)), (q31_4, kI k 6 (fun _ => 0)), (q39_5, kI k 6 (fun _ => 0)), (q47_6, kI k 6 (fun _ => 0)), (q55_7, kI k 6 (fun _ => 0))]) := hD
               refine va_putF (D := D) (ci := 4) (v := .ref q55_7) (ty := (.array .int)) (C := RX4) (T := TX4) (N := 13) hx hb hts hi4 tyX4 tyX4_ok nmX4 hown hK hP hD hS 0 rfl rfl 6 (by decide) lf30 (fun _ h9 => h9) rfl hin rfl (by decide +kernel) rfl rfl (Nat.le_of_ble_eq_true rfl) dX4_init_57 (fun H locs hP hD hS => ?_)
               exact by
                have hP : va_P D vwCl ([(w, kO 4 [.ref q7_1, .ref q15_2, .ref q23_3, .ref q31_4, .ref q39_5, .ref q47_6, .ref q55_7, .int 0, .int 0, .int 0, .int 0, .int 0, .int 0]), (q7_1, kI k 6 (fun _ => 0)), (q15_2, kI k 6 (fun _ => 0)), (q23_3, kI k 6 (fun _ => 0)), (q31_4, kI k 6 (fun _ => 0)), (q39_5, kI k 6 (fun _ => 0)), (q47_6, kI k 6 (fun _ => 0)), (q55_7, kI k 6 (fun _ => 0))]) H := hP
                have hD : va_D A ([(w, kO 4 [.ref q7_1, .ref q15_2, .ref q23_3, .ref q31_4, .ref q39_5, .ref q47_6, .ref q55_7, .int 0, .int 0, .int 0, .int 0, .int 0, .int 0]), (q7_1, kI k 6 (fun _ => 0)), (q15_2, kI k 6 (fun _ => 0)), (q23_3, kI k 6 (fun _ => 0)), (q31_4, kI k 6 (fun _ => 0)), (q39_5, kI k 6 (fun _ => 0)), (q47_6, kI k 6 (fun _ => 0)), (q55_7, kI k 6 (fun _ => 0))]) := hD
                refine lv_aload_n hx hb dX4_init_60 rfl (lv_at hl 0 rfl) ?_
                refine lv_iconst (v := (-1)) hx hb dX4_init_61 (by decide) ?_
                refine va_put (D := D) (ci := 4) (v := .int (-1)) (ty := .int) (C := RX4) (T := TX4) (N := 13) hx hb hts hi4 tyX4 tyX4_ok nmX4 hown hK hP hD hS 0 rfl rfl 11 (by decide) lf33 (fun _ h9 => h9) rfl (by decide +kernel) rfl rfl (Nat.le_of_ble_eq_true rfl) dX4_init_62 (fun H locs hP hD hS => ?_)
                exact by
                 have hP : va_P D vwCl ([(w, kO 4 [.ref q7_1, .ref q15_2, .ref q23_3, .ref q31_4, .ref q39_5, .ref q47_6, .ref q55_7, .int 0, .int 0, .int 0, .int 0, .int (-1), .int 0]), (q7_1, kI k 6 (fun _ => 0)), (q15_2, kI k 6 (fun _ => 0)), (q23_3, kI k 6 (fun _ => 0)), (q31_4, kI k 6 (fun _ => 0)), (q39_5, kI k 6 (fun _ => 0)), (q47_6, kI k 6 (fun _ => 0)), (q55_7, kI k 6 (fun _ => 0))]) H := hP
                 have hD : va_D A ([(w, kO 4 [.ref q7_1, .ref q15_2, .ref q23_3, .ref q31_4, .ref q39_5, .ref q47_6, .ref q55_7, .int 0, .int 0, .int 0, .int 0, .int (-1), .int 0]), (q7_1, kI k 6 (fun _ => 0)), (q15_2, kI k 6 (fun _ => 0)), (q23_3, kI k 6 (fun _ => 0)), (q31_4, kI k 6 (fun _ => 0)), (q39_5, kI k 6 (fun _ => 0)), (q47_6, kI k 6 (fun _ => 0)), (q55_7, kI k 6 (fun _ => 0))]) := hD
                 rw [hQ]
                 have hP9 := hP.sub (ws' := [(w, kO 4 [.ref q7_1, .ref q15_2, .ref q23_3, .ref q31_4, .ref q39_5, .ref q47_6, .ref q55_7, .int 0, .int 0, .int 0, .int 0, .int (-1), .int 0]), (q7_1, kI k 6 (fun _ => 0)), (q15_2, kI k 6 (fun _ => 0)), (q23_3, kI k 6 (fun _ => 0)), (q31_4, kI k 6 (fun _ => 0)), (q39_5, kI k 6 (fun _ => 0)), (q47_6, kI k 6 (fun _ => 0)), (q55_7, kI k 6 (fun _ => 0))]) [0, 1, 2, 3, 4, 5, 6, 7] rfl
                 have hD9 := hD.sub (ws' := [(w, kO 4 [.ref q7_1, .ref q15_2, .ref q23_3, .ref q31_4, .ref q39_5, .ref q47_6, .ref q55_7, .int 0, .int 0, .int 0, .int 0, .int (-1), .int 0]), (q7_1, kI k 6 (fun _ => 0)), (q15_2, kI k 6 (fun _ => 0)), (q23_3, kI k 6 (fun _ => 0)), (q31_4, kI k 6 (fun _ => 0)), (q39_5, kI k 6 (fun _ => 0)), (q47_6, kI k 6 (fun _ => 0)), (q55_7, kI k 6 (fun _ => 0))]) [0, 1, 2, 3, 4, 5, 6, 7] (by decide +kernel) rfl
                 exact W.vret hx hb hr (fun zt ht hW => ⟨⟨⟨q7_1, q15_2, q23_3, q31_4, q39_5, q47_6, q55_7⟩, rfl, trivial, by rw [ht]; exact hP9, hD9⟩, hS.F ht⟩) hS.2.2 dX4_init_65
theorem dX7_init_0 : decode cX7_init 0 = .ok (.aload_n 0, 1) := dk_aload_n_0 (by decide +kernel)
theorem dX7_init_1 : decode cX7_init 1 = .ok (.invokespecial 3, 3) := dk_invokespecial (by decide +kernel)
theorem dX7_init_4 : decode cX7_init 4 = .ok (.aload_n 0, 1) := dk_aload_n_0 (by decide +kernel)
theorem dX7_init_5 : decode cX7_init 5 = .ok (.bipush 6, 2) := dk_bipush (by decide +kernel)
theorem dX7_init_7 : decode cX7_init 7 = .ok (.newarray .long, 2) := by decide +kernel
theorem dX7_init_9 : decode cX7_init 9 = .ok (.putfield 9, 3) := dk_putfield (by decide +kernel)
theorem dX7_init_12 : decode cX7_init 12 = .ok (.aload_n 0, 1) := dk_aload_n_0 (by decide +kernel)
theorem dX7_init_13 : decode cX7_init 13 = .ok (.bipush 6, 2) := dk_bipush (by decide +kernel)
theorem dX7_init_15 : decode cX7_init 15 = .ok (.newarray .int, 2) := by decide +kernel
theorem dX7_init_17 : decode cX7_init 17 = .ok (.putfield 15, 3) := dk_putfield (by decide +kernel)
theorem dX7_init_20 : decode cX7_init 20 = .ok (.aload_n 0, 1) := dk_aload_n_0 (by decide +kernel)
theorem dX7_init_21 : decode cX7_init 21 = .ok (.bipush 6, 2) := dk_bipush (by decide +kernel)
theorem dX7_init_23 : decode cX7_init 23 = .ok (.newarray .int, 2) := by decide +kernel
theorem dX7_init_25 : decode cX7_init 25 = .ok (.putfield 19, 3) := dk_putfield (by decide +kernel)
theorem dX7_init_28 : decode cX7_init 28 = .ok (.aload_n 0, 1) := dk_aload_n_0 (by decide +kernel)
theorem dX7_init_29 : decode cX7_init 29 = .ok (.bipush 6, 2) := dk_bipush (by decide +kernel)
theorem dX7_init_31 : decode cX7_init 31 = .ok (.newarray .int, 2) := by decide +kernel
theorem dX7_init_33 : decode cX7_init 33 = .ok (.putfield 22, 3) := dk_putfield (by decide +kernel)
theorem dX7_init_36 : decode cX7_init 36 = .ok (.aload_n 0, 1) := dk_aload_n_0 (by decide +kernel)
theorem dX7_init_37 : decode cX7_init 37 = .ok (.bipush 6, 2) := dk_bipush (by decide +kernel)
theorem dX7_init_39 : decode cX7_init 39 = .ok (.newarray .int, 2) := by decide +kernel
theorem dX7_init_41 : decode cX7_init 41 = .ok (.putfield 25, 3) := dk_putfield (by decide +kernel)
theorem dX7_init_44 : decode cX7_init 44 = .ok (.aload_n 0, 1) := dk_aload_n_0 (by decide +kernel)
theorem dX7_init_45 : decode cX7_init 45 = .ok (.bipush 12, 2) := dk_bipush (by decide +kernel)
theorem dX7_init_47 : decode cX7_init 47 = .ok (.newarray .int, 2) := by decide +kernel
theorem dX7_init_49 : decode cX7_init 49 = .ok (.putfield 28, 3) := dk_putfield (by decide +kernel)
theorem dX7_init_52 : decode cX7_init 52 = .ok (.aload_n 0, 1) := dk_aload_n_0 (by decide +kernel)
theorem dX7_init_53 : decode cX7_init 53 = .ok (.new 31, 3) := dk_new (by decide +kernel)
theorem dX7_init_56 : decode cX7_init 56 = .ok (.dup, 1) := dk_dup (by decide +kernel)
theorem dX7_init_57 : decode cX7_init 57 = .ok (.invokespecial 33, 3) := dk_invokespecial (by decide +kernel)
theorem dX7_init_60 : decode cX7_init 60 = .ok (.putfield 34, 3) := dk_putfield (by decide +kernel)
theorem dX7_init_63 : decode cX7_init 63 = .ok (.aload_n 0, 1) := dk_aload_n_0 (by decide +kernel)
theorem dX7_init_64 : decode cX7_init 64 = .ok (.bipush 10, 2) := dk_bipush (by decide +kernel)
theorem dX7_init_66 : decode cX7_init 66 = .ok (.putfield 38, 3) := dk_putfield (by decide +kernel)
theorem dX7_init_69 : decode cX7_init 69 = .ok (.aload_n 0, 1) := dk_aload_n_0 (by decide +kernel)
theorem dX7_init_70 : decode cX7_init 70 = .ok (.bipush 30, 2) := dk_bipush (by decide +kernel)
theorem dX7_init_72 : decode cX7_init 72 = .ok (.putfield 42, 3) := dk_putfield (by decide +kernel)
theorem dX7_init_75 : decode cX7_init 75 = .ok (.return_, 1) := dk_return_ (by decide +kernel)
set_option maxRecDepth 20000 in
theorem ggX7_init_X0_init : GoodIn wsX7_init wsX0_init := goodIn_sub (sub_cons (List.mem_cons_of_mem _ (List.mem_append_left _ (List.mem_append_left _ (List.mem_of_getElem? (i := 18) rfl)))) (sub_app (sub_cons (List.mem_cons_of_mem _ (List.mem_append_left _ (List.mem_append_left _ (List.mem_of_getElem? (i := 19) rfl)))) (sub_cons (List.mem_cons_of_mem _ (List.mem_append_left _ (List.mem_append_left _ (List.mem_of_getElem? (i := 1) rfl)))) (sub_cons (List.mem_cons_of_mem _ (List.mem_append_left _ (List.mem_append_left _ (List.mem_of_getElem? (i := 2) rfl)))) (sub_cons (List.mem_cons_of_mem _ (List.mem_append_left _ (List.mem_append_left _ (List.mem_of_getElem? (i := 5) rfl)))) (sub_cons (List.mem_cons_of_mem _ (List.mem_append_left _ (List.mem_append_left _ (List.mem_of_getElem? (i := 20) rfl)))) (sub_cons (List.mem_cons_of_mem _ (List.mem_append_left _ (List.mem_append_left _ (List.mem_of_getElem? (i := 21) rfl)))) (sub_cons (List.mem_cons_of_mem _ (List.mem_append_left _ (List.mem_append_left _ (List.mem_of_getElem? (i := 22) rfl)))) sub_nil))))))) (fun w h9 => (List.mem_cons_of_mem _ (List.mem_append_right _ h9))))) gw_X0_init
set_option maxRecDepth 20000 in
theorem gX7_init_X0_init_n33 : GoodIn wsX7_init (wsX0_init) := ggX7_init_X0_init
set_option maxHeartbeats 4000000 in
set_option maxRecDepth 100000 in
theorem kX7_init (l : Launch) (D : va_G) (k : Nat → ClassId) (sz : Nat) (w : Nat) : Met l yX7_init wsX7_init ({ frames := 2, cells := 10, slots := 1075, locals := 140 }) (va_Pc [.ref w] (kz_Pre D k [(w, kO 7 [.null, .null, .null, .null, .null, .null, .null, .int 0, .int 0, .int 0, .int 0, .int 0, .int 0])] sz)) (va_Qv (fun (uu : Nat × Nat × Nat × Nat × Nat × Nat × Nat × Nat × Nat × Nat) => True) (fun uu zt => kz_B D (va_A [(w, kO 7 [.null, .null, .null, .null, .null, .null, .null, .int 0, .int 0, .int 0, .int 0, .int 0, .int 0])] sz) [(w, kO 7 [.ref uu.1, .ref uu.2.1, .ref uu.2.2.1, .ref uu.2.2.2.1, .ref uu.2.2.2.2.1, .ref uu.2.2.2.2.2.1, .ref uu.2.2.2.2.2.2.1, .int 0, .int 0, .int 10, .int 30, .int 0, .int 0]), (uu.1, kJ k 6 (fun _ => 0)), (uu.2.1, kI k 6 (fun _ => 0)), (uu.2.2.1, kI k 6 (fun _ => 0)), (uu.2.2.2.1, kI k 6 (fun _ => 0)), (uu.2.2.2.2.1, kI k 6 (fun _ => 0)), (uu.2.2.2.2.2.1, kI k 12 (fun _ => 0)), (uu.2.2.2.2.2.2.1, kO 0 [.ref uu.2.2.2.2.2.2.2.1, .ref uu.2.2.2.2.2.2.2.2.1, .ref uu.2.2.2.2.2.2.2.2.2, .int 0, .int 0]), (uu.2.2.2.2.2.2.2.1, kI k 1000 (fun _ => 0)), (uu.2.2.2.2.2.2.2.2.1, kI k 24 (fun _ => 0)), (uu.2.2.2.2.2.2.2.2.2, kI k 4 (fun _ => 0))] zt) (va_A [(w, kO 7 [.null, .null, .null, .null, .null, .null, .null, .int 0, .int 0, .int 0, .int 0, .int 0, .int 0])] sz)) 10 1075 (va_A [(w, kO 7 [.null, .null, .null, .null, .null, .null, .null, .int 0, .int 0, .int 0, .int 0, .int 0, .int 0])] sz) := by
  refine Met.ofW (cc := cX7_init) (maxL := 1) (ret := none) (by decide) rfl ?_
  intro p e s m args below meth c s₁ B hml hv
  obtain ⟨hav, hsz, hP, hK, hD0, hE⟩ := hv
  have hx := B.exec
  have hb := B.bytes
  have hr := B.returns
  have hts := atoms_spec (ws := wsX7_init) B.pre
  have hown : s.vm.findClass RX7 = some m.cls := findClass_of_methodNamed B.named
  have hlocks := B.notSynchronized
  have hin : meth.name = "<init>" := (name_of_methodNamed B.named B.method).1
  have hi0 : ∀ w ∈ u_ws RX0 TX0 5, w ∈ wsX7_init := fun w h9 => List.mem_cons_of_mem _ (List.mem_append_right _ h9)
  have hi7 : ∀ w ∈ u_ws RX7 TX7 13, w ∈ wsX7_init := fun w h9 => List.mem_cons_of_mem _ (List.mem_append_left _ (List.mem_append_right _ h9))
  have lm3 := hts (.methodLink RX7 3 objectInit) (List.mem_cons_of_mem _ (List.mem_append_left _ (List.mem_append_left _ (List.mem_of_getElem? (i := 0) rfl))))
  have lio := hts (.instanceMethod objectInit) (List.mem_cons_of_mem _ (List.mem_append_left _ (List.mem_append_left _ (List.mem_of_getElem? (i := 1) rfl))))
  have lco := hts (.code objectInit ⟨#[0xb1]⟩ 1 none) (List.mem_cons_of_mem _ (List.mem_append_left _ (List.mem_append_left _ (List.mem_of_getElem? (i := 2) rfl))))
  have laJ := hts (.arrayClass .long) (List.mem_cons_of_mem _ (List.mem_append_left _ (List.mem_append_left _ (List.mem_of_getElem? (i := 3) rfl))))
  have lf9 := hts (.fieldLink RX7 9 "LastCook$Told" "names" "[J") (List.mem_cons_of_mem _ (List.mem_append_left _ (List.mem_append_left _ (List.mem_of_getElem? (i := 4) rfl))))
  have laI := hts (.arrayClass .int) (List.mem_cons_of_mem _ (List.mem_append_left _ (List.mem_append_left _ (List.mem_of_getElem? (i := 5) rfl))))
  have lf15 := hts (.fieldLink RX7 15 "LastCook$Told" "kinds" "[I") (List.mem_cons_of_mem _ (List.mem_append_left _ (List.mem_append_left _ (List.mem_of_getElem? (i := 6) rfl))))
  have lf19 := hts (.fieldLink RX7 19 "LastCook$Told" "yards" "[I") (List.mem_cons_of_mem _ (List.mem_append_left _ (List.mem_append_left _ (List.mem_of_getElem? (i := 7) rfl))))
  have lf22 := hts (.fieldLink RX7 22 "LastCook$Told" "paces" "[I") (List.mem_cons_of_mem _ (List.mem_append_left _ (List.mem_append_left _ (List.mem_of_getElem? (i := 8) rfl))))
  have lf25 := hts (.fieldLink RX7 25 "LastCook$Told" "skills" "[I") (List.mem_cons_of_mem _ (List.mem_append_left _ (List.mem_append_left _ (List.mem_of_getElem? (i := 9) rfl))))
  have lf28 := hts (.fieldLink RX7 28 "LastCook$Told" "snow" "[I") (List.mem_cons_of_mem _ (List.mem_append_left _ (List.mem_append_left _ (List.mem_of_getElem? (i := 10) rfl))))
  have lk31 := hts (.classLink RX7 31 RX0) (List.mem_cons_of_mem _ (List.mem_append_left _ (List.mem_append_left _ (List.mem_of_getElem? (i := 11) rfl))))
  have ls0 := hts (.instantiable RX0 5) (List.mem_cons_of_mem _ (List.mem_append_left _ (List.mem_append_left _ (List.mem_of_getElem? (i := 12) rfl))))
  have lz0 := hts (.initialized RX0) (List.mem_cons_of_mem _ (List.mem_append_left _ (List.mem_append_left _ (List.mem_of_getElem? (i := 13) rfl))))
  have lni_X0_init := hts (.instanceMethod yX0_init) (List.mem_cons_of_mem _ (List.mem_append_left _ (List.mem_append_left _ (List.mem_of_getElem? (i := 17) rfl))))
  have lf34 := hts (.fieldLink RX7 34 "LastCook$Told" "law" "LLastCook$Law;") (List.mem_cons_of_mem _ (List.mem_append_left _ (List.mem_append_left _ (List.mem_of_getElem? (i := 14) rfl))))
  have lf38 := hts (.fieldLink RX7 38 "LastCook$Told" "bend" "I") (List.mem_cons_of_mem _ (List.mem_append_left _ (List.mem_append_left _ (List.mem_of_getElem? (i := 15) rfl))))
  have lf42 := hts (.fieldLink RX7 42 "LastCook$Told" "hour" "I") (List.mem_cons_of_mem _ (List.mem_append_left _ (List.mem_append_left _ (List.mem_of_getElem? (i := 16) rfl))))
  subst hsz
  have hD := hD0.self (sz := s.heap.size)
  generalize hAe : va_A [(w, kO 7 [.null, .null, .null, .null, .null, .null, .null, .int 0, .int 0, .int 0, .int 0, .int 0, .int 0])] s.heap.size = A at hD ⊢
  have hA : ∀ q : Nat, s.heap.size ≤ q → A q := fun q h => by rw [← hAe]; exact Or.inr h
  have hS : va_S A s.heap s.heap [] := va_S.rf
  have hl := lv_entry ([.ref w]) (n := 1) (Nat.le_of_ble_eq_true rfl)
  rw [show entryFrame m args 1 = entryFrame m ([.ref w] : List Value).toArray 1 by rw [hav], lg_entry_eq]
  generalize (lg_sl ([.ref w]) ++ List.replicate (1 - (lg_sl ([.ref w])).length) Slot.unset).toArray = ls at hl ⊢
  have hl : lv_has ls 1 [(0, .ref w)] := hl
  obtain ⟨R, hR⟩ : ∃ R, R = (headSpec wsX7_init ({ frames := 2, cells := 10, slots := 1075, locals := 140 } : Room)).room := ⟨_, rfl⟩
  rw [← hR]
  generalize hQ : MQ below _ args s 10 1075 A = Q
  replace hQ := hQ.symm
  obtain ⟨H, hH⟩ : ∃ H, H = s.heap := ⟨_, rfl⟩
  rw [← hH] at hP ⊢
  have hS : va_S A s.heap H [] := by rw [hH]; exact hS
  have hRc : R.cells = 10 ∧ R.slots = 1075 := by rw [hR]; exact ⟨rfl, rfl⟩
  obtain ⟨hRc, hRs⟩ := hRc
  refine lv_aload_n hx hb dX7_init_0 rfl (lv_at hl 0 rfl) ?_
  refine W.objInit hx hb hown lm3 lio lco rfl (by rw [hml]; exact hl.1) rfl dX7_init_1 (by rw [hR]; exact Nat.le_of_ble_eq_true rfl) (by rw [hR]; exact Nat.le_of_ble_eq_true rfl) ?_
  refine W.eq (g2 := F0 m 4 ls []) rfl ?_
  refine lv_aload_n hx hb dX7_init_4 rfl (lv_at hl 0 rfl) ?_
  refine lv_bipush (v := 6) hx hb dX7_init_5 (by decide) ?_
  refine va_newa (atype := .long) (ty := .long) (N' := 6) (a0 := (6, .inr (.inl (fun _ => 0)))) hx hb laJ rfl hK hP hD hS hA (fun _ => rfl) (by decide) (by decide) (by decide) (by omega) (by omega) dX7_init_7 (fun q7_1 cA H hK9 hP hD hS => ?_)
  exact by
   obtain rfl : cA = k 1 := kz_same hK9 1 rfl
   refine W.widen (k := 1) (n := 6) (by omega) (by omega) ?_
   have hP : va_P D vwCl ([(w, kO 7 [.null, .null, .null, .null, .null, .null, .null, .int 0, .int 0, .int 0, .int 0, .int 0, .int 0]), (q7_1, kJ k 6 (fun _ => 0))]) H := hP
   have hD : va_D A ([(w, kO 7 [.null, .null, .null, .null, .null, .null, .null, .int 0, .int 0, .int 0, .int 0, .int 0, .int 0]), (q7_1, kJ k 6 (fun _ => 0))]) := hD
   refine va_putF (D := D) (ci := 7) (v := .ref q7_1) (ty := (.array .long)) (C := RX7) (T := TX7) (N := 13) hx hb hts hi7 tyX7 tyX7_ok nmX7 hown hK hP hD hS 0 rfl rfl 0 (by decide) lf9 (fun _ h9 => h9) rfl hin rfl (by decide +kernel) rfl rfl (Nat.le_of_ble_eq_true rfl) dX7_init_9 (fun H locs hP hD hS => ?_)
   exact by
    have hP : va_P D vwCl ([(w, kO 7 [.ref q7_1, .null, .null, .null, .null, .null, .null, .int 0, .int 0, .int 0, .int 0, .int 0, .int 0]), (q7_1, kJ k 6 (fun _ => 0))]) H := hP
    have hD : va_D A ([(w, kO 7 [.ref q7_1, .null, .null, .null, .null, .null, .null, .int 0, .int 0, .int 0, .int 0, .int 0, .int 0]), (q7_1, kJ k 6 (fun _ => 0))]) := hD
    refine lv_aload_n hx hb dX7_init_12 rfl (lv_at hl 0 rfl) ?_
    refine lv_bipush (v := 6) hx hb dX7_init_13 (by decide) ?_
    refine va_newa (atype := .int) (ty := .int) (N' := 6) (a0 := (6, .inl (fun _ => 0))) hx hb laI rfl hK hP hD hS hA (fun _ => rfl) (by decide) (by decide) (by decide) (by omega) (by omega) dX7_init_15 (fun q15_2 cA H hK9 hP hD hS => ?_)
    exact by
     obtain rfl : cA = k 0 := kz_same hK9 0 rfl
     refine W.widen (k := 2) (n := 12) (by omega) (by omega) ?_
     have hP : va_P D vwCl ([(w, kO 7 [.ref q7_1, .null, .null, .null, .null, .null, .null, .int 0, .int 0, .int 0, .int 0, .int 0, .int 0]), (q7_1, kJ k 6 (fun _ => 0)), (q15_2, kI k 6 (fun _ => 0))]) H := hP
     have hD : va_D A ([(w, kO 7 [.ref q7_1, .null, .null, .null, .null, .null, .null, .int 0, .int 0, .int 0, .int 0, .int 0, .int 0]), (q7_1, kJ k 6 (fun _ => 0)), (q15_2, kI k 6 (fun _ => 0))]) := hD
     refine va_putF (D := D) (ci := 7) (v := .ref q15_2) (ty := (.array .int)) (C := RX7) (T := TX7) (N := 13) hx hb hts hi7 tyX7 tyX7_ok nmX7 hown hK hP hD hS 0 rfl rfl 1 (by decide) lf15 (fun _ h9 => h9) rfl hin rfl (by decide +kernel) rfl rfl (Nat.le_of_ble_eq_true rfl) dX7_init_17 (fun H locs hP hD hS => ?_)
     exact by
      have hP : va_P D vwCl ([(w, kO 7 [.ref q7_1, .ref q15_2, .null, .null, .null, .null, .null, .int 0, .int 0, .int 0, .int 0, .int 0, .int 0]), (q7_1, kJ k 6 (fun _ => 0)), (q15_2, kI k 6 (fun _ => 0))]) H := hP
      have hD : va_D A ([(w, kO 7 [.ref q7_1, .ref q15_2, .null, .null, .null, .null, .null, .int 0, .int 0, .int 0, .int 0, .int 0, .int 0]), (q7_1, kJ k 6 (fun _ => 0)), (q15_2, kI k 6 (fun _ => 0))]) := hD
      refine lv_aload_n hx hb dX7_init_20 rfl (lv_at hl 0 rfl) ?_
      refine lv_bipush (v := 6) hx hb dX7_init_21 (by decide) ?_
      refine va_newa (atype := .int) (ty := .int) (N' := 6) (a0 := (6, .inl (fun _ => 0))) hx hb laI rfl hK hP hD hS hA (fun _ => rfl) (by decide) (by decide) (by decide) (by omega) (by omega) dX7_init_23 (fun q23_3 cA H hK9 hP hD hS => ?_)
      exact by
       obtain rfl : cA = k 0 := kz_same hK9 0 rfl
       refine W.widen (k := 3) (n := 18) (by omega) (by omega) ?_
       have hP : va_P D vwCl ([(w, kO 7 [.ref q7_1, .ref q15_2, .null, .null, .null, .null, .null, .int 0, .int 0, .int 0, .int 0, .int 0, .int 0]), (q7_1, kJ k 6 (fun _ => 0)), (q15_2, kI k 6 (fun _ => 0)), (q23_3, kI k 6 (fun _ => 0))]) H := hP
       have hD : va_D A ([(w, kO 7 [.ref q7_1, .ref q15_2, .null, .null, .null, .null, .null, .int 0, .int 0, .int 0, .int 0, .int 0, .int 0]), (q7_1, kJ k 6 (fun _ => 0)), (q15_2, kI k 6 (fun _ => 0)), (q23_3, kI k 6 (fun _ => 0))]) := hD
       refine va_putF (D := D) (ci := 7) (v := .ref q23_3) (ty := (.array .int)) (C := RX7) (T := TX7) (N := 13) hx hb hts hi7 tyX7 tyX7_ok nmX7 hown hK hP hD hS 0 rfl rfl 2 (by decide) lf19 (fun _ h9 => h9) rfl hin rfl (by decide +kernel) rfl rfl (Nat.le_of_ble_eq_true rfl) dX7_init_25 (fun H locs hP hD hS => ?_)
       exact by
        have hP : va_P D vwCl ([(w, kO 7 [.ref q7_1, .ref q15_2, .ref q23_3, .null, .null, .null, .null, .int 0, .int 0, .int 0, .int 0, .int 0, .int 0]), (q7_1, kJ k 6 (fun _ => 0)), (q15_2, kI k 6 (fun _ => 0)), (q23_3, kI k 6 (fun _ => 0))]) H := hP
        have hD : va_D A ([(w, kO 7 [.ref q7_1, .ref q15_2, .ref q23_3, .null, .null, .null, .null, .int 0, .int 0, .int 0, .int 0, .int 0, .int 0]), (q7_1, kJ k 6 (fun _ => 0)), (q15_2, kI k 6 (fun _ => 0)), (q23_3, kI k 6 (fun _ => 0))]) := hD
        refine lv_aload_n hx hb dX7_init_28 rfl (lv_at hl 0 rfl) ?_
        refine lv_bipush (v := 6) hx hb dX7_init_29 (by decide) ?_
        refine va_newa (atype := .int) (ty := .int) (N' := 6) (a0 := (6, .inl (fun _ => 0))) hx hb laI rfl hK hP hD hS hA (fun _ => rfl) (by decide) (by decide) (by decide) (by omega) (by omega) dX7_init_31 (fun q31_4 cA H hK9 hP hD hS => ?_)
        exact by
         obtain rfl : cA = k 0 := kz_same hK9 0 rfl
         refine W.widen (k := 4) (n := 24) (by omega) (by omega) ?_
         have hP : va_P D vwCl ([(w, kO 7 [.ref q7_1, .ref q15_2, .ref q23_3, .null, .null, .null, .null, .int 0, .int 0, .int 0, .int 0, .int 0, .int 0]), (q7_1, kJ k 6 (fun _ => 0)), (q15_2, kI k 6 (fun _ => 0)), (q23_3, kI k 6 (fun _ => 0)), (q31_4, kI k 6 (fun _ => 0))]) H := hP
         have hD : va_D A ([(w, kO 7 [.ref q7_1, .ref q15_2, .ref q23_3, .null, .null, .null, .null, .int 0, .int 0, .int 0, .int 0, .int 0, .int 0]), (q7_1, kJ k 6 (fun _ => 0)), (q15_2, kI k 6 (fun _ => 0)), (q23_3, kI k 6 (fun _ => 0)), (q31_4, kI k 6 (fun _ => 0))]) := hD
         refine va_putF (D := D) (ci := 7) (v := .ref q31_4) (ty := (.array .int)) (C := RX7) (T := TX7) (N := 13) hx hb hts hi7 tyX7 tyX7_ok nmX7 hown hK hP hD hS 0 rfl rfl 3 (by decide) lf22 (fun _ h9 => h9) rfl hin rfl (by decide +kernel) rfl rfl (Nat.le_of_ble_eq_true rfl) dX7_init_33 (fun H locs hP hD hS => ?_)
         exact by
          have hP : va_P D vwCl ([(w, kO 7 [.ref q7_1, .ref q15_2, .ref q23_3, .ref q31_4, .null, .null, .null, .int 0, .int 0, .int 0, .int 0, .int 0, .int 0]), (q7_1, kJ k 6 (fun _ => 0)), (q15_2, kI k 6 (fun _ => 0)), (q23_3, kI k 6 (fun _ => 0)), (q31_4, kI k 6 (fun _ => 0))]) H := hP
          have hD : va_D A ([(w, kO 7 [.ref q7_1, .ref q15_2, .ref q23_3, .ref q31_4, .null, .null, .null, .int 0, .int 0, .int 0, .int 0, .int 0, .int 0]), (q7_1, kJ k 6 (fun _ => 0)), (q15_2, kI k 6 (fun _ => 0)), (q23_3, kI k 6 (fun _ => 0)), (q31_4, kI k 6 (fun _ => 0))]) := hD
          refine lv_aload_n hx hb dX7_init_36 rfl (lv_at hl 0 rfl) ?_
          refine lv_bipush (v := 6) hx hb dX7_init_37 (by decide) ?_
          refine va_newa (atype := .int) (ty := .int) (N' := 6) (a0 := (6, .inl (fun _ => 0))) hx hb laI rfl hK hP hD hS hA (fun _ => rfl) (by decide) (by decide) (by decide) (by omega) (by omega) dX7_init_39 (fun q39_5 cA H hK9 hP hD hS => ?_)
          exact by
           obtain rfl : cA = k 0 := kz_same hK9 0 rfl
           refine W.widen (k := 5) (n := 30) (by omega) (by omega) ?_
           have hP : va_P D vwCl ([(w, kO 7 [.ref q7_1, .ref q15_2, .ref q23_3, .ref q31_4, .null, .null, .null, .int 0, .int 0, .int 0, .int 0, .int 0, .int 0]), (q7_1, kJ k 6 (fun _ => 0)), (q15_2, kI k 6 (fun _ => 0)), (q23_3, kI k 6 (fun _ => 0)), (q31_4, kI k 6 (fun _ => 0)), (q39_5, kI k 6 (fun _ => 0))]) H := hP
           have hD : va_D A ([(w, kO 7 [.ref q7_1, .ref q15_2, .ref q23_3, .ref q31_4, .null, .null, .null, .int 0, .int 0, .int 0, .int 0, .int 0, .int 0]), (q7_1, kJ k 6 (fun _ => 0)), (q15_2, kI k 6 (fun _ => 0)), (q23_3, kI k 6 (fun _ => 0)), (q31_4, kI k 6 (fun _ => 0)), (q39_5, kI k 6 (fun _ => 0))]) := hD
           refine va_putF (D := D) (ci := 7) (v := .ref q39_5) (ty := (.array .int)) (C := RX7) (T := TX7) (N := 13) hx hb hts hi7 tyX7 tyX7_ok nmX7 hown hK hP hD hS 0 rfl rfl 4 (by decide) lf25 (fun _ h9 => h9) rfl hin rfl (by decide +kernel) rfl rfl (Nat.le_of_ble_eq_true rfl) dX7_init_41 (fun H locs hP hD hS => ?_)
           exact by
            have hP : va_P D vwCl ([(w, kO 7 [.ref q7_1, .ref q15_2, .ref q23_3, .ref q31_4, .ref q39_5, .null, .null, .int 0, .int 0, .int 0, .int 0, .int 0, .int 0]), (q7_1, kJ k 6 (fun _ => 0)), (q15_2, kI k 6 (fun _ => 0)), (q23_3, kI k 6 (fun _ => 0)), (q31_4, kI k 6 (fun _ => 0)), (q39_5, kI k 6 (fun _ => 0))]) H := hP
            have hD : va_D A ([(w, kO 7 [.ref q7_1, .ref q15_2, .ref q23_3, .ref q31_4, .ref q39_5, .null, .null, .int 0, .int 0, .int 0, .int 0, .int 0, .int 0]), (q7_1, kJ k 6 (fun _ => 0)), (q15_2, kI k 6 (fun _ => 0)), (q23_3, kI k 6 (fun _ => 0)), (q31_4, kI k 6 (fun _ => 0)), (q39_5, kI k 6 (fun _ => 0))]) := hD
            refine lv_aload_n hx hb dX7_init_44 rfl (lv_at hl 0 rfl) ?_
            refine lv_bipush (v := 12) hx hb dX7_init_45 (by decide) ?_
            refine va_newa (atype := .int) (ty := .int) (N' := 12) (a0 := (12, .inl (fun _ => 0))) hx hb laI rfl hK hP hD hS hA (fun _ => rfl) (by decide) (by decide) (by decide) (by omega) (by omega) dX7_init_47 (fun q47_6 cA H hK9 hP hD hS => ?_)
            exact by
             obtain rfl : cA = k 0 := kz_same hK9 0 rfl
             refine W.widen (k := 6) (n := 42) (by omega) (by omega) ?_
             have hP : va_P D vwCl ([(w, kO 7 [.ref q7_1, .ref q15_2, .ref q23_3, .ref q31_4, .ref q39_5, .null, .null, .int 0, .int 0, .int 0, .int 0, .int 0, .int 0]), (q7_1, kJ k 6 (fun _ => 0)), (q15_2, kI k 6 (fun _ => 0)), (q23_3, kI k 6 (fun _ => 0)), (q31_4, kI k 6 (fun _ => 0)), (q39_5, kI k 6 (fun _ => 0)), (q47_6, kI k 12 (fun _ => 0))]) H := hP
             have hD : va_D A ([(w, kO 7 [.ref q7_1, .ref q15_2, .ref q23_3, .ref q31_4, .ref q39_5, .null, .null, .int 0, .int 0, .int 0, .int 0, .int 0, .int 0]), (q7_1, kJ k 6 (fun _ => 0)), (q15_2, kI k 6 (fun _ => 0)), (q23_3, kI k 6 (fun _ => 0)), (q31_4, kI k 6 (fun _ => 0)), (q39_5, kI k 6 (fun _ => 0)), (q47_6, kI k 12 (fun _ => 0))]) := hD
             refine va_putF (D := D) (ci := 7) (v := .ref q47_6) (ty := (.array .int)) (C := RX7) (T := TX7) (N := 13) hx hb hts hi7 tyX7 tyX7_ok nmX7 hown hK hP hD hS 0 rfl rfl 5 (by decide) lf28 (fun _ h9 => h9) rfl hin rfl (by decide +kernel) rfl rfl (Nat.le_of_ble_eq_true rfl) dX7_init_49 (fun H locs hP hD hS => ?_)
             exact by
              have hP : va_P D vwCl ([(w, kO 7 [.ref q7_1, .ref q15_2, .ref q23_3, .ref q31_4, .ref q39_5, .ref q47_6, .null, .int 0, .int 0, .int 0, .int 0, .int 0, .int 0]), (q7_1, kJ k 6 (fun _ => 0)), (q15_2, kI k 6 (fun _ => 0)), (q23_3, kI k 6 (fun _ => 0)), (q31_4, kI k 6 (fun _ => 0)), (q39_5, kI k 6 (fun _ => 0)), (q47_6, kI k 12 (fun _ => 0))]) H := hP
              have hD : va_D A ([(w, kO 7 [.ref q7_1, .ref q15_2, .ref q23_3, .ref q31_4, .ref q39_5, .ref q47_6, .null, .int 0, .int 0, .int 0, .int 0, .int 0, .int 0]), (q7_1, kJ k 6 (fun _ => 0)), (q15_2, kI k 6 (fun _ => 0)), (q23_3, kI k 6 (fun _ => 0)), (q31_4, kI k 6 (fun _ => 0)), (q39_5, kI k 6 (fun _ => 0)), (q47_6, kI k 12 (fun _ => 0))]) := hD
              refine lv_aload_n hx hb dX7_init_52 rfl (lv_at hl 0 rfl) ?_
              refine va_new (ci := 0) (fs := [.null, .null, .null, .int 0, .int 0]) (C := RX0) (T := TX0) (N := 5) hx hb hts hi0 tyX0 tyX0_ok hown lk31 ls0 lz0 hK hP hD hS hA rfl (by decide +kernel) (by omega) (by omega) dX7_init_53 (fun q53_7 H hP hD hS => ?_)
              exact by
               refine W.widen (k := 7) (n := 47) (by omega) (by omega) ?_
               have hP : va_P D vwCl ([(w, kO 7 [.ref q7_1, .ref q15_2, .ref q23_3, .ref q31_4, .ref q39_5, .ref q47_6, .null, .int 0, .int 0, .int 0, .int 0, .int 0, .int 0]), (q7_1, kJ k 6 (fun _ => 0)), (q15_2, kI k 6 (fun _ => 0)), (q23_3, kI k 6 (fun _ => 0)), (q31_4, kI k 6 (fun _ => 0)), (q39_5, kI k 6 (fun _ => 0)), (q47_6, kI k 12 (fun _ => 0)), (q53_7, kO 0 [.null, .null, .null, .int 0, .int 0])]) H := hP
               have hD : va_D A ([(w, kO 7 [.ref q7_1, .ref q15_2, .ref q23_3, .ref q31_4, .ref q39_5, .ref q47_6, .null, .int 0, .int 0, .int 0, .int 0, .int 0, .int 0]), (q7_1, kJ k 6 (fun _ => 0)), (q15_2, kI k 6 (fun _ => 0)), (q23_3, kI k 6 (fun _ => 0)), (q31_4, kI k 6 (fun _ => 0)), (q39_5, kI k 6 (fun _ => 0)), (q47_6, kI k 12 (fun _ => 0)), (q53_7, kO 0 [.null, .null, .null, .int 0, .int 0])]) := hD
               refine lv_dup hx hb dX7_init_56 rfl ?_
               refine kz_INv (As := []) (rest := [.ref q53_7, .ref w]) (wc := [(q53_7, kO 0 [.null, .null, .null, .int 0, .int 0])]) (wr := [(w, kO 7 [.ref q7_1, .ref q15_2, .ref q23_3, .ref q31_4, .ref q39_5, .ref q47_6, .null, .int 0, .int 0, .int 0, .int 0, .int 0, .int 0]), (q7_1, kJ k 6 (fun _ => 0)), (q15_2, kI k 6 (fun _ => 0)), (q23_3, kI k 6 (fun _ => 0)), (q31_4, kI k 6 (fun _ => 0)), (q39_5, kI k 6 (fun _ => 0)), (q47_6, kI k 12 (fun _ => 0))]) ⟨hx, hb, hml, hown, hts⟩ hK hE hP hD hS hA (kX0_init l D k H.size q53_7) ⟨va_cnB 0 hts gX7_init_X0_init_n33 rfl rfl rfl hE.2.2.2.2.2.2.2.2.2.2.1 lz0 (by decide +kernel) (by rw [hR]; exact ⟨Nat.le_of_ble_eq_true rfl, Nat.le_of_ble_eq_true rfl⟩), rfl, lni_X0_init⟩ [7] [0, 1, 2, 3, 4, 5, 6] rfl rfl (by decide +kernel) (by decide +kernel) (by decide +kernel) rfl hl.1 rfl (Nat.le_of_ble_eq_true rfl) dX7_init_57 (by rw [hR]; exact ⟨Nat.le_of_ble_eq_true rfl, Nat.le_of_ble_eq_true rfl⟩) (fun u8 H locs hw8 hP hD hS => ?_)
               exact by
                refine W.widen (k := 10) (n := 1075) (by omega) (by omega) ?_
                obtain ⟨w08, w18, w28⟩ := u8
                have hP : va_P D vwCl ([(w, kO 7 [.ref q7_1, .ref q15_2, .ref q23_3, .ref q31_4, .ref q39_5, .ref q47_6, .null, .int 0, .int 0, .int 0, .int 0, .int 0, .int 0]), (q7_1, kJ k 6 (fun _ => 0)), (q15_2, kI k 6 (fun _ => 0)), (q23_3, kI k 6 (fun _ => 0)), (q31_4, kI k 6 (fun _ => 0)), (q39_5, kI k 6 (fun _ => 0)), (q47_6, kI k 12 (fun _ => 0)), (q53_7, kO 0 [.ref w08, .ref w18, .ref w28, .int 0, .int 0]), (w08, kI k 1000 (fun _ => 0)), (w18, kI k 24 (fun _ => 0)), (w28, kI k 4 (fun _ => 0))]) H := hP
                have hD : va_D A ([(w, kO 7 [.ref q7_1, .ref q15_2, .ref q23_3, .ref q31_4, .ref q39_5, .ref q47_6, .null, .int 0, .int 0, .int 0, .int 0, .int 0, .int 0]), (q7_1, kJ k 6 (fun _ => 0)), (q15_2, kI k 6 (fun _ => 0)), (q23_3, kI k 6 (fun _ => 0)), (q31_4, kI k 6 (fun _ => 0)), (q39_5, kI k 6 (fun _ => 0)), (q47_6, kI k 12 (fun _ => 0)), (q53_7, kO 0 [.ref w08, .ref w18, .ref w28, .int 0, .int 0]), (w08, kI k 1000 (fun _ => 0)), (w18, kI k 24 (fun _ => 0)), (w28, kI k 4 (fun _ => 0))]) := hD
                refine va_putF (D := D) (ci := 7) (v := .ref q53_7) (ty := (.object "LastCook$Law")) (C := RX7) (T := TX7) (N := 13) hx hb hts hi7 tyX7 tyX7_ok nmX7 hown hK hP hD hS 0 rfl rfl 6 (by decide) lf34 (fun _ h9 => h9) rfl hin rfl (by decide +kernel) rfl rfl (Nat.le_of_ble_eq_true rfl) dX7_init_60 (fun H locs hP hD hS => ?_)
                exact by
                 have hP : va_P D vwCl ([(w, kO 7 [.ref q7_1, .ref q15_2, .ref q23_3, .ref q31_4, .ref q39_5, .ref q47_6, .ref q53_7, .int 0, .int 0, .int 0, .int 0, .int 0, .int 0]), (q7_1, kJ k 6 (fun _ => 0)), (q15_2, kI k 6 (fun _ => 0)), (q23_3, kI k 6 (fun _ => 0)), (q31_4, kI k 6 (fun _ => 0)), (q39_5, kI k 6 (fun _ => 0)), (q47_6, kI k 12 (fun _ => 0)), (q53_7, kO 0 [.ref w08, .ref w18, .ref w28, .int 0, .int 0]), (w08, kI k 1000 (fun _ => 0)), (w18, kI k 24 (fun _ => 0)), (w28, kI k 4 (fun _ => 0))]) H := hP
                 have hD : va_D A ([(w, kO 7 [.ref q7_1, .ref q15_2, .ref q23_3, .ref q31_4, .ref q39_5, .ref q47_6, .ref q53_7, .int 0, .int 0, .int 0, .int 0, .int 0, .int 0]), (q7_1, kJ k 6 (fun _ => 0)), (q15_2, kI k 6 (fun _ => 0)), (q23_3, kI k 6 (fun _ => 0)), (q31_4, kI k 6 (fun _ => 0)), (q39_5, kI k 6 (fun _ => 0)), (q47_6, kI k 12 (fun _ => 0)), (q53_7, kO 0 [.ref w08, .ref w18, .ref w28, .int 0, .int 0]), (w08, kI k 1000 (fun _ => 0)), (w18, kI k 24 (fun _ => 0)), (w28, kI k 4 (fun _ => 0))]) := hD
                 refine lv_aload_n hx hb dX7_init_63 rfl (lv_at hl 0 rfl) ?_
                 refine lv_bipush (v := 10) hx hb dX7_init_64 (by decide) ?_
                 refine va_put (D := D) (ci := 7) (v := .int 10) (ty := .int) (C := RX7) (T := TX7) (N := 13) hx hb hts hi7 tyX7 tyX7_ok nmX7 hown hK hP hD hS 0 rfl rfl 9 (by decide) lf38 (fun _ h9 => h9) rfl (by decide +kernel) rfl rfl (Nat.le_of_ble_eq_true rfl) dX7_init_66 (fun H locs hP hD hS => ?_)
                 exact by
                  have hP : va_P D vwCl ([(w, kO 7 [.ref q7_1, .ref q15_2, .ref q23_3, .ref q31_4, .ref q39_5, .ref q47_6, .ref q53_7, .int 0, .int 0, .int 10, .int 0, .int 0, .int 0]), (q7_1, kJ k 6 (fun _ => 0)), (q15_2, kI k 6 (fun _ => 0)), (q23_3, kI k 6 (fun _ => 0)), (q31_4, kI k 6 (fun _ => 0)), (q39_5, kI k 6 (fun _ => 0)), (q47_6, kI k 12 (fun _ => 0)), (q53_7, kO 0 [.ref w08, .ref w18, .ref w28, .int 0, .int 0]), (w08, kI k 1000 (fun _ => 0)), (w18, kI k 24 (fun _ => 0)), (w28, kI k 4 (fun _ => 0))]) H := hP
                  have hD : va_D A ([(w, kO 7 [.ref q7_1, .ref q15_2, .ref q23_3, .ref q31_4, .ref q39_5, .ref q47_6, .ref q53_7, .int 0, .int 0, .int 10, .int 0, .int 0, .int 0]), (q7_1, kJ k 6 (fun _ => 0)), (q15_2, kI k 6 (fun _ => 0)), (q23_3, kI k 6 (fun _ => 0)), (q31_4, kI k 6 (fun _ => 0)), (q39_5, kI k 6 (fun _ => 0)), (q47_6, kI k 12 (fun _ => 0)), (q53_7, kO 0 [.ref w08, .ref w18, .ref w28, .int 0, .int 0]), (w08, kI k 1000 (fun _ => 0)), (w18, kI k 24 (fun _ => 0)), (w28, kI k 4 (fun _ => 0))]) := hD
                  refine lv_aload_n hx hb dX7_init_69 rfl (lv_at hl 0 rfl) ?_
                  refine lv_bipush (v := 30) hx hb dX7_init_70 (by decide) ?_
                  refine va_put (D := D) (ci := 7) (v := .int 30) (ty := .int) (C := RX7) (T := TX7) (N := 13) hx hb hts hi7 tyX7 tyX7_ok nmX7 hown hK hP hD hS 0 rfl rfl 10 (by decide) lf42 (fun _ h9 => h9) rfl (by decide +kernel) rfl rfl (Nat.le_of_ble_eq_true rfl) dX7_init_72 (fun H locs hP hD hS => ?_)
                  exact by
                   have hP : va_P D vwCl ([(w, kO 7 [.ref q7_1, .ref q15_2, .ref q23_3, .ref q31_4, .ref q39_5, .ref q47_6, .ref q53_7, .int 0, .int 0, .int 10, .int 30, .int 0, .int 0]), (q7_1, kJ k 6 (fun _ => 0)), (q15_2, kI k 6 (fun _ => 0)), (q23_3, kI k 6 (fun _ => 0)), (q31_4, kI k 6 (fun _ => 0)), (q39_5, kI k 6 (fun _ => 0)), (q47_6, kI k 12 (fun _ => 0)), (q53_7, kO 0 [.ref w08, .ref w18, .ref w28, .int 0, .int 0]), (w08, kI k 1000 (fun _ => 0)), (w18, kI k 24 (fun _ => 0)), (w28, kI k 4 (fun _ => 0))]) H := hP
                   have hD : va_D A ([(w, kO 7 [.ref q7_1, .ref q15_2, .ref q23_3, .ref q31_4, .ref q39_5, .ref q47_6, .ref q53_7, .int 0, .int 0, .int 10, .int 30, .int 0, .int 0]), (q7_1, kJ k 6 (fun _ => 0)), (q15_2, kI k 6 (fun _ => 0)), (q23_3, kI k 6 (fun _ => 0)), (q31_4, kI k 6 (fun _ => 0)), (q39_5, kI k 6 (fun _ => 0)), (q47_6, kI k 12 (fun _ => 0)), (q53_7, kO 0 [.ref w08, .ref w18, .ref w28, .int 0, .int 0]), (w08, kI k 1000 (fun _ => 0)), (w18, kI k 24 (fun _ => 0)), (w28, kI k 4 (fun _ => 0))]) := hD
                   rw [hQ]
                   have hP9 := hP.sub (ws' := [(w, kO 7 [.ref q7_1, .ref q15_2, .ref q23_3, .ref q31_4, .ref q39_5, .ref q47_6, .ref q53_7, .int 0, .int 0, .int 10, .int 30, .int 0, .int 0]), (q7_1, kJ k 6 (fun _ => 0)), (q15_2, kI k 6 (fun _ => 0)), (q23_3, kI k 6 (fun _ => 0)), (q31_4, kI k 6 (fun _ => 0)), (q39_5, kI k 6 (fun _ => 0)), (q47_6, kI k 12 (fun _ => 0)), (q53_7, kO 0 [.ref w08, .ref w18, .ref w28, .int 0, .int 0]), (w08, kI k 1000 (fun _ => 0)), (w18, kI k 24 (fun _ => 0)), (w28, kI k 4 (fun _ => 0))]) [0, 1, 2, 3, 4, 5, 6, 7, 8, 9, 10] rfl
                   have hD9 := hD.sub (ws' := [(w, kO 7 [.ref q7_1, .ref q15_2, .ref q23_3, .ref q31_4, .ref q39_5, .ref q47_6, .ref q53_7, .int 0, .int 0, .int 10, .int 30, .int 0, .int 0]), (q7_1, kJ k 6 (fun _ => 0)), (q15_2, kI k 6 (fun _ => 0)), (q23_3, kI k 6 (fun _ => 0)), (q31_4, kI k 6 (fun _ => 0)), (q39_5, kI k 6 (fun _ => 0)), (q47_6, kI k 12 (fun _ => 0)), (q53_7, kO 0 [.ref w08, .ref w18, .ref w28, .int 0, .int 0]), (w08, kI k 1000 (fun _ => 0)), (w18, kI k 24 (fun _ => 0)), (w28, kI k 4 (fun _ => 0))]) [0, 1, 2, 3, 4, 5, 6, 7, 8, 9, 10] (by decide +kernel) rfl
                   exact W.vret hx hb hr (fun zt ht hW => ⟨⟨⟨q7_1, q15_2, q23_3, q31_4, q39_5, q47_6, q53_7, w08, w18, w28⟩, rfl, trivial, by rw [ht]; exact hP9, hD9⟩, hS.F ht⟩) hS.2.2 dX7_init_75
theorem dX2_init_0 : decode cX2_init 0 = .ok (.aload_n 0, 1) := dk_aload_n_0 (by decide +kernel)
theorem dX2_init_1 : decode cX2_init 1 = .ok (.invokespecial 1, 3) := dk_invokespecial (by decide +kernel)
theorem dX2_init_4 : decode cX2_init 4 = .ok (.aload_n 0, 1) := dk_aload_n_0 (by decide +kernel)
theorem dX2_init_5 : decode cX2_init 5 = .ok (.new 7, 3) := dk_new (by decide +kernel)
theorem dX2_init_8 : decode cX2_init 8 = .ok (.dup, 1) := dk_dup (by decide +kernel)
theorem dX2_init_9 : decode cX2_init 9 = .ok (.invokespecial 9, 3) := dk_invokespecial (by decide +kernel)
theorem dX2_init_12 : decode cX2_init 12 = .ok (.putfield 10, 3) := dk_putfield (by decide +kernel)
theorem dX2_init_15 : decode cX2_init 15 = .ok (.aload_n 0, 1) := dk_aload_n_0 (by decide +kernel)
theorem dX2_init_16 : decode cX2_init 16 = .ok (.new 16, 3) := dk_new (by decide +kernel)
theorem dX2_init_19 : decode cX2_init 19 = .ok (.dup, 1) := dk_dup (by decide +kernel)
theorem dX2_init_20 : decode cX2_init 20 = .ok (.invokespecial 18, 3) := dk_invokespecial (by decide +kernel)
theorem dX2_init_23 : decode cX2_init 23 = .ok (.putfield 19, 3) := dk_putfield (by decide +kernel)
theorem dX2_init_26 : decode cX2_init 26 = .ok (.aload_n 0, 1) := dk_aload_n_0 (by decide +kernel)
theorem dX2_init_27 : decode cX2_init 27 = .ok (.new 23, 3) := dk_new (by decide +kernel)
theorem dX2_init_30 : decode cX2_init 30 = .ok (.dup, 1) := dk_dup (by decide +kernel)
theorem dX2_init_31 : decode cX2_init 31 = .ok (.invokespecial 25, 3) := dk_invokespecial (by decide +kernel)
theorem dX2_init_34 : decode cX2_init 34 = .ok (.putfield 26, 3) := dk_putfield (by decide +kernel)
theorem dX2_init_37 : decode cX2_init 37 = .ok (.return_, 1) := dk_return_ (by decide +kernel)
set_option maxRecDepth 20000 in
theorem ggX2_init_X4_init : GoodIn wsX2_init wsX4_init := goodIn_sub (sub_cons (List.mem_cons_of_mem _ (List.mem_append_left _ (List.mem_append_left _ (List.mem_append_left _ (List.mem_append_left _ (List.mem_append_left _ (List.mem_of_getElem? (i := 16) rfl))))))) (sub_app (sub_cons (List.mem_cons_of_mem _ (List.mem_append_left _ (List.mem_append_left _ (List.mem_append_left _ (List.mem_append_left _ (List.mem_append_left _ (List.mem_of_getElem? (i := 17) rfl))))))) (sub_cons (List.mem_cons_of_mem _ (List.mem_append_left _ (List.mem_append_left _ (List.mem_append_left _ (List.mem_append_left _ (List.mem_append_left _ (List.mem_of_getElem? (i := 1) rfl))))))) (sub_cons (List.mem_cons_of_mem _ (List.mem_append_left _ (List.mem_append_left _ (List.mem_append_left _ (List.mem_append_left _ (List.mem_append_left _ (List.mem_of_getElem? (i := 2) rfl))))))) (sub_cons (List.mem_cons_of_mem _ (List.mem_append_left _ (List.mem_append_left _ (List.mem_append_left _ (List.mem_append_left _ (List.mem_append_left _ (List.mem_of_getElem? (i := 18) rfl))))))) (sub_cons (List.mem_cons_of_mem _ (List.mem_append_left _ (List.mem_append_left _ (List.mem_append_left _ (List.mem_append_left _ (List.mem_append_left _ (List.mem_of_getElem? (i := 19) rfl))))))) (sub_cons (List.mem_cons_of_mem _ (List.mem_append_left _ (List.mem_append_left _ (List.mem_append_left _ (List.mem_append_left _ (List.mem_append_left _ (List.mem_of_getElem? (i := 20) rfl))))))) (sub_cons (List.mem_cons_of_mem _ (List.mem_append_left _ (List.mem_append_left _ (List.mem_append_left _ (List.mem_append_left _ (List.mem_append_left _ (List.mem_of_getElem? (i := 21) rfl))))))) (sub_cons (List.mem_cons_of_mem _ (List.mem_append_left _ (List.mem_append_left _ (List.mem_append_left _ (List.mem_append_left _ (List.mem_append_left _ (List.mem_of_getElem? (i := 22) rfl))))))) (sub_cons (List.mem_cons_of_mem _ (List.mem_append_left _ (List.mem_append_left _ (List.mem_append_left _ (List.mem_append_left _ (List.mem_append_left _ (List.mem_of_getElem? (i := 23) rfl))))))) (sub_cons (List.mem_cons_of_mem _ (List.mem_append_left _ (List.mem_append_left _ (List.mem_append_left _ (List.mem_append_left _ (List.mem_append_right _ (List.mem_of_getElem? (i := 0) rfl))))))) (sub_cons (List.mem_cons_of_mem _ (List.mem_append_left _ (List.mem_append_left _ (List.mem_append_left _ (List.mem_append_left _ (List.mem_append_right _ (List.mem_of_getElem? (i := 1) rfl))))))) (sub_cons (List.mem_cons_of_mem _ (List.mem_append_left _ (List.mem_append_left _ (List.mem_append_left _ (List.mem_append_left _ (List.mem_append_right _ (List.mem_of_getElem? (i := 2) rfl))))))) sub_nil)))))))))))) (fun w h9 => (List.mem_cons_of_mem _ (List.mem_append_left _ (List.mem_append_left _ (List.mem_append_left _ (List.mem_append_right _ h9)))))))) gw_X4_init
set_option maxRecDepth 20000 in
theorem gX2_init_X4_init_n9 : GoodIn wsX2_init (wsX4_init) := ggX2_init_X4_init
set_option maxRecDepth 20000 in
theorem ggX2_init_X1_init : GoodIn wsX2_init wsX1_init := goodIn_sub (sub_cons (List.mem_cons_of_mem _ (List.mem_append_left _ (List.mem_append_left _ (List.mem_append_left _ (List.mem_append_left _ (List.mem_append_right _ (List.mem_of_getElem? (i := 4) rfl))))))) (sub_app (sub_cons (List.mem_cons_of_mem _ (List.mem_append_left _ (List.mem_append_left _ (List.mem_append_left _ (List.mem_append_left _ (List.mem_append_right _ (List.mem_of_getElem? (i := 5) rfl))))))) (sub_cons (List.mem_cons_of_mem _ (List.mem_append_left _ (List.mem_append_left _ (List.mem_append_left _ (List.mem_append_left _ (List.mem_append_left _ (List.mem_of_getElem? (i := 1) rfl))))))) (sub_cons (List.mem_cons_of_mem _ (List.mem_append_left _ (List.mem_append_left _ (List.mem_append_left _ (List.mem_append_left _ (List.mem_append_left _ (List.mem_of_getElem? (i := 2) rfl))))))) (sub_cons (List.mem_cons_of_mem _ (List.mem_append_left _ (List.mem_append_left _ (List.mem_append_left _ (List.mem_append_left _ (List.mem_append_left _ (List.mem_of_getElem? (i := 18) rfl))))))) (sub_cons (List.mem_cons_of_mem _ (List.mem_append_left _ (List.mem_append_left _ (List.mem_append_left _ (List.mem_append_left _ (List.mem_append_right _ (List.mem_of_getElem? (i := 6) rfl))))))) (sub_cons (List.mem_cons_of_mem _ (List.mem_append_left _ (List.mem_append_left _ (List.mem_append_left _ (List.mem_append_left _ (List.mem_append_right _ (List.mem_of_getElem? (i := 7) rfl))))))) (sub_cons (List.mem_cons_of_mem _ (List.mem_append_left _ (List.mem_append_left _ (List.mem_append_left _ (List.mem_append_left _ (List.mem_append_right _ (List.mem_of_getElem? (i := 8) rfl))))))) sub_nil))))))) (fun w h9 => (List.mem_cons_of_mem _ (List.mem_append_left _ (List.mem_append_right _ h9)))))) gw_X1_init
set_option maxRecDepth 20000 in
theorem gX2_init_X1_init_n18 : GoodIn wsX2_init (wsX1_init) := ggX2_init_X1_init
set_option maxRecDepth 20000 in
theorem ggX2_init_X5_init : GoodIn wsX2_init wsX5_init := goodIn_sub (sub_cons (List.mem_cons_of_mem _ (List.mem_append_left _ (List.mem_append_left _ (List.mem_append_left _ (List.mem_append_left _ (List.mem_append_right _ (List.mem_of_getElem? (i := 10) rfl))))))) (sub_app (sub_cons (List.mem_cons_of_mem _ (List.mem_append_left _ (List.mem_append_left _ (List.mem_append_left _ (List.mem_append_left _ (List.mem_append_right _ (List.mem_of_getElem? (i := 11) rfl))))))) (sub_cons (List.mem_cons_of_mem _ (List.mem_append_left _ (List.mem_append_left _ (List.mem_append_left _ (List.mem_append_left _ (List.mem_append_left _ (List.mem_of_getElem? (i := 1) rfl))))))) (sub_cons (List.mem_cons_of_mem _ (List.mem_append_left _ (List.mem_append_left _ (List.mem_append_left _ (List.mem_append_left _ (List.mem_append_left _ (List.mem_of_getElem? (i := 2) rfl))))))) (sub_cons (List.mem_cons_of_mem _ (List.mem_append_left _ (List.mem_append_left _ (List.mem_append_left _ (List.mem_append_left _ (List.mem_append_left _ (List.mem_of_getElem? (i := 18) rfl))))))) (sub_cons (List.mem_cons_of_mem _ (List.mem_append_left _ (List.mem_append_left _ (List.mem_append_left _ (List.mem_append_left _ (List.mem_append_right _ (List.mem_of_getElem? (i := 12) rfl))))))) (sub_cons (List.mem_cons_of_mem _ (List.mem_append_left _ (List.mem_append_left _ (List.mem_append_left _ (List.mem_append_left _ (List.mem_append_right _ (List.mem_of_getElem? (i := 13) rfl))))))) (sub_cons (List.mem_cons_of_mem _ (List.mem_append_left _ (List.mem_append_left _ (List.mem_append_left _ (List.mem_append_left _ (List.mem_append_right _ (List.mem_of_getElem? (i := 14) rfl))))))) (sub_cons (List.mem_cons_of_mem _ (List.mem_append_left _ (List.mem_append_left _ (List.mem_append_left _ (List.mem_append_left _ (List.mem_append_right _ (List.mem_of_getElem? (i := 15) rfl))))))) sub_nil)))))))) (fun w h9 => (List.mem_cons_of_mem _ (List.mem_append_right _ h9))))) gw_X5_init
set_option maxRecDepth 20000 in
theorem gX2_init_X5_init_n25 : GoodIn wsX2_init (wsX5_init) := ggX2_init_X5_init
set_option maxHeartbeats 4000000 in
set_option maxRecDepth 100000 in
theorem kX2_init (l : Launch) (D : va_G) (k : Nat → ClassId) (sz : Nat) (w : Nat) : Met l yX2_init wsX2_init ({ frames := 2, cells := 16, slots := 207, locals := 140 }) (va_Pc [.ref w] (kz_Pre D k [(w, kO 2 [.null, .null, .null, .int 0])] sz)) (va_Qv (fun (uu : Nat × Nat × Nat × Nat × Nat × Nat × Nat × Nat × Nat × Nat × Nat × Nat × Nat × Nat × Nat × Nat) => True) (fun uu zt => kz_B D (va_A [(w, kO 2 [.null, .null, .null, .int 0])] sz) [(w, kO 2 [.ref uu.1, .ref uu.2.2.2.2.2.2.2.2.1, .ref uu.2.2.2.2.2.2.2.2.2.2.2.2.1, .int 0]), (uu.1, kO 4 [.ref uu.2.1, .ref uu.2.2.1, .ref uu.2.2.2.1, .ref uu.2.2.2.2.1, .ref uu.2.2.2.2.2.1, .ref uu.2.2.2.2.2.2.1, .ref uu.2.2.2.2.2.2.2.1, .int 0, .int 0, .int 0, .int 0, .int (-1), .int 0]), (uu.2.1, kI k 6 (fun _ => 0)), (uu.2.2.1, kI k 6 (fun _ => 0)), (uu.2.2.2.1, kI k 6 (fun _ => 0)), (uu.2.2.2.2.1, kI k 6 (fun _ => 0)), (uu.2.2.2.2.2.1, kI k 6 (fun _ => 0)), (uu.2.2.2.2.2.2.1, kI k 6 (fun _ => 0)), (uu.2.2.2.2.2.2.2.1, kI k 6 (fun _ => 0)), (uu.2.2.2.2.2.2.2.2.1, kO 1 [.ref uu.2.2.2.2.2.2.2.2.2.1, .ref uu.2.2.2.2.2.2.2.2.2.2.1, .ref uu.2.2.2.2.2.2.2.2.2.2.2.1, .int 0]), (uu.2.2.2.2.2.2.2.2.2.1, kI k 40 (fun _ => 0)), (uu.2.2.2.2.2.2.2.2.2.2.1, kI k 40 (fun _ => 0)), (uu.2.2.2.2.2.2.2.2.2.2.2.1, kI k 40 (fun _ => 0)), (uu.2.2.2.2.2.2.2.2.2.2.2.2.1, kO 5 [.ref uu.2.2.2.2.2.2.2.2.2.2.2.2.2.1, .ref uu.2.2.2.2.2.2.2.2.2.2.2.2.2.2.1, .ref uu.2.2.2.2.2.2.2.2.2.2.2.2.2.2.2, .int 0]), (uu.2.2.2.2.2.2.2.2.2.2.2.2.2.1, kI k 8 (fun _ => 0)), (uu.2.2.2.2.2.2.2.2.2.2.2.2.2.2.1, kI k 8 (fun _ => 0)), (uu.2.2.2.2.2.2.2.2.2.2.2.2.2.2.2, kZ k 8 (fun _ => 0))] zt) (va_A [(w, kO 2 [.null, .null, .null, .int 0])] sz)) 16 207 (va_A [(w, kO 2 [.null, .null, .null, .int 0])] sz) := by
  refine Met.ofW (cc := cX2_init) (maxL := 1) (ret := none) (by decide) rfl ?_
  intro p e s m args below meth c s₁ B hml hv
  obtain ⟨hav, hsz, hP, hK, hD0, hE⟩ := hv
  have hx := B.exec
  have hb := B.bytes
  have hr := B.returns
  have hts := atoms_spec (ws := wsX2_init) B.pre
  have hown : s.vm.findClass RX2 = some m.cls := findClass_of_methodNamed B.named
  have hlocks := B.notSynchronized
  have hin : meth.name = "<init>" := (name_of_methodNamed B.named B.method).1
  have hi1 : ∀ w ∈ u_ws RX1 TX1 4, w ∈ wsX2_init := fun w h9 => List.mem_cons_of_mem _ (List.mem_append_left _ (List.mem_append_right _ h9))
  have hi2 : ∀ w ∈ u_ws RX2 TX2 4, w ∈ wsX2_init := fun w h9 => List.mem_cons_of_mem _ (List.mem_append_left _ (List.mem_append_left _ (List.mem_append_right _ h9)))
  have hi4 : ∀ w ∈ u_ws RX4 TX4 13, w ∈ wsX2_init := fun w h9 => List.mem_cons_of_mem _ (List.mem_append_left _ (List.mem_append_left _ (List.mem_append_left _ (List.mem_append_right _ h9))))
  have hi5 : ∀ w ∈ u_ws RX5 TX5 4, w ∈ wsX2_init := fun w h9 => List.mem_cons_of_mem _ (List.mem_append_right _ h9)
  have lm1 := hts (.methodLink RX2 1 objectInit) (List.mem_cons_of_mem _ (List.mem_append_left _ (List.mem_append_left _ (List.mem_append_left _ (List.mem_append_left _ (List.mem_append_left _ (List.mem_of_getElem? (i := 0) rfl)))))))
  have lio := hts (.instanceMethod objectInit) (List.mem_cons_of_mem _ (List.mem_append_left _ (List.mem_append_left _ (List.mem_append_left _ (List.mem_append_left _ (List.mem_append_left _ (List.mem_of_getElem? (i := 1) rfl)))))))
  have lco := hts (.code objectInit ⟨#[0xb1]⟩ 1 none) (List.mem_cons_of_mem _ (List.mem_append_left _ (List.mem_append_left _ (List.mem_append_left _ (List.mem_append_left _ (List.mem_append_left _ (List.mem_of_getElem? (i := 2) rfl)))))))
  have lk7 := hts (.classLink RX2 7 RX4) (List.mem_cons_of_mem _ (List.mem_append_left _ (List.mem_append_left _ (List.mem_append_left _ (List.mem_append_left _ (List.mem_append_left _ (List.mem_of_getElem? (i := 3) rfl)))))))
  have ls4 := hts (.instantiable RX4 13) (List.mem_cons_of_mem _ (List.mem_append_left _ (List.mem_append_left _ (List.mem_append_left _ (List.mem_append_left _ (List.mem_append_left _ (List.mem_of_getElem? (i := 4) rfl)))))))
  have lz4 := hts (.initialized RX4) (List.mem_cons_of_mem _ (List.mem_append_left _ (List.mem_append_left _ (List.mem_append_left _ (List.mem_append_left _ (List.mem_append_left _ (List.mem_of_getElem? (i := 5) rfl)))))))
  have lni_X4_init := hts (.instanceMethod yX4_init) (List.mem_cons_of_mem _ (List.mem_append_left _ (List.mem_append_left _ (List.mem_append_left _ (List.mem_append_left _ (List.mem_append_left _ (List.mem_of_getElem? (i := 15) rfl)))))))
  have lf10 := hts (.fieldLink RX2 10 "LastCook$Mark" "road" "LLastCook$Road;") (List.mem_cons_of_mem _ (List.mem_append_left _ (List.mem_append_left _ (List.mem_append_left _ (List.mem_append_left _ (List.mem_append_left _ (List.mem_of_getElem? (i := 6) rfl)))))))
  have lk16 := hts (.classLink RX2 16 RX1) (List.mem_cons_of_mem _ (List.mem_append_left _ (List.mem_append_left _ (List.mem_append_left _ (List.mem_append_left _ (List.mem_append_left _ (List.mem_of_getElem? (i := 7) rfl)))))))
  have ls1 := hts (.instantiable RX1 4) (List.mem_cons_of_mem _ (List.mem_append_left _ (List.mem_append_left _ (List.mem_append_left _ (List.mem_append_left _ (List.mem_append_left _ (List.mem_of_getElem? (i := 8) rfl)))))))
  have lz1 := hts (.initialized RX1) (List.mem_cons_of_mem _ (List.mem_append_left _ (List.mem_append_left _ (List.mem_append_left _ (List.mem_append_left _ (List.mem_append_left _ (List.mem_of_getElem? (i := 9) rfl)))))))
  have lni_X1_init := hts (.instanceMethod yX1_init) (List.mem_cons_of_mem _ (List.mem_append_left _ (List.mem_append_left _ (List.mem_append_left _ (List.mem_append_left _ (List.mem_append_right _ (List.mem_of_getElem? (i := 3) rfl)))))))
  have lf19 := hts (.fieldLink RX2 19 "LastCook$Mark" "lines" "LLastCook$Lines;") (List.mem_cons_of_mem _ (List.mem_append_left _ (List.mem_append_left _ (List.mem_append_left _ (List.mem_append_left _ (List.mem_append_left _ (List.mem_of_getElem? (i := 10) rfl)))))))
  have lk23 := hts (.classLink RX2 23 RX5) (List.mem_cons_of_mem _ (List.mem_append_left _ (List.mem_append_left _ (List.mem_append_left _ (List.mem_append_left _ (List.mem_append_left _ (List.mem_of_getElem? (i := 11) rfl)))))))
  have ls5 := hts (.instantiable RX5 4) (List.mem_cons_of_mem _ (List.mem_append_left _ (List.mem_append_left _ (List.mem_append_left _ (List.mem_append_left _ (List.mem_append_left _ (List.mem_of_getElem? (i := 12) rfl)))))))
  have lz5 := hts (.initialized RX5) (List.mem_cons_of_mem _ (List.mem_append_left _ (List.mem_append_left _ (List.mem_append_left _ (List.mem_append_left _ (List.mem_append_left _ (List.mem_of_getElem? (i := 13) rfl)))))))
  have lni_X5_init := hts (.instanceMethod yX5_init) (List.mem_cons_of_mem _ (List.mem_append_left _ (List.mem_append_left _ (List.mem_append_left _ (List.mem_append_left _ (List.mem_append_right _ (List.mem_of_getElem? (i := 9) rfl)))))))
  have lf26 := hts (.fieldLink RX2 26 "LastCook$Mark" "sights" "LLastCook$Sights;") (List.mem_cons_of_mem _ (List.mem_append_left _ (List.mem_append_left _ (List.mem_append_left _ (List.mem_append_left _ (List.mem_append_left _ (List.mem_of_getElem? (i := 14) rfl)))))))
  subst hsz
  have hD := hD0.self (sz := s.heap.size)
  generalize hAe : va_A [(w, kO 2 [.null, .null, .null, .int 0])] s.heap.size = A at hD ⊢
  have hA : ∀ q : Nat, s.heap.size ≤ q → A q := fun q h => by rw [← hAe]; exact Or.inr h
  have hS : va_S A s.heap s.heap [] := va_S.rf
  have hl := lv_entry ([.ref w]) (n := 1) (Nat.le_of_ble_eq_true rfl)
  rw [show entryFrame m args 1 = entryFrame m ([.ref w] : List Value).toArray 1 by rw [hav], lg_entry_eq]
  generalize (lg_sl ([.ref w]) ++ List.replicate (1 - (lg_sl ([.ref w])).length) Slot.unset).toArray = ls at hl ⊢
  have hl : lv_has ls 1 [(0, .ref w)] := hl
  obtain ⟨R, hR⟩ : ∃ R, R = (headSpec wsX2_init ({ frames := 2, cells := 16, slots := 207, locals := 140 } : Room)).room := ⟨_, rfl⟩
  rw [← hR]
  generalize hQ : MQ below _ args s 16 207 A = Q
  replace hQ := hQ.symm
  obtain ⟨H, hH⟩ : ∃ H, H = s.heap := ⟨_, rfl⟩
  rw [← hH] at hP ⊢
  have hS : va_S A s.heap H [] := by rw [hH]; exact hS
  have hRc : R.cells = 16 ∧ R.slots = 207 := by rw [hR]; exact ⟨rfl, rfl⟩
  obtain ⟨hRc, hRs⟩ := hRc
  refine lv_aload_n hx hb dX2_init_0 rfl (lv_at hl 0 rfl) ?_
  refine W.objInit hx hb hown lm1 lio lco rfl (by rw [hml]; exact hl.1) rfl dX2_init_1 (by rw [hR]; exact Nat.le_of_ble_eq_true rfl) (by rw [hR]; exact Nat.le_of_ble_eq_true rfl) ?_
  refine W.eq (g2 := F0 m 4 ls []) rfl ?_
  refine lv_aload_n hx hb dX2_init_4 rfl (lv_at hl 0 rfl) ?_
  refine va_new (ci := 4) (fs := [.null, .null, .null, .null, .null, .null, .null, .int 0, .int 0, .int 0, .int 0, .int 0, .int 0]) (C := RX4) (T := TX4) (N := 13) hx hb hts hi4 tyX4 tyX4_ok hown lk7 ls4 lz4 hK hP hD hS hA rfl (by decide +kernel) (by omega) (by omega) dX2_init_5 (fun q5_1 H hP hD hS => ?_)
  exact by
   refine W.widen (k := 1) (n := 13) (by omega) (by omega) ?_
   have hP : va_P D vwCl ([(w, kO 2 [.null, .null, .null, .int 0]), (q5_1, kO 4 [.null, .null, .null, .null, .null, .null, .null, .int 0, .int 0, .int 0, .int 0, .int 0, .int 0])]) H := hP
   have hD : va_D A ([(w, kO 2 [.null, .null, .null, .int 0]), (q5_1, kO 4 [.null, .null, .null, .null, .null, .null, .null, .int 0, .int 0, .int 0, .int 0, .int 0, .int 0])]) := hD
   refine lv_dup hx hb dX2_init_8 rfl ?_
   refine kz_INv (As := []) (rest := [.ref q5_1, .ref w]) (wc := [(q5_1, kO 4 [.null, .null, .null, .null, .null, .null, .null, .int 0, .int 0, .int 0, .int 0, .int 0, .int 0])]) (wr := [(w, kO 2 [.null, .null, .null, .int 0])]) ⟨hx, hb, hml, hown, hts⟩ hK hE hP hD hS hA (kX4_init l D k H.size q5_1) ⟨va_cnB 0 hts gX2_init_X4_init_n9 rfl rfl rfl hE.2.2.2.2.2.2.2.1 lz4 (by decide +kernel) (by rw [hR]; exact ⟨Nat.le_of_ble_eq_true rfl, Nat.le_of_ble_eq_true rfl⟩), rfl, lni_X4_init⟩ [1] [0] rfl rfl (by decide +kernel) (by decide +kernel) (by decide +kernel) rfl hl.1 rfl (Nat.le_of_ble_eq_true rfl) dX2_init_9 (by rw [hR]; exact ⟨Nat.le_of_ble_eq_true rfl, Nat.le_of_ble_eq_true rfl⟩) (fun u2 H locs hw2 hP hD hS => ?_)
   exact by
    refine W.widen (k := 8) (n := 55) (by omega) (by omega) ?_
    obtain ⟨w02, w12, w22, w32, w42, w52, w62⟩ := u2
    have hP : va_P D vwCl ([(w, kO 2 [.null, .null, .null, .int 0]), (q5_1, kO 4 [.ref w02, .ref w12, .ref w22, .ref w32, .ref w42, .ref w52, .ref w62, .int 0, .int 0, .int 0, .int 0, .int (-1), .int 0]), (w02, kI k 6 (fun _ => 0)), (w12, kI k 6 (fun _ => 0)), (w22, kI k 6 (fun _ => 0)), (w32, kI k 6 (fun _ => 0)), (w42, kI k 6 (fun _ => 0)), (w52, kI k 6 (fun _ => 0)), (w62, kI k 6 (fun _ => 0))]) H := hP
    have hD : va_D A ([(w, kO 2 [.null, .null, .null, .int 0]), (q5_1, kO 4 [.ref w02, .ref w12, .ref w22, .ref w32, .ref w42, .ref w52, .ref w62, .int 0, .int 0, .int 0, .int 0, .int (-1), .int 0]), (w02, kI k 6 (fun _ => 0)), (w12, kI k 6 (fun _ => 0)), (w22, kI k 6 (fun _ => 0)), (w32, kI k 6 (fun _ => 0)), (w42, kI k 6 (fun _ => 0)), (w52, kI k 6 (fun _ => 0)), (w62, kI k 6 (fun _ => 0))]) := hD
    refine va_putF (D := D) (ci := 2) (v := .ref q5_1) (ty := (.object "LastCook$Road")) (C := RX2) (T := TX2) (N := 4) hx hb hts hi2 tyX2 tyX2_ok nmX2 hown hK hP hD hS 0 rfl rfl 0 (by decide) lf10 (fun _ h9 => h9) rfl hin rfl (by decide +kernel) rfl rfl (Nat.le_of_ble_eq_true rfl) dX2_init_12 (fun H locs hP hD hS => ?_)
    exact by
     have hP : va_P D vwCl ([(w, kO 2 [.ref q5_1, .null, .null, .int 0]), (q5_1, kO 4 [.ref w02, .ref w12, .ref w22, .ref w32, .ref w42, .ref w52, .ref w62, .int 0, .int 0, .int 0, .int 0, .int (-1), .int 0]), (w02, kI k 6 (fun _ => 0)), (w12, kI k 6 (fun _ => 0)), (w22, kI k 6 (fun _ => 0)), (w32, kI k 6 (fun _ => 0)), (w42, kI k 6 (fun _ => 0)), (w52, kI k 6 (fun _ => 0)), (w62, kI k 6 (fun _ => 0))]) H := hP
     have hD : va_D A ([(w, kO 2 [.ref q5_1, .null, .null, .int 0]), (q5_1, kO 4 [.ref w02, .ref w12, .ref w22, .ref w32, .ref w42, .ref w52, .ref w62, .int 0, .int 0, .int 0, .int 0, .int (-1), .int 0]), (w02, kI k 6 (fun _ => 0)), (w12, kI k 6 (fun _ => 0)), (w22, kI k 6 (fun _ => 0)), (w32, kI k 6 (fun _ => 0)), (w42, kI k 6 (fun _ => 0)), (w52, kI k 6 (fun _ => 0)), (w62, kI k 6 (fun _ => 0))]) := hD
     refine lv_aload_n hx hb dX2_init_15 rfl (lv_at hl 0 rfl) ?_
     refine va_new (ci := 1) (fs := [.null, .null, .null, .int 0]) (C := RX1) (T := TX1) (N := 4) hx hb hts hi1 tyX1 tyX1_ok hown lk16 ls1 lz1 hK hP hD hS hA rfl (by decide +kernel) (by omega) (by omega) dX2_init_16 (fun q16_3 H hP hD hS => ?_)
     exact by
      refine W.widen (k := 9) (n := 59) (by omega) (by omega) ?_
      have hP : va_P D vwCl ([(w, kO 2 [.ref q5_1, .null, .null, .int 0]), (q5_1, kO 4 [.ref w02, .ref w12, .ref w22, .ref w32, .ref w42, .ref w52, .ref w62, .int 0, .int 0, .int 0, .int 0, .int (-1), .int 0]), (w02, kI k 6 (fun _ => 0)), (w12, kI k 6 (fun _ => 0)), (w22, kI k 6 (fun _ => 0)), (w32, kI k 6 (fun _ => 0)), (w42, kI k 6 (fun _ => 0)), (w52, kI k 6 (fun _ => 0)), (w62, kI k 6 (fun _ => 0)), (q16_3, kO 1 [.null, .null, .null, .int 0])]) H := hP
      have hD : va_D A ([(w, kO 2 [.ref q5_1, .null, .null, .int 0]), (q5_1, kO 4 [.ref w02, .ref w12, .ref w22, .ref w32, .ref w42, .ref w52, .ref w62, .int 0, .int 0, .int 0, .int 0, .int (-1), .int 0]), (w02, kI k 6 (fun _ => 0)), (w12, kI k 6 (fun _ => 0)), (w22, kI k 6 (fun _ => 0)), (w32, kI k 6 (fun _ => 0)), (w42, kI k 6 (fun _ => 0)), (w52, kI k 6 (fun _ => 0)), (w62, kI k 6 (fun _ => 0)), (q16_3, kO 1 [.null, .null, .null, .int 0])]) := hD
      refine lv_dup hx hb dX2_init_19 rfl ?_
      refine kz_INv (As := []) (rest := [.ref q16_3, .ref w]) (wc := [(q16_3, kO 1 [.null, .null, .null, .int 0])]) (wr := [(w, kO 2 [.ref q5_1, .null, .null, .int 0]), (q5_1, kO 4 [.ref w02, .ref w12, .ref w22, .ref w32, .ref w42, .ref w52, .ref w62, .int 0, .int 0, .int 0, .int 0, .int (-1), .int 0]), (w02, kI k 6 (fun _ => 0)), (w12, kI k 6 (fun _ => 0)), (w22, kI k 6 (fun _ => 0)), (w32, kI k 6 (fun _ => 0)), (w42, kI k 6 (fun _ => 0)), (w52, kI k 6 (fun _ => 0)), (w62, kI k 6 (fun _ => 0))]) ⟨hx, hb, hml, hown, hts⟩ hK hE hP hD hS hA (kX1_init l D k H.size q16_3) ⟨va_cnB 0 hts gX2_init_X1_init_n18 rfl rfl rfl hE.2.2.2.2.2.1 lz1 (by decide +kernel) (by rw [hR]; exact ⟨Nat.le_of_ble_eq_true rfl, Nat.le_of_ble_eq_true rfl⟩), rfl, lni_X1_init⟩ [9] [0, 1, 2, 3, 4, 5, 6, 7, 8] rfl rfl (by decide +kernel) (by decide +kernel) (by decide +kernel) rfl hl.1 rfl (Nat.le_of_ble_eq_true rfl) dX2_init_20 (by rw [hR]; exact ⟨Nat.le_of_ble_eq_true rfl, Nat.le_of_ble_eq_true rfl⟩) (fun u4 H locs hw4 hP hD hS => ?_)
      exact by
       refine W.widen (k := 12) (n := 179) (by omega) (by omega) ?_
       obtain ⟨w04, w14, w24⟩ := u4
       have hP : va_P D vwCl ([(w, kO 2 [.ref q5_1, .null, .null, .int 0]), (q5_1, kO 4 [.ref w02, .ref w12, .ref w22, .ref w32, .ref w42, .ref w52, .ref w62, .int 0, .int 0, .int 0, .int 0, .int (-1), .int 0]), (w02, kI k 6 (fun _ => 0)), (w12, kI k 6 (fun _ => 0)), (w22, kI k 6 (fun _ => 0)), (w32, kI k 6 (fun _ => 0)), (w42, kI k 6 (fun _ => 0)), (w52, kI k 6 (fun _ => 0)), (w62, kI k 6 (fun _ => 0)), (q16_3, kO 1 [.ref w04, .ref w14, .ref w24, .int 0]), (w04, kI k 40 (fun _ => 0)), (w14, kI k 40 (fun _ => 0)), (w24, kI k 40 (fun _ => 0))]) H := hP
       have hD : va_D A ([(w, kO 2 [.ref q5_1, .null, .null, .int 0]), (q5_1, kO 4 [.ref w02, .ref w12, .ref w22, .ref w32, .ref w42, .ref w52, .ref w62, .int 0, .int 0, .int 0, .int 0, .int (-1), .int 0]), (w02, kI k 6 (fun _ => 0)), (w12, kI k 6 (fun _ => 0)), (w22, kI k 6 (fun _ => 0)), (w32, kI k 6 (fun _ => 0)), (w42, kI k 6 (fun _ => 0)), (w52, kI k 6 (fun _ => 0)), (w62, kI k 6 (fun _ => 0)), (q16_3, kO 1 [.ref w04, .ref w14, .ref w24, .int 0]), (w04, kI k 40 (fun _ => 0)), (w14, kI k 40 (fun _ => 0)), (w24, kI k 40 (fun _ => 0))]) := hD
       refine va_putF (D := D) (ci := 2) (v := .ref q16_3) (ty := (.object "LastCook$Lines")) (C := RX2) (T := TX2) (N := 4) hx hb hts hi2 tyX2 tyX2_ok nmX2 hown hK hP hD hS 0 rfl rfl 1 (by decide) lf19 (fun _ h9 => h9) rfl hin rfl (by decide +kernel) rfl rfl (Nat.le_of_ble_eq_true rfl) dX2_init_23 (fun H locs hP hD hS => ?_)
       exact by
        have hP : va_P D vwCl ([(w, kO 2 [.ref q5_1, .ref q16_3, .null, .int 0]), (q5_1, kO 4 [.ref w02, .ref w12, .ref w22, .ref w32, .ref w42, .ref w52, .ref w62, .int 0, .int 0, .int 0, .int 0, .int (-1), .int 0]), (w02, kI k 6 (fun _ => 0)), (w12, kI k 6 (fun _ => 0)), (w22, kI k 6 (fun _ => 0)), (w32, kI k 6 (fun _ => 0)), (w42, kI k 6 (fun _ => 0)), (w52, kI k 6 (fun _ => 0)), (w62, kI k 6 (fun _ => 0)), (q16_3, kO 1 [.ref w04, .ref w14, .ref w24, .int 0]), (w04, kI k 40 (fun _ => 0)), (w14, kI k 40 (fun _ => 0)), (w24, kI k 40 (fun _ => 0))]) H := hP
        have hD : va_D A ([(w, kO 2 [.ref q5_1, .ref q16_3, .null, .int 0]), (q5_1, kO 4 [.ref w02, .ref w12, .ref w22, .ref w32, .ref w42, .ref w52, .ref w62, .int 0, .int 0, .int 0, .int 0, .int (-1), .int 0]), (w02, kI k 6 (fun _ => 0)), (w12, kI k 6 (fun _ => 0)), (w22, kI k 6 (fun _ => 0)), (w32, kI k 6 (fun _ => 0)), (w42, kI k 6 (fun _ => 0)), (w52, kI k 6 (fun _ => 0)), (w62, kI k 6 (fun _ => 0)), (q16_3, kO 1 [.ref w04, .ref w14, .ref w24, .int 0]), (w04, kI k 40 (fun _ => 0)), (w14, kI k 40 (fun _ => 0)), (w24, kI k 40 (fun _ => 0))]) := hD
        refine lv_aload_n hx hb dX2_init_26 rfl (lv_at hl 0 rfl) ?_
        refine va_new (ci := 5) (fs := [.null, .null, .null, .int 0]) (C := RX5) (T := TX5) (N := 4) hx hb hts hi5 tyX5 tyX5_ok hown lk23 ls5 lz5 hK hP hD hS hA rfl (by decide +kernel) (by omega) (by omega) dX2_init_27 (fun q27_5 H hP hD hS => ?_)
        exact by
         refine W.widen (k := 13) (n := 183) (by omega) (by omega) ?_
         have hP : va_P D vwCl ([(w, kO 2 [.ref q5_1, .ref q16_3, .null, .int 0]), (q5_1, kO 4 [.ref w02, .ref w12, .ref w22, .ref w32, .ref w42, .ref w52, .ref w62, .int 0, .int 0, .int 0, .int 0, .int (-1), .int 0]), (w02, kI k 6 (fun _ => 0)), (w12, kI k 6 (fun _ => 0)), (w22, kI k 6 (fun _ => 0)), (w32, kI k 6 (fun _ => 0)), (w42, kI k 6 (fun _ => 0)), (w52, kI k 6 (fun _ => 0)), (w62, kI k 6 (fun _ => 0)), (q16_3, kO 1 [.ref w04, .ref w14, .ref w24, .int 0]), (w04, kI k 40 (fun _ => 0)), (w14, kI k 40 (fun _ => 0)), (w24, kI k 40 (fun _ => 0)), (q27_5, kO 5 [.null, .null, .null, .int 0])]) H := hP
         have hD : va_D A ([(w, kO 2 [.ref q5_1, .ref q16_3, .null, .int 0]), (q5_1, kO 4 [.ref w02, .ref w12, .ref w22, .ref w32, .ref w42, .ref w52, .ref w62, .int 0, .int 0, .int 0, .int 0, .int (-1), .int 0]), (w02, kI k 6 (fun _ => 0)), (w12, kI k 6 (fun _ => 0)), (w22, kI k 6 (fun _ => 0)), (w32, kI k 6 (fun _ => 0)), (w42, kI k 6 (fun _ => 0)), (w52, kI k 6 (fun _ => 0)), (w62, kI k 6 (fun _ => 0)), (q16_3, kO 1 [.ref w04, .ref w14, .ref w24, .int 0]), (w04, kI k 40 (fun _ => 0)), (w14, kI k 40 (fun _ => 0)), (w24, kI k 40 (fun _ => 0)), (q27_5, kO 5 [.null, .null, .null, .int 0])]) := hD
         refine lv_dup hx hb dX2_init_30 rfl ?_
         refine kz_INv (As := []) (rest := [.ref q27_5, .ref w]) (wc := [(q27_5, kO 5 [.null, .null, .null, .int 0])]) (wr := [(w, kO 2 [.ref q5_1, .ref q16_3, .null, .int 0]), (q5_1, kO 4 [.ref w02, .ref w12, .ref w22, .ref w32, .ref w42, .ref w52, .ref w62, .int 0, .int 0, .int 0, .int 0, .int (-1), .int 0]), (w02, kI k 6 (fun _ => 0)), (w12, kI k 6 (fun _ => 0)), (w22, kI k 6 (fun _ => 0)), (w32, kI k 6 (fun _ => 0)), (w42, kI k 6 (fun _ => 0)), (w52, kI k 6 (fun _ => 0)), (w62, kI k 6 (fun _ => 0)), (q16_3, kO 1 [.ref w04, .ref w14, .ref w24, .int 0]), (w04, kI k 40 (fun _ => 0)), (w14, kI k 40 (fun _ => 0)), (w24, kI k 40 (fun _ => 0))]) ⟨hx, hb, hml, hown, hts⟩ hK hE hP hD hS hA (kX5_init l D k H.size q27_5) ⟨va_cnB 0 hts gX2_init_X5_init_n25 rfl rfl rfl hE.2.2.2.2.2.2.1 lz5 (by decide +kernel) (by rw [hR]; exact ⟨Nat.le_of_ble_eq_true rfl, Nat.le_of_ble_eq_true rfl⟩), rfl, lni_X5_init⟩ [13] [0, 1, 2, 3, 4, 5, 6, 7, 8, 9, 10, 11, 12] rfl rfl (by decide +kernel) (by decide +kernel) (by decide +kernel) rfl hl.1 rfl (Nat.le_of_ble_eq_true rfl) dX2_init_31 (by rw [hR]; exact ⟨Nat.le_of_ble_eq_true rfl, Nat.le_of_ble_eq_true rfl⟩) (fun u6 H locs hw6 hP hD hS => ?_)
         exact by
          refine W.widen (k := 16) (n := 207) (by omega) (by omega) ?_
          obtain ⟨w06, w16, w26⟩ := u6
          have hP : va_P D vwCl ([(w, kO 2 [.ref q5_1, .ref q16_3, .null, .int 0]), (q5_1, kO 4 [.ref w02, .ref w12, .ref w22, .ref w32, .ref w42, .ref w52, .ref w62, .int 0, .int 0, .int 0, .int 0, .int (-1), .int 0]), (w02, kI k 6 (fun _ => 0)), (w12, kI k 6 (fun _ => 0)), (w22, kI k 6 (fun _ => 0)), (w32, kI k 6 (fun _ => 0)), (w42, kI k 6 (fun _ => 0)), (w52, kI k 6 (fun _ => 0)), (w62, kI k 6 (fun _ => 0)), (q16_3, kO 1 [.ref w04, .ref w14, .ref w24, .int 0]), (w04, kI k 40 (fun _ => 0)), (w14, kI k 40 (fun _ => 0)), (w24, kI k 40 (fun _ => 0)), (q27_5, kO 5 [.ref w06, .ref w16, .ref w26, .int 0]), (w06, kI k 8 (fun _ => 0)), (w16, kI k 8 (fun _ => 0)), (w26, kZ k 8 (fun _ => 0))]) H := hP
          have hD : va_D A ([(w, kO 2 [.ref q5_1, .ref q16_3, .null, .int 0]), (q5_1, kO 4 [.ref w02, .ref w12, .ref w22, .ref w32, .ref w42, .ref w52, .ref w62, .int 0, .int 0, .int 0, .int 0, .int (-1), .int 0]), (w02, kI k 6 (fun _ => 0)), (w12, kI k 6 (fun _ => 0)), (w22, kI k 6 (fun _ => 0)), (w32, kI k 6 (fun _ => 0)), (w42, kI k 6 (fun _ => 0)), (w52, kI k 6 (fun _ => 0)), (w62, kI k 6 (fun _ => 0)), (q16_3, kO 1 [.ref w04, .ref w14, .ref w24, .int 0]), (w04, kI k 40 (fun _ => 0)), (w14, kI k 40 (fun _ => 0)), (w24, kI k 40 (fun _ => 0)), (q27_5, kO 5 [.ref w06, .ref w16, .ref w26, .int 0]), (w06, kI k 8 (fun _ => 0)), (w16, kI k 8 (fun _ => 0)), (w26, kZ k 8 (fun _ => 0))]) := hD
          refine va_putF (D := D) (ci := 2) (v := .ref q27_5) (ty := (.object "LastCook$Sights")) (C := RX2) (T := TX2) (N := 4) hx hb hts hi2 tyX2 tyX2_ok nmX2 hown hK hP hD hS 0 rfl rfl 2 (by decide) lf26 (fun _ h9 => h9) rfl hin rfl (by decide +kernel) rfl rfl (Nat.le_of_ble_eq_true rfl) dX2_init_34 (fun H locs hP hD hS => ?_)
          exact by
           have hP : va_P D vwCl ([(w, kO 2 [.ref q5_1, .ref q16_3, .ref q27_5, .int 0]), (q5_1, kO 4 [.ref w02, .ref w12, .ref w22, .ref w32, .ref w42, .ref w52, .ref w62, .int 0, .int 0, .int 0, .int 0, .int (-1), .int 0]), (w02, kI k 6 (fun _ => 0)), (w12, kI k 6 (fun _ => 0)), (w22, kI k 6 (fun _ => 0)), (w32, kI k 6 (fun _ => 0)), (w42, kI k 6 (fun _ => 0)), (w52, kI k 6 (fun _ => 0)), (w62, kI k 6 (fun _ => 0)), (q16_3, kO 1 [.ref w04, .ref w14, .ref w24, .int 0]), (w04, kI k 40 (fun _ => 0)), (w14, kI k 40 (fun _ => 0)), (w24, kI k 40 (fun _ => 0)), (q27_5, kO 5 [.ref w06, .ref w16, .ref w26, .int 0]), (w06, kI k 8 (fun _ => 0)), (w16, kI k 8 (fun _ => 0)), (w26, kZ k 8 (fun _ => 0))]) H := hP
           have hD : va_D A ([(w, kO 2 [.ref q5_1, .ref q16_3, .ref q27_5, .int 0]), (q5_1, kO 4 [.ref w02, .ref w12, .ref w22, .ref w32, .ref w42, .ref w52, .ref w62, .int 0, .int 0, .int 0, .int 0, .int (-1), .int 0]), (w02, kI k 6 (fun _ => 0)), (w12, kI k 6 (fun _ => 0)), (w22, kI k 6 (fun _ => 0)), (w32, kI k 6 (fun _ => 0)), (w42, kI k 6 (fun _ => 0)), (w52, kI k 6 (fun _ => 0)), (w62, kI k 6 (fun _ => 0)), (q16_3, kO 1 [.ref w04, .ref w14, .ref w24, .int 0]), (w04, kI k 40 (fun _ => 0)), (w14, kI k 40 (fun _ => 0)), (w24, kI k 40 (fun _ => 0)), (q27_5, kO 5 [.ref w06, .ref w16, .ref w26, .int 0]), (w06, kI k 8 (fun _ => 0)), (w16, kI k 8 (fun _ => 0)), (w26, kZ k 8 (fun _ => 0))]) := hD
           rw [hQ]
           have hP9 := hP.sub (ws' := [(w, kO 2 [.ref q5_1, .ref q16_3, .ref q27_5, .int 0]), (q5_1, kO 4 [.ref w02, .ref w12, .ref w22, .ref w32, .ref w42, .ref w52, .ref w62, .int 0, .int 0, .int 0, .int 0, .int (-1), .int 0]), (w02, kI k 6 (fun _ => 0)), (w12, kI k 6 (fun _ => 0)), (w22, kI k 6 (fun _ => 0)), (w32, kI k 6 (fun _ => 0)), (w42, kI k 6 (fun _ => 0)), (w52, kI k 6 (fun _ => 0)), (w62, kI k 6 (fun _ => 0)), (q16_3, kO 1 [.ref w04, .ref w14, .ref w24, .int 0]), (w04, kI k 40 (fun _ => 0)), (w14, kI k 40 (fun _ => 0)), (w24, kI k 40 (fun _ => 0)), (q27_5, kO 5 [.ref w06, .ref w16, .ref w26, .int 0]), (w06, kI k 8 (fun _ => 0)), (w16, kI k 8 (fun _ => 0)), (w26, kZ k 8 (fun _ => 0))]) [0, 1, 2, 3, 4, 5, 6, 7, 8, 9, 10, 11, 12, 13, 14, 15, 16] rfl
           have hD9 := hD.sub (ws' := [(w, kO 2 [.ref q5_1, .ref q16_3, .ref q27_5, .int 0]), (q5_1, kO 4 [.ref w02, .ref w12, .ref w22, .ref w32, .ref w42, .ref w52, .ref w62, .int 0, .int 0, .int 0, .int 0, .int (-1), .int 0]), (w02, kI k 6 (fun _ => 0)), (w12, kI k 6 (fun _ => 0)), (w22, kI k 6 (fun _ => 0)), (w32, kI k 6 (fun _ => 0)), (w42, kI k 6 (fun _ => 0)), (w52, kI k 6 (fun _ => 0)), (w62, kI k 6 (fun _ => 0)), (q16_3, kO 1 [.ref w04, .ref w14, .ref w24, .int 0]), (w04, kI k 40 (fun _ => 0)), (w14, kI k 40 (fun _ => 0)), (w24, kI k 40 (fun _ => 0)), (q27_5, kO 5 [.ref w06, .ref w16, .ref w26, .int 0]), (w06, kI k 8 (fun _ => 0)), (w16, kI k 8 (fun _ => 0)), (w26, kZ k 8 (fun _ => 0))]) [0, 1, 2, 3, 4, 5, 6, 7, 8, 9, 10, 11, 12, 13, 14, 15, 16] (by decide +kernel) rfl
           exact W.vret hx hb hr (fun zt ht hW => ⟨⟨⟨q5_1, w02, w12, w22, w32, w42, w52, w62, q16_3, w04, w14, w24, q27_5, w06, w16, w26⟩, rfl, trivial, by rw [ht]; exact hP9, hD9⟩, hS.F ht⟩) hS.2.2 dX2_init_37
