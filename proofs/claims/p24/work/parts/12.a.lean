theorem dX8_isWithin_0 : decode cX8_isWithin 0 = .ok (.iload_n 0, 1) := dk_iload_n_0 (by decide +kernel)
theorem dX8_isWithin_1 : decode cX8_isWithin 1 = .ok (.iload_n 1, 1) := dk_iload_n_1 (by decide +kernel)
theorem dX8_isWithin_2 : decode cX8_isWithin 2 = .ok (.if_icmp .lt 12, 3) := dk_if_icmp_lt (by decide +kernel)
theorem dX8_isWithin_5 : decode cX8_isWithin 5 = .ok (.iload_n 0, 1) := dk_iload_n_0 (by decide +kernel)
theorem dX8_isWithin_6 : decode cX8_isWithin 6 = .ok (.iload_n 2, 1) := dk_iload_n_2 (by decide +kernel)
theorem dX8_isWithin_7 : decode cX8_isWithin 7 = .ok (.if_icmp .gt 7, 3) := dk_if_icmp_gt (by decide +kernel)
theorem dX8_isWithin_10 : decode cX8_isWithin 10 = .ok (.iconst 1, 1) := dk_iconst_1 (by decide +kernel)
theorem dX8_isWithin_11 : decode cX8_isWithin 11 = .ok (.goto 4, 3) := dk_goto (by decide +kernel)
theorem dX8_isWithin_14 : decode cX8_isWithin 14 = .ok (.iconst 0, 1) := dk_iconst_0 (by decide +kernel)
theorem dX8_isWithin_15 : decode cX8_isWithin 15 = .ok (.ireturn, 1) := dk_ireturn (by decide +kernel)
set_option maxHeartbeats 4000000 in
set_option maxRecDepth 100000 in
theorem mX8_isWithin (l : Launch) (D : va_G) (k : Nat → ClassId) (sz : Nat) (a0 b0 c0 : Int32) : Met l yX8_isWithin wsX8_isWithin ({ frames := 0, cells := 0, slots := 0, locals := 0 }) (va_Pc [.int a0, .int b0, .int c0] (kz_Pre D k [] sz)) (va_Qi (fun (rr : Int32) (uu : Unit) => rr = bz (b0 ≤ a0 ∧ a0 ≤ c0)) (fun uu zt => kz_B D (va_A [] sz) [] zt) (va_A [] sz)) 0 0 (va_A [] sz) := by
  refine Met.ofW (cc := cX8_isWithin) (maxL := 3) (ret := (some .boolean)) (by decide) rfl ?_
  intro p e s m args below meth c s₁ B hml hv
  obtain ⟨hav, hsz, hP, hK, hD0, hE⟩ := hv
  have hx := B.exec
  have hb := B.bytes
  have hr := B.returns
  have hts := atoms_spec (ws := wsX8_isWithin) B.pre
  have hown : s.vm.findClass RX8 = some m.cls := findClass_of_methodNamed B.named
  have hlocks := B.notSynchronized
  subst hsz
  have hD := hD0.self (sz := s.heap.size)
  generalize hAe : va_A [] s.heap.size = A at hD ⊢
  have hA : ∀ q : Nat, s.heap.size ≤ q → A q := fun q h => by rw [← hAe]; exact Or.inr h
  have hS : va_S A s.heap s.heap [] := va_S.rf
  have hl := lv_entry ([.int a0, .int b0, .int c0]) (n := 3) (Nat.le_of_ble_eq_true rfl)
  rw [show entryFrame m args 3 = entryFrame m ([.int a0, .int b0, .int c0] : List Value).toArray 3 by rw [hav], lg_entry_eq]
  generalize (lg_sl ([.int a0, .int b0, .int c0]) ++ List.replicate (3 - (lg_sl ([.int a0, .int b0, .int c0])).length) Slot.unset).toArray = ls at hl ⊢
  have hl : lv_has ls 3 [(0, .int a0), (1, .int b0), (2, .int c0)] := hl
  obtain ⟨R, hR⟩ : ∃ R, R = (headSpec wsX8_isWithin ({ frames := 0, cells := 0, slots := 0, locals := 0 } : Room)).room := ⟨_, rfl⟩
  rw [← hR]
  generalize hQ : MQ below _ args s 0 0 A = Q
  replace hQ := hQ.symm
  obtain ⟨H, hH⟩ : ∃ H, H = s.heap := ⟨_, rfl⟩
  rw [← hH] at hP ⊢
  have hS : va_S A s.heap H [] := by rw [hH]; exact hS
  refine lv_iload_n hx hb dX8_isWithin_0 rfl (lv_at hl 0 rfl) ?_
  refine lv_iload_n hx hb dX8_isWithin_1 rfl (lv_at hl 1 rfl) ?_
  refine lv_icmp_lt (tgt := 14) hx hb dX8_isWithin_2 (by decide) (fun c_1 => ?_) (fun c_1 => ?_)
  · exact by
     refine lv_iconst (v := 0) hx hb dX8_isWithin_14 (by decide) ?_
     rw [hQ]
     have hP9 := hP.sub (ws' := []) [] rfl
     have hD9 := hD.sub (ws' := []) [] (by decide) rfl
     exact W.zret (v := 0) hx hb hr rfl (fun zt ht hW => ⟨⟨0, (), rfl, (bz_f (fun h => absurd h.1 (by first | exact c_1 | exact Int32.not_lt.mpr c_1 | exact Int32.not_le.mpr c_1))).symm, by rw [ht]; exact hP9, hD9⟩, hS.F ht⟩) hS.2.2 dX8_isWithin_15
  · exact by
     refine lv_iload_n hx hb dX8_isWithin_5 rfl (lv_at hl 0 rfl) ?_
     refine lv_iload_n hx hb dX8_isWithin_6 rfl (lv_at hl 2 rfl) ?_
     refine lv_icmp_gt (tgt := 14) hx hb dX8_isWithin_7 (by decide) (fun c_2 => ?_) (fun c_2 => ?_)
     · exact by
        refine lv_iconst (v := 0) hx hb dX8_isWithin_14 (by decide) ?_
        rw [hQ]
        have hP9 := hP.sub (ws' := []) [] rfl
        have hD9 := hD.sub (ws' := []) [] (by decide) rfl
        exact W.zret (v := 0) hx hb hr rfl (fun zt ht hW => ⟨⟨0, (), rfl, (bz_f (fun h => absurd h.2 (by first | exact c_2 | exact Int32.not_lt.mpr c_2 | exact Int32.not_le.mpr c_2))).symm, by rw [ht]; exact hP9, hD9⟩, hS.F ht⟩) hS.2.2 dX8_isWithin_15
     · exact by
        refine lv_iconst (v := 1) hx hb dX8_isWithin_10 (by decide) ?_
        refine lv_goto (tgt := 15) hx hb dX8_isWithin_11 (by decide) ?_
        rw [hQ]
        have hP9 := hP.sub (ws' := []) [] rfl
        have hD9 := hD.sub (ws' := []) [] (by decide) rfl
        exact W.zret (v := 1) hx hb hr rfl (fun zt ht hW => ⟨⟨1, (), rfl, (bz_t ⟨(by first | exact c_1 | exact Int32.not_lt.mp c_1 | exact Int32.not_le.mp c_1), (by first | exact c_2 | exact Int32.not_lt.mp c_2 | exact Int32.not_le.mp c_2)⟩).symm, by rw [ht]; exact hP9, hD9⟩, hS.F ht⟩) hS.2.2 dX8_isWithin_15
theorem dX9_within_0 : decode cX9_within 0 = .ok (.iload_n 0, 1) := dk_iload_n_0 (by decide +kernel)
theorem dX9_within_1 : decode cX9_within 1 = .ok (.iload_n 1, 1) := dk_iload_n_1 (by decide +kernel)
theorem dX9_within_2 : decode cX9_within 2 = .ok (.if_icmp .lt 12, 3) := dk_if_icmp_lt (by decide +kernel)
theorem dX9_within_5 : decode cX9_within 5 = .ok (.iload_n 0, 1) := dk_iload_n_0 (by decide +kernel)
theorem dX9_within_6 : decode cX9_within 6 = .ok (.iload_n 2, 1) := dk_iload_n_2 (by decide +kernel)
theorem dX9_within_7 : decode cX9_within 7 = .ok (.if_icmp .gt 7, 3) := dk_if_icmp_gt (by decide +kernel)
theorem dX9_within_10 : decode cX9_within 10 = .ok (.iconst 1, 1) := dk_iconst_1 (by decide +kernel)
theorem dX9_within_11 : decode cX9_within 11 = .ok (.goto 4, 3) := dk_goto (by decide +kernel)
theorem dX9_within_14 : decode cX9_within 14 = .ok (.iconst 0, 1) := dk_iconst_0 (by decide +kernel)
theorem dX9_within_15 : decode cX9_within 15 = .ok (.ireturn, 1) := dk_ireturn (by decide +kernel)
set_option maxHeartbeats 4000000 in
set_option maxRecDepth 100000 in
theorem mX9_within (l : Launch) (D : va_G) (k : Nat → ClassId) (sz : Nat) (a0 b0 c0 : Int32) : Met l yX9_within wsX9_within ({ frames := 0, cells := 0, slots := 0, locals := 0 }) (va_Pc [.int a0, .int b0, .int c0] (kz_Pre D k [] sz)) (va_Qi (fun (rr : Int32) (uu : Unit) => rr = bz (b0 ≤ a0 ∧ a0 ≤ c0)) (fun uu zt => kz_B D (va_A [] sz) [] zt) (va_A [] sz)) 0 0 (va_A [] sz) := by
  refine Met.ofW (cc := cX9_within) (maxL := 3) (ret := (some .boolean)) (by decide) rfl ?_
  intro p e s m args below meth c s₁ B hml hv
  obtain ⟨hav, hsz, hP, hK, hD0, hE⟩ := hv
  have hx := B.exec
  have hb := B.bytes
  have hr := B.returns
  have hts := atoms_spec (ws := wsX9_within) B.pre
  have hown : s.vm.findClass RX9 = some m.cls := findClass_of_methodNamed B.named
  have hlocks := B.notSynchronized
  subst hsz
  have hD := hD0.self (sz := s.heap.size)
  generalize hAe : va_A [] s.heap.size = A at hD ⊢
  have hA : ∀ q : Nat, s.heap.size ≤ q → A q := fun q h => by rw [← hAe]; exact Or.inr h
  have hS : va_S A s.heap s.heap [] := va_S.rf
  have hl := lv_entry ([.int a0, .int b0, .int c0]) (n := 3) (Nat.le_of_ble_eq_true rfl)
  rw [show entryFrame m args 3 = entryFrame m ([.int a0, .int b0, .int c0] : List Value).toArray 3 by rw [hav], lg_entry_eq]
  generalize (lg_sl ([.int a0, .int b0, .int c0]) ++ List.replicate (3 - (lg_sl ([.int a0, .int b0, .int c0])).length) Slot.unset).toArray = ls at hl ⊢
  have hl : lv_has ls 3 [(0, .int a0), (1, .int b0), (2, .int c0)] := hl
  obtain ⟨R, hR⟩ : ∃ R, R = (headSpec wsX9_within ({ frames := 0, cells := 0, slots := 0, locals := 0 } : Room)).room := ⟨_, rfl⟩
  rw [← hR]
  generalize hQ : MQ below _ args s 0 0 A = Q
  replace hQ := hQ.symm
  obtain ⟨H, hH⟩ : ∃ H, H = s.heap := ⟨_, rfl⟩
  rw [← hH] at hP ⊢
  have hS : va_S A s.heap H [] := by rw [hH]; exact hS
  refine lv_iload_n hx hb dX9_within_0 rfl (lv_at hl 0 rfl) ?_
  refine lv_iload_n hx hb dX9_within_1 rfl (lv_at hl 1 rfl) ?_
  refine lv_icmp_lt (tgt := 14) hx hb dX9_within_2 (by decide) (fun c_1 => ?_) (fun c_1 => ?_)
  · exact by
     refine lv_iconst (v := 0) hx hb dX9_within_14 (by decide) ?_
     rw [hQ]
     have hP9 := hP.sub (ws' := []) [] rfl
     have hD9 := hD.sub (ws' := []) [] (by decide) rfl
     exact W.zret (v := 0) hx hb hr rfl (fun zt ht hW => ⟨⟨0, (), rfl, (bz_f (fun h => absurd h.1 (by first | exact c_1 | exact Int32.not_lt.mpr c_1 | exact Int32.not_le.mpr c_1))).symm, by rw [ht]; exact hP9, hD9⟩, hS.F ht⟩) hS.2.2 dX9_within_15
  · exact by
     refine lv_iload_n hx hb dX9_within_5 rfl (lv_at hl 0 rfl) ?_
     refine lv_iload_n hx hb dX9_within_6 rfl (lv_at hl 2 rfl) ?_
     refine lv_icmp_gt (tgt := 14) hx hb dX9_within_7 (by decide) (fun c_2 => ?_) (fun c_2 => ?_)
     · exact by
        refine lv_iconst (v := 0) hx hb dX9_within_14 (by decide) ?_
        rw [hQ]
        have hP9 := hP.sub (ws' := []) [] rfl
        have hD9 := hD.sub (ws' := []) [] (by decide) rfl
        exact W.zret (v := 0) hx hb hr rfl (fun zt ht hW => ⟨⟨0, (), rfl, (bz_f (fun h => absurd h.2 (by first | exact c_2 | exact Int32.not_lt.mpr c_2 | exact Int32.not_le.mpr c_2))).symm, by rw [ht]; exact hP9, hD9⟩, hS.F ht⟩) hS.2.2 dX9_within_15
     · exact by
        refine lv_iconst (v := 1) hx hb dX9_within_10 (by decide) ?_
        refine lv_goto (tgt := 15) hx hb dX9_within_11 (by decide) ?_
        rw [hQ]
        have hP9 := hP.sub (ws' := []) [] rfl
        have hD9 := hD.sub (ws' := []) [] (by decide) rfl
        exact W.zret (v := 1) hx hb hr rfl (fun zt ht hW => ⟨⟨1, (), rfl, (bz_t ⟨(by first | exact c_1 | exact Int32.not_lt.mp c_1 | exact Int32.not_le.mp c_1), (by first | exact c_2 | exact Int32.not_lt.mp c_2 | exact Int32.not_le.mp c_2)⟩).symm, by rw [ht]; exact hP9, hD9⟩, hS.F ht⟩) hS.2.2 dX9_within_15
theorem dX4_isOnRoad_0 : decode cX4_isOnRoad 0 = .ok (.iload_n 1, 1) := dk_iload_n_1 (by decide +kernel)
theorem dX4_isOnRoad_1 : decode cX4_isOnRoad 1 = .ok (.ifCond .lt 22, 3) := dk_ifCond_lt (by decide +kernel)
theorem dX4_isOnRoad_4 : decode cX4_isOnRoad 4 = .ok (.iload_n 1, 1) := dk_iload_n_1 (by decide +kernel)
theorem dX4_isOnRoad_5 : decode cX4_isOnRoad 5 = .ok (.bipush 6, 2) := dk_bipush (by decide +kernel)
theorem dX4_isOnRoad_7 : decode cX4_isOnRoad 7 = .ok (.if_icmp .ge 16, 3) := dk_if_icmp_ge (by decide +kernel)
theorem dX4_isOnRoad_10 : decode cX4_isOnRoad 10 = .ok (.aload_n 0, 1) := dk_aload_n_0 (by decide +kernel)
theorem dX4_isOnRoad_11 : decode cX4_isOnRoad 11 = .ok (.getfield 9, 3) := dk_getfield (by decide +kernel)
theorem dX4_isOnRoad_14 : decode cX4_isOnRoad 14 = .ok (.iload_n 1, 1) := dk_iload_n_1 (by decide +kernel)
theorem dX4_isOnRoad_15 : decode cX4_isOnRoad 15 = .ok (.iaload, 1) := dk_iaload (by decide +kernel)
theorem dX4_isOnRoad_16 : decode cX4_isOnRoad 16 = .ok (.ifCond .le 7, 3) := dk_ifCond_le (by decide +kernel)
theorem dX4_isOnRoad_19 : decode cX4_isOnRoad 19 = .ok (.iconst 1, 1) := dk_iconst_1 (by decide +kernel)
theorem dX4_isOnRoad_20 : decode cX4_isOnRoad 20 = .ok (.goto 4, 3) := dk_goto (by decide +kernel)
theorem dX4_isOnRoad_23 : decode cX4_isOnRoad 23 = .ok (.iconst 0, 1) := dk_iconst_0 (by decide +kernel)
theorem dX4_isOnRoad_24 : decode cX4_isOnRoad 24 = .ok (.ireturn, 1) := dk_ireturn (by decide +kernel)
set_option maxHeartbeats 4000000 in
set_option maxRecDepth 100000 in
theorem mX4_isOnRoad (l : Launch) (D : va_G) (k : Nat → ClassId) (sz : Nat) (r r0 r1 r2 r3 r4 r5 r6 : Nat) (r_inside r_night r_minute r_tasted r_lastCook r_stirred : Int32) (f : Nat → Int32) (q : Int32) : Met l yX4_isOnRoad wsX4_isOnRoad ({ frames := 0, cells := 0, slots := 0, locals := 0 }) (va_Pc [.ref r, .int q] (kz_Pre D k [(r, kO 4 [.ref r0, .ref r1, .ref r2, .ref r3, .ref r4, .ref r5, .ref r6, .int r_inside, .int r_night, .int r_minute, .int r_tasted, .int r_lastCook, .int r_stirred]), (r0, kI k 6 f)] sz)) (va_Qi (fun (rr : Int32) (uu : Unit) => rr = bz (0 ≤ q ∧ q < 6 ∧ 0 < f (Int32.toNatClampNeg q))) (fun uu zt => kz_B D (va_A [(r, kO 4 [.ref r0, .ref r1, .ref r2, .ref r3, .ref r4, .ref r5, .ref r6, .int r_inside, .int r_night, .int r_minute, .int r_tasted, .int r_lastCook, .int r_stirred]), (r0, kI k 6 f)] sz) [(r, kO 4 [.ref r0, .ref r1, .ref r2, .ref r3, .ref r4, .ref r5, .ref r6, .int r_inside, .int r_night, .int r_minute, .int r_tasted, .int r_lastCook, .int r_stirred]), (r0, kI k 6 f)] zt) (va_A [(r, kO 4 [.ref r0, .ref r1, .ref r2, .ref r3, .ref r4, .ref r5, .ref r6, .int r_inside, .int r_night, .int r_minute, .int r_tasted, .int r_lastCook, .int r_stirred]), (r0, kI k 6 f)] sz)) 0 0 (va_A [(r, kO 4 [.ref r0, .ref r1, .ref r2, .ref r3, .ref r4, .ref r5, .ref r6, .int r_inside, .int r_night, .int r_minute, .int r_tasted, .int r_lastCook, .int r_stirred]), (r0, kI k 6 f)] sz) := by
  refine Met.ofW (cc := cX4_isOnRoad) (maxL := 2) (ret := (some .boolean)) (by decide) rfl ?_
  intro p e s m args below meth c s₁ B hml hv
  obtain ⟨hav, hsz, hP, hK, hD0, hE⟩ := hv
  have hx := B.exec
  have hb := B.bytes
  have hr := B.returns
  have hts := atoms_spec (ws := wsX4_isOnRoad) B.pre
  have hown : s.vm.findClass RX4 = some m.cls := findClass_of_methodNamed B.named
  have hlocks := B.notSynchronized
  have hi4 : ∀ w ∈ u_ws RX4 TX4 13, w ∈ wsX4_isOnRoad := fun w h9 => List.mem_cons_of_mem _ (List.mem_append_right _ h9)
  have lf9 := hts (.fieldLink RX4 9 "LastCook$Road" "yards" "[I") (List.mem_cons_of_mem _ (List.mem_append_left _ (List.mem_of_getElem? (i := 0) rfl)))
  subst hsz
  have hD := hD0.self (sz := s.heap.size)
  generalize hAe : va_A [(r, kO 4 [.ref r0, .ref r1, .ref r2, .ref r3, .ref r4, .ref r5, .ref r6, .int r_inside, .int r_night, .int r_minute, .int r_tasted, .int r_lastCook, .int r_stirred]), (r0, kI k 6 f)] s.heap.size = A at hD ⊢
  have hA : ∀ q : Nat, s.heap.size ≤ q → A q := fun q h => by rw [← hAe]; exact Or.inr h
  have hS : va_S A s.heap s.heap [] := va_S.rf
  have hl := lv_entry ([.ref r, .int q]) (n := 2) (Nat.le_of_ble_eq_true rfl)
  rw [show entryFrame m args 2 = entryFrame m ([.ref r, .int q] : List Value).toArray 2 by rw [hav], lg_entry_eq]
  generalize (lg_sl ([.ref r, .int q]) ++ List.replicate (2 - (lg_sl ([.ref r, .int q])).length) Slot.unset).toArray = ls at hl ⊢
  have hl : lv_has ls 2 [(0, .ref r), (1, .int q)] := hl
  obtain ⟨R, hR⟩ : ∃ R, R = (headSpec wsX4_isOnRoad ({ frames := 0, cells := 0, slots := 0, locals := 0 } : Room)).room := ⟨_, rfl⟩
  rw [← hR]
  generalize hQ : MQ below _ args s 0 0 A = Q
  replace hQ := hQ.symm
  obtain ⟨H, hH⟩ : ∃ H, H = s.heap := ⟨_, rfl⟩
  rw [← hH] at hP ⊢
  have hS : va_S A s.heap H [] := by rw [hH]; exact hS
  refine lv_iload_n hx hb dX4_isOnRoad_0 rfl (lv_at hl 1 rfl) ?_
  refine lv_if_lt (tgt := 23) hx hb dX4_isOnRoad_1 (by decide) (fun c_1 => ?_) (fun c_1 => ?_)
  · exact by
     refine lv_iconst (v := 0) hx hb dX4_isOnRoad_23 (by decide) ?_
     rw [hQ]
     have hP9 := hP.sub (ws' := [(r, kO 4 [.ref r0, .ref r1, .ref r2, .ref r3, .ref r4, .ref r5, .ref r6, .int r_inside, .int r_night, .int r_minute, .int r_tasted, .int r_lastCook, .int r_stirred]), (r0, kI k 6 f)]) [0, 1] rfl
     have hD9 := hD.sub (ws' := [(r, kO 4 [.ref r0, .ref r1, .ref r2, .ref r3, .ref r4, .ref r5, .ref r6, .int r_inside, .int r_night, .int r_minute, .int r_tasted, .int r_lastCook, .int r_stirred]), (r0, kI k 6 f)]) [0, 1] (by decide +kernel) rfl
     exact W.zret (v := 0) hx hb hr rfl (fun zt ht hW => ⟨⟨0, (), rfl, (bz_f (fun h => absurd h.1 (by first | exact c_1 | exact Int32.not_lt.mpr c_1 | exact Int32.not_le.mpr c_1))).symm, by rw [ht]; exact hP9, hD9⟩, hS.F ht⟩) hS.2.2 dX4_isOnRoad_24
  · exact by
     refine lv_iload_n hx hb dX4_isOnRoad_4 rfl (lv_at hl 1 rfl) ?_
     refine lv_bipush (v := 6) hx hb dX4_isOnRoad_5 (by decide) ?_
     refine lv_icmp_ge (tgt := 23) hx hb dX4_isOnRoad_7 (by decide) (fun c_2 => ?_) (fun c_2 => ?_)
     · exact by
        refine lv_iconst (v := 0) hx hb dX4_isOnRoad_23 (by decide) ?_
        rw [hQ]
        have hP9 := hP.sub (ws' := [(r, kO 4 [.ref r0, .ref r1, .ref r2, .ref r3, .ref r4, .ref r5, .ref r6, .int r_inside, .int r_night, .int r_minute, .int r_tasted, .int r_lastCook, .int r_stirred]), (r0, kI k 6 f)]) [0, 1] rfl
        have hD9 := hD.sub (ws' := [(r, kO 4 [.ref r0, .ref r1, .ref r2, .ref r3, .ref r4, .ref r5, .ref r6, .int r_inside, .int r_night, .int r_minute, .int r_tasted, .int r_lastCook, .int r_stirred]), (r0, kI k 6 f)]) [0, 1] (by decide +kernel) rfl
        exact W.zret (v := 0) hx hb hr rfl (fun zt ht hW => ⟨⟨0, (), rfl, (bz_f (fun h => absurd h.2.1 (by first | exact c_2 | exact Int32.not_lt.mpr c_2 | exact Int32.not_le.mpr c_2))).symm, by rw [ht]; exact hP9, hD9⟩, hS.F ht⟩) hS.2.2 dX4_isOnRoad_24
     · exact by
        refine lv_aload_n hx hb dX4_isOnRoad_10 rfl (lv_at hl 0 rfl) ?_
        refine va_get (D := D) (ci := 4) (v := .ref r0) (C := RX4) (T := TX4) (N := 13) hx hb hts hi4 hown hK hP 0 rfl rfl 0 (by decide) lf9 (fun _ h9 => h9) rfl dX4_isOnRoad_11 ?_
        refine lv_iload_n hx hb dX4_isOnRoad_14 rfl (lv_at hl 1 rfl) ?_
        refine va_iald hx hb hK hP 1 0 rfl rfl (vp_in_iff.mpr ⟨Int32.le_iff_toInt_le.mp (Int32.not_lt.mp c_1), Int32.lt_iff_toInt_lt.mp (Int32.not_le.mp c_2)⟩) dX4_isOnRoad_15 ?_
        refine lv_if_le (tgt := 23) hx hb dX4_isOnRoad_16 (by decide) (fun c_3 => ?_) (fun c_3 => ?_)
        · exact by
           refine lv_iconst (v := 0) hx hb dX4_isOnRoad_23 (by decide) ?_
           rw [hQ]
           have hP9 := hP.sub (ws' := [(r, kO 4 [.ref r0, .ref r1, .ref r2, .ref r3, .ref r4, .ref r5, .ref r6, .int r_inside, .int r_night, .int r_minute, .int r_tasted, .int r_lastCook, .int r_stirred]), (r0, kI k 6 f)]) [0, 1] rfl
           have hD9 := hD.sub (ws' := [(r, kO 4 [.ref r0, .ref r1, .ref r2, .ref r3, .ref r4, .ref r5, .ref r6, .int r_inside, .int r_night, .int r_minute, .int r_tasted, .int r_lastCook, .int r_stirred]), (r0, kI k 6 f)]) [0, 1] (by decide +kernel) rfl
           exact W.zret (v := 0) hx hb hr rfl (fun zt ht hW => ⟨⟨0, (), rfl, (bz_f (fun h => absurd h.2.2 (by first | exact c_3 | exact Int32.not_lt.mpr c_3 | exact Int32.not_le.mpr c_3))).symm, by rw [ht]; exact hP9, hD9⟩, hS.F ht⟩) hS.2.2 dX4_isOnRoad_24
        · exact by
           refine lv_iconst (v := 1) hx hb dX4_isOnRoad_19 (by decide) ?_
           refine lv_goto (tgt := 24) hx hb dX4_isOnRoad_20 (by decide) ?_
           rw [hQ]
           have hP9 := hP.sub (ws' := [(r, kO 4 [.ref r0, .ref r1, .ref r2, .ref r3, .ref r4, .ref r5, .ref r6, .int r_inside, .int r_night, .int r_minute, .int r_tasted, .int r_lastCook, .int r_stirred]), (r0, kI k 6 f)]) [0, 1] rfl
           have hD9 := hD.sub (ws' := [(r, kO 4 [.ref r0, .ref r1, .ref r2, .ref r3, .ref r4, .ref r5, .ref r6, .int r_inside, .int r_night, .int r_minute, .int r_tasted, .int r_lastCook, .int r_stirred]), (r0, kI k 6 f)]) [0, 1] (by decide +kernel) rfl
           exact W.zret (v := 1) hx hb hr rfl (fun zt ht hW => ⟨⟨1, (), rfl, (bz_t ⟨(by first | exact c_1 | exact Int32.not_lt.mp c_1 | exact Int32.not_le.mp c_1), (by first | exact c_2 | exact Int32.not_lt.mp c_2 | exact Int32.not_le.mp c_2), (by first | exact c_3 | exact Int32.not_lt.mp c_3 | exact Int32.not_le.mp c_3)⟩).symm, by rw [ht]; exact hP9, hD9⟩, hS.F ht⟩) hS.2.2 dX4_isOnRoad_24
theorem dX9_copies_0 : decode cX9_copies 0 = .ok (.iconst 0, 1) := dk_iconst_0 (by decide +kernel)
theorem dX9_copies_1 : decode cX9_copies 1 = .ok (.istore 4, 2) := dk_istore (by decide +kernel)
theorem dX9_copies_3 : decode cX9_copies 3 = .ok (.iload 4, 2) := dk_iload (by decide +kernel)
theorem dX9_copies_5 : decode cX9_copies 5 = .ok (.bipush 46, 2) := dk_bipush (by decide +kernel)
theorem dX9_copies_7 : decode cX9_copies 7 = .ok (.if_icmp .ge 21, 3) := dk_if_icmp_ge (by decide +kernel)
theorem dX9_copies_10 : decode cX9_copies 10 = .ok (.aload_n 2, 1) := dk_aload_n_2 (by decide +kernel)
theorem dX9_copies_11 : decode cX9_copies 11 = .ok (.iload_n 3, 1) := dk_iload_n_3 (by decide +kernel)
theorem dX9_copies_12 : decode cX9_copies 12 = .ok (.iload 4, 2) := dk_iload (by decide +kernel)
theorem dX9_copies_14 : decode cX9_copies 14 = .ok (.iadd, 1) := dk_iadd (by decide +kernel)
theorem dX9_copies_15 : decode cX9_copies 15 = .ok (.aload_n 0, 1) := dk_aload_n_0 (by decide +kernel)
theorem dX9_copies_16 : decode cX9_copies 16 = .ok (.iload_n 1, 1) := dk_iload_n_1 (by decide +kernel)
theorem dX9_copies_17 : decode cX9_copies 17 = .ok (.iload 4, 2) := dk_iload (by decide +kernel)
theorem dX9_copies_19 : decode cX9_copies 19 = .ok (.iadd, 1) := dk_iadd (by decide +kernel)
theorem dX9_copies_20 : decode cX9_copies 20 = .ok (.iaload, 1) := dk_iaload (by decide +kernel)
theorem dX9_copies_21 : decode cX9_copies 21 = .ok (.iastore, 1) := dk_iastore (by decide +kernel)
theorem dX9_copies_22 : decode cX9_copies 22 = .ok (.iinc 4 1, 3) := dk_iinc (by decide +kernel)
theorem dX9_copies_25 : decode cX9_copies 25 = .ok (.goto (-22), 3) := dk_goto (by decide +kernel)
theorem dX9_copies_28 : decode cX9_copies 28 = .ok (.return_, 1) := dk_return_ (by decide +kernel)
set_option maxHeartbeats 4000000 in
set_option maxRecDepth 100000 in
theorem mX9_copies (l : Launch) (D : va_G) (k : Nat → ClassId) (sz : Nat) (fa ta nf nt a b : Nat) (f g : Nat → Int32) (hn1 : a + 46 ≤ nf) (hn2 : b + 46 ≤ nt) (hn3 : nf < 10000) (hn4 : nt < 10000) : Met l yX9_copies wsX9_copies ({ frames := 0, cells := 0, slots := 0, locals := 0 }) (va_Pc [.ref fa, .int (nI a), .ref ta, .int (nI b)] (kz_Pre D k [(fa, kI k nf f), (ta, kI k nt g)] sz)) (va_Qv (fun (uu : Unit) => True) (fun uu zt => kz_B D (va_A [(fa, kI k nf f), (ta, kI k nt g)] sz) [(fa, kI k nf f), (ta, kI k nt (va_cpy f g a b 46))] zt) (va_A [(fa, kI k nf f), (ta, kI k nt g)] sz)) 0 0 (va_A [(fa, kI k nf f), (ta, kI k nt g)] sz) := by
  refine Met.ofW (cc := cX9_copies) (maxL := 5) (ret := none) (by decide) rfl ?_
  intro p e s m args below meth c s₁ B hml hv
  obtain ⟨hav, hsz, hP, hK, hD0, hE⟩ := hv
  have hx := B.exec
  have hb := B.bytes
  have hr := B.returns
  have hts := atoms_spec (ws := wsX9_copies) B.pre
  have hown : s.vm.findClass RX9 = some m.cls := findClass_of_methodNamed B.named
  have hlocks := B.notSynchronized
  subst hsz
  have hD := hD0.self (sz := s.heap.size)
  generalize hAe : va_A [(fa, kI k nf f), (ta, kI k nt g)] s.heap.size = A at hD ⊢
  have hA : ∀ q : Nat, s.heap.size ≤ q → A q := fun q h => by rw [← hAe]; exact Or.inr h
  have hS : va_S A s.heap s.heap [] := va_S.rf
  have hl := lv_entry ([.ref fa, .int (nI a), .ref ta, .int (nI b)]) (n := 5) (Nat.le_of_ble_eq_true rfl)
  rw [show entryFrame m args 5 = entryFrame m ([.ref fa, .int (nI a), .ref ta, .int (nI b)] : List Value).toArray 5 by rw [hav], lg_entry_eq]
  generalize (lg_sl ([.ref fa, .int (nI a), .ref ta, .int (nI b)]) ++ List.replicate (5 - (lg_sl ([.ref fa, .int (nI a), .ref ta, .int (nI b)])).length) Slot.unset).toArray = ls at hl ⊢
  have hl : lv_has ls 5 [(0, .ref fa), (1, .int (nI a)), (2, .ref ta), (3, .int (nI b))] := hl
  obtain ⟨R, hR⟩ : ∃ R, R = (headSpec wsX9_copies ({ frames := 0, cells := 0, slots := 0, locals := 0 } : Room)).room := ⟨_, rfl⟩
  rw [← hR]
  generalize hQ : MQ below _ args s 0 0 A = Q
  replace hQ := hQ.symm
  obtain ⟨H, hH⟩ : ∃ H, H = s.heap := ⟨_, rfl⟩
  rw [← hH] at hP ⊢
  have hS : va_S A s.heap H [] := by rw [hH]; exact hS
  refine lv_iconst (v := 0) hx hb dX9_copies_0 (by decide) ?_
  refine lv_istore (lv' := [(4, .int 0), (0, .ref fa), (1, .int (nI a)), (2, .ref ta), (3, .int (nI b))]) hx hb dX9_copies_1 hl (by decide) rfl (fun ls hl => ?_)
  exact by
   have hloop3 : ∀ (n : Nat) (j : Nat), 46 - j < n → (j ≤ 46) → ∀ (H : Heap) (locs : List Loc) (ls : Array Slot), va_P D vwCl [(fa, kI k nf f), (ta, kI k nt (va_cpy f g a b j))] H → va_D A [(fa, kI k nf f), (ta, kI k nt (va_cpy f g a b j))] → va_S A s.heap H locs → lv_has ls 5 [(4, .int (nI j)), (0, .ref fa), (1, .int (nI a)), (2, .ref ta), (3, .int (nI b))] → W p l e R s m args below meth c H locs 0 0 Q (F0 m 3 ls []) := by
     intro n3
     induction n3 with
     | zero => intro j hm; exact absurd hm (Nat.not_lt_zero _)
     | succ n3 ih3 =>
       intro j hm3 hj H locs ls hP hD hS hl
       refine lv_iload hx hb dX9_copies_3 (lv_at hl 0 rfl) ?_
       refine lv_bipush (v := 46) hx hb dX9_copies_5 (by decide) ?_
       refine lv_icmp_ge (tgt := 28) hx hb dX9_copies_7 (by decide) (fun c_1 => ?_) (fun c_1 => ?_)
       · exact by
          have k_1 : 46 ≤ j := (nI_leI (a := 46) (b := j) (by omega) (by omega)).mp c_1
          obtain rfl : j = 46 := by omega
          rw [hQ]
          have hP9 := hP.sub (ws' := [(fa, kI k nf f), (ta, kI k nt (va_cpy f g a b 46))]) [0, 1] rfl
          have hD9 := hD.sub (ws' := [(fa, kI k nf f), (ta, kI k nt (va_cpy f g a b 46))]) [0, 1] (by decide +kernel) rfl
          exact W.vret hx hb hr (fun zt ht hW => ⟨⟨(), rfl, trivial, by rw [ht]; exact hP9, hD9⟩, hS.F ht⟩) hS.2.2 dX9_copies_28
       · exact by
          have k_1 : ¬ (46 ≤ j) := fun h => c_1 ((nI_leI (a := 46) (b := j) (by omega) (by omega)).mpr h)
          refine lv_aload_n hx hb dX9_copies_10 rfl (lv_at hl 3 rfl) ?_
          refine lv_iload_n hx hb dX9_copies_11 rfl (lv_at hl 4 rfl) ?_
          refine lv_iload hx hb dX9_copies_12 (lv_at hl 0 rfl) ?_
          refine lv_iadd hx hb dX9_copies_14 ?_
          refine lv_topi (fun x2 ex2 => ?_)
          exact by
           obtain rfl : x2 = (nI (b + j)) := ex2.trans (nI_add b j)
           refine lv_aload_n hx hb dX9_copies_15 rfl (lv_at hl 1 rfl) ?_
           refine lv_iload_n hx hb dX9_copies_16 rfl (lv_at hl 2 rfl) ?_
           refine lv_iload hx hb dX9_copies_17 (lv_at hl 0 rfl) ?_
           refine lv_iadd hx hb dX9_copies_19 ?_
           refine lv_topi (fun x3 ex3 => ?_)
           exact by
            obtain rfl : x3 = (nI (a + j)) := ex3.trans (nI_add a j)
            refine va_iald hx hb hK hP 0 0 rfl rfl (vp_in_nI (n := (a + j)) (by omega) (by omega)) dX9_copies_20 ?_
            refine va_iast hx hb hK hP hD hS 1 0 rfl rfl (vp_in_nI (n := (b + j)) (by omega) (by omega)) dX9_copies_21 (fun H locs hP hD hS => ?_)
            exact by
             have hP : va_P D vwCl [(fa, kI k nf f), (ta, kI k nt (upd (va_cpy f g a b j) (Int32.toNatClampNeg (nI (b + j))) (f (Int32.toNatClampNeg (nI (a + j))))))] H := hP
             have hD : va_D A [(fa, kI k nf f), (ta, kI k nt (upd (va_cpy f g a b j) (Int32.toNatClampNeg (nI (b + j))) (f (Int32.toNatClampNeg (nI (a + j))))))] := hD
             rw [cpy_st (by omega) (by omega)] at hP hD
             have hP : va_P D vwCl [(fa, kI k nf f), (ta, kI k nt (va_cpy f g a b (j + 1)))] H := hP
             have hD : va_D A [(fa, kI k nf f), (ta, kI k nt (va_cpy f g a b (j + 1)))] := hD
             refine lv_iinc (v := (nI (j + 1))) (lv' := [(4, .int (nI (j + 1))), (0, .ref fa), (1, .int (nI a)), (2, .ref ta), (3, .int (nI b))]) hx hb dX9_copies_22 hl (k := 0) rfl (nI_1 _) (by decide) rfl (fun ls hl => ?_)
             exact by
              refine lv_goto (tgt := 3) hx hb dX9_copies_25 (by decide) ?_
              exact ih3 (j + 1) (by omega) (by omega) _ _ _ (hP.sub [0, 1] rfl) (hD.sub [0, 1] (by decide +kernel) rfl) hS (lv_sub hl [0, 1, 2, 3, 4] rfl)
   rw [← cpy_0 (f := f) (g := g) (a := a) (b := b)] at hP hD
   have hP : va_P D vwCl [(fa, kI k nf f), (ta, kI k nt (va_cpy f g a b 0))] H := hP
   have hD : va_D A [(fa, kI k nf f), (ta, kI k nt (va_cpy f g a b 0))] := hD
   exact hloop3 ((46 - 0) + 1) 0 (Nat.lt_succ_self _) (by omega) _ _ _ (hP.sub [0, 1] rfl) (hD.sub [0, 1] (by decide +kernel) rfl) hS (lv_sub hl [0, 1, 2, 3, 4] rfl)
theorem dX9_bits_0 : decode cX9_bits 0 = .ok (.iconst 0, 1) := dk_iconst_0 (by decide +kernel)
theorem dX9_bits_1 : decode cX9_bits 1 = .ok (.istore_n 1, 1) := dk_istore_n_1 (by decide +kernel)
theorem dX9_bits_2 : decode cX9_bits 2 = .ok (.iconst 0, 1) := dk_iconst_0 (by decide +kernel)
theorem dX9_bits_3 : decode cX9_bits 3 = .ok (.istore_n 2, 1) := dk_istore_n_2 (by decide +kernel)
theorem dX9_bits_4 : decode cX9_bits 4 = .ok (.iload_n 2, 1) := dk_iload_n_2 (by decide +kernel)
theorem dX9_bits_5 : decode cX9_bits 5 = .ok (.bipush 6, 2) := dk_bipush (by decide +kernel)
theorem dX9_bits_7 : decode cX9_bits 7 = .ok (.if_icmp .ge 17, 3) := dk_if_icmp_ge (by decide +kernel)
theorem dX9_bits_10 : decode cX9_bits 10 = .ok (.iload_n 1, 1) := dk_iload_n_1 (by decide +kernel)
theorem dX9_bits_11 : decode cX9_bits 11 = .ok (.iload_n 0, 1) := dk_iload_n_0 (by decide +kernel)
theorem dX9_bits_12 : decode cX9_bits 12 = .ok (.iload_n 2, 1) := dk_iload_n_2 (by decide +kernel)
theorem dX9_bits_13 : decode cX9_bits 13 = .ok (.ishr, 1) := dk_ishr (by decide +kernel)
theorem dX9_bits_14 : decode cX9_bits 14 = .ok (.iconst 1, 1) := dk_iconst_1 (by decide +kernel)
theorem dX9_bits_15 : decode cX9_bits 15 = .ok (.iand, 1) := dk_iand (by decide +kernel)
theorem dX9_bits_16 : decode cX9_bits 16 = .ok (.iadd, 1) := dk_iadd (by decide +kernel)
theorem dX9_bits_17 : decode cX9_bits 17 = .ok (.istore_n 1, 1) := dk_istore_n_1 (by decide +kernel)
theorem dX9_bits_18 : decode cX9_bits 18 = .ok (.iinc 2 1, 3) := dk_iinc (by decide +kernel)
theorem dX9_bits_21 : decode cX9_bits 21 = .ok (.goto (-17), 3) := dk_goto (by decide +kernel)
theorem dX9_bits_24 : decode cX9_bits 24 = .ok (.iload_n 1, 1) := dk_iload_n_1 (by decide +kernel)
theorem dX9_bits_25 : decode cX9_bits 25 = .ok (.ireturn, 1) := dk_ireturn (by decide +kernel)
set_option maxHeartbeats 4000000 in
set_option maxRecDepth 100000 in
theorem mX9_bits (l : Launch) (D : va_G) (k : Nat → ClassId) (sz : Nat) : Met l yX9_bits wsX9_bits ({ frames := 0, cells := 0, slots := 0, locals := 0 }) (va_Pc [.int 0] (kz_Pre D k [] sz)) (va_Qi (fun (rr : Int32) (uu : Unit) => rr = 0) (fun uu zt => kz_B D (va_A [] sz) [] zt) (va_A [] sz)) 0 0 (va_A [] sz) := by
  refine Met.ofW (cc := cX9_bits) (maxL := 3) (ret := (some .int)) (by decide) rfl ?_
  intro p e s m args below meth c s₁ B hml hv
  obtain ⟨hav, hsz, hP, hK, hD0, hE⟩ := hv
  have hx := B.exec
  have hb := B.bytes
  have hr := B.returns
  have hts := atoms_spec (ws := wsX9_bits) B.pre
  have hown : s.vm.findClass RX9 = some m.cls := findClass_of_methodNamed B.named
  have hlocks := B.notSynchronized
  subst hsz
  have hD := hD0.self (sz := s.heap.size)
  generalize hAe : va_A [] s.heap.size = A at hD ⊢
  have hA : ∀ q : Nat, s.heap.size ≤ q → A q := fun q h => by rw [← hAe]; exact Or.inr h
  have hS : va_S A s.heap s.heap [] := va_S.rf
  have hl := lv_entry ([.int 0]) (n := 3) (Nat.le_of_ble_eq_true rfl)
  rw [show entryFrame m args 3 = entryFrame m ([.int 0] : List Value).toArray 3 by rw [hav], lg_entry_eq]
  generalize (lg_sl ([.int 0]) ++ List.replicate (3 - (lg_sl ([.int 0])).length) Slot.unset).toArray = ls at hl ⊢
  have hl : lv_has ls 3 [(0, .int 0)] := hl
  obtain ⟨R, hR⟩ : ∃ R, R = (headSpec wsX9_bits ({ frames := 0, cells := 0, slots := 0, locals := 0 } : Room)).room := ⟨_, rfl⟩
  rw [← hR]
  generalize hQ : MQ below _ args s 0 0 A = Q
  replace hQ := hQ.symm
  obtain ⟨H, hH⟩ : ∃ H, H = s.heap := ⟨_, rfl⟩
  rw [← hH] at hP ⊢
  have hS : va_S A s.heap H [] := by rw [hH]; exact hS
  refine lv_iconst (v := 0) hx hb dX9_bits_0 (by decide) ?_
  refine lv_istore_n (lv' := [(1, .int 0), (0, .int 0)]) hx hb dX9_bits_1 rfl hl (by decide) rfl (fun ls hl => ?_)
  exact by
   refine lv_iconst (v := 0) hx hb dX9_bits_2 (by decide) ?_
   refine lv_istore_n (lv' := [(2, .int 0), (1, .int 0), (0, .int 0)]) hx hb dX9_bits_3 rfl hl (by decide) rfl (fun ls hl => ?_)
   exact by
    refine lv_iload_n hx hb dX9_bits_4 rfl (lv_at hl 0 rfl) ?_
    refine lv_bipush (v := 6) hx hb dX9_bits_5 (by decide) ?_
    refine lv_icmp_ge (tgt := 24) hx hb dX9_bits_7 (by decide) (fun c_1 => absurd c_1 (by decide)) (fun c_1 => ?_)
    exact by
     refine lv_iload_n hx hb dX9_bits_10 rfl (lv_at hl 1 rfl) ?_
     refine lv_iload_n hx hb dX9_bits_11 rfl (lv_at hl 2 rfl) ?_
     refine lv_iload_n hx hb dX9_bits_12 rfl (lv_at hl 0 rfl) ?_
     refine lv_ishr hx hb dX9_bits_13 ?_
     refine lv_topi (fun x2 ex2 => ?_)
     exact by
      obtain rfl : x2 = 0 := ex2.trans (by decide)
      refine lv_iconst (v := 1) hx hb dX9_bits_14 (by decide) ?_
      refine lv_iand hx hb dX9_bits_15 ?_
      refine lv_topi (fun x3 ex3 => ?_)
      exact by
       obtain rfl : x3 = 0 := ex3.trans (by decide)
       refine lv_iadd hx hb dX9_bits_16 ?_
       refine lv_topi (fun x4 ex4 => ?_)
       exact by
        obtain rfl : x4 = 0 := ex4.trans (by decide)
        refine lv_istore_n (lv' := [(1, .int 0), (2, .int 0), (0, .int 0)]) hx hb dX9_bits_17 rfl hl (by decide) rfl (fun ls hl => ?_)
        exact by
         refine lv_iinc (v := 1) (lv' := [(2, .int 1), (1, .int 0), (0, .int 0)]) hx hb dX9_bits_18 hl (k := 1) rfl (by decide) (by decide) rfl (fun ls hl => ?_)
         exact by
          refine lv_goto (tgt := 4) hx hb dX9_bits_21 (by decide) ?_
          refine lv_iload_n hx hb dX9_bits_4 rfl (lv_at hl 0 rfl) ?_
          refine lv_bipush (v := 6) hx hb dX9_bits_5 (by decide) ?_
          refine lv_icmp_ge (tgt := 24) hx hb dX9_bits_7 (by decide) (fun c_5 => absurd c_5 (by decide)) (fun c_5 => ?_)
          exact by
           refine lv_iload_n hx hb dX9_bits_10 rfl (lv_at hl 1 rfl) ?_
           refine lv_iload_n hx hb dX9_bits_11 rfl (lv_at hl 2 rfl) ?_
           refine lv_iload_n hx hb dX9_bits_12 rfl (lv_at hl 0 rfl) ?_
           refine lv_ishr hx hb dX9_bits_13 ?_
           refine lv_topi (fun x6 ex6 => ?_)
           exact by
            obtain rfl : x6 = 0 := ex6.trans (by decide)
            refine lv_iconst (v := 1) hx hb dX9_bits_14 (by decide) ?_
            refine lv_iand hx hb dX9_bits_15 ?_
            refine lv_topi (fun x7 ex7 => ?_)
            exact by
             obtain rfl : x7 = 0 := ex7.trans (by decide)
             refine lv_iadd hx hb dX9_bits_16 ?_
             refine lv_topi (fun x8 ex8 => ?_)
             exact by
              obtain rfl : x8 = 0 := ex8.trans (by decide)
              refine lv_istore_n (lv' := [(1, .int 0), (2, .int 1), (0, .int 0)]) hx hb dX9_bits_17 rfl hl (by decide) rfl (fun ls hl => ?_)
              exact by
               refine lv_iinc (v := 2) (lv' := [(2, .int 2), (1, .int 0), (0, .int 0)]) hx hb dX9_bits_18 hl (k := 1) rfl (by decide) (by decide) rfl (fun ls hl => ?_)
               exact by
                refine lv_goto (tgt := 4) hx hb dX9_bits_21 (by decide) ?_
                refine lv_iload_n hx hb dX9_bits_4 rfl (lv_at hl 0 rfl) ?_
                refine lv_bipush (v := 6) hx hb dX9_bits_5 (by decide) ?_
                refine lv_icmp_ge (tgt := 24) hx hb dX9_bits_7 (by decide) (fun c_9 => absurd c_9 (by decide)) (fun c_9 => ?_)
                exact by
                 refine lv_iload_n hx hb dX9_bits_10 rfl (lv_at hl 1 rfl) ?_
                 refine lv_iload_n hx hb dX9_bits_11 rfl (lv_at hl 2 rfl) ?_
                 refine lv_iload_n hx hb dX9_bits_12 rfl (lv_at hl 0 rfl) ?_
                 refine lv_ishr hx hb dX9_bits_13 ?_
                 refine lv_topi (fun x10 ex10 => ?_)
                 exact by
                  obtain rfl : x10 = 0 := ex10.trans (by decide)
                  refine lv_iconst (v := 1) hx hb dX9_bits_14 (by decide) ?_
                  refine lv_iand hx hb dX9_bits_15 ?_
                  refine lv_topi (fun x11 ex11 => ?_)
                  exact by
                   obtain rfl : x11 = 0 := ex11.trans (by decide)
                   refine lv_iadd hx hb dX9_bits_16 ?_
                   refine lv_topi (fun x12 ex12 => ?_)
                   exact by
                    obtain rfl : x12 = 0 := ex12.trans (by decide)
                    refine lv_istore_n (lv' := [(1, .int 0), (2, .int 2), (0, .int 0)]) hx hb dX9_bits_17 rfl hl (by decide) rfl (fun ls hl => ?_)
                    exact by
                     refine lv_iinc (v := 3) (lv' := [(2, .int 3), (1, .int 0), (0, .int 0)]) hx hb dX9_bits_18 hl (k := 1) rfl (by decide) (by decide) rfl (fun ls hl => ?_)
                     exact by
                      refine lv_goto (tgt := 4) hx hb dX9_bits_21 (by decide) ?_
                      refine lv_iload_n hx hb dX9_bits_4 rfl (lv_at hl 0 rfl) ?_
                      refine lv_bipush (v := 6) hx hb dX9_bits_5 (by decide) ?_
                      refine lv_icmp_ge (tgt := 24) hx hb dX9_bits_7 (by decide) (fun c_13 => absurd c_13 (by decide)) (fun c_13 => ?_)
                      exact by
                       refine lv_iload_n hx hb dX9_bits_10 rfl (lv_at hl 1 rfl) ?_
                       refine lv_iload_n hx hb dX9_bits_11 rfl (lv_at hl 2 rfl) ?_
                       refine lv_iload_n hx hb dX9_bits_12 rfl (lv_at hl 0 rfl) ?_
                       refine lv_ishr hx hb dX9_bits_13 ?_
                       refine lv_topi (fun x14 ex14 => ?_)
                       exact by
                        obtain rfl : x14 = 0 := ex14.trans (by decide)
                        refine lv_iconst (v := 1) hx hb dX9_bits_14 (by decide) ?_
                        refine lv_iand hx hb dX9_bits_15 ?_
                        refine lv_topi (fun x15 ex15 => ?_)
                        exact by
                         obtain rfl : x15 = 0 := ex15.trans (by decide)
                         refine lv_iadd hx hb dX9_bits_16 ?_
                         refine lv_topi (fun x16 ex16 => ?_)
                         exact by
                          obtain rfl : x16 = 0 := ex16.trans (by decide)
                          refine lv_istore_n (lv' := [(1, .int 0), (2, .int 3), (0, .int 0)]) hx hb dX9_bits_17 rfl hl (by decide) rfl (fun ls hl => ?_)
                          exact by
                           refine lv_iinc (v := 4) (lv' := [(2, .int 4), (1, .int 0), (0, .int 0)]) hx hb dX9_bits_18 hl (k := 1) rfl (by decide) (by decide) rfl (fun ls hl => ?_)
                           exact by
                            refine lv_goto (tgt := 4) hx hb dX9_bits_21 (by decide) ?_
                            refine lv_iload_n hx hb dX9_bits_4 rfl (lv_at hl 0 rfl) ?_
                            refine lv_bipush (v := 6) hx hb dX9_bits_5 (by decide) ?_
                            refine lv_icmp_ge (tgt := 24) hx hb dX9_bits_7 (by decide) (fun c_17 => absurd c_17 (by decide)) (fun c_17 => ?_)
                            exact by
                             refine lv_iload_n hx hb dX9_bits_10 rfl (lv_at hl 1 rfl) ?_
                             refine lv_iload_n hx hb dX9_bits_11 rfl (lv_at hl 2 rfl) ?_
                             refine lv_iload_n hx hb dX9_bits_12 rfl (lv_at hl 0 rfl) ?_
                             refine lv_ishr hx hb dX9_bits_13 ?_
                             refine lv_topi (fun x18 ex18 => ?_)
                             exact by
                              obtain rfl : x18 = 0 := ex18.trans (by decide)
                              refine lv_iconst (v := 1) hx hb dX9_bits_14 (by decide) ?_
                              refine lv_iand hx hb dX9_bits_15 ?_
                              refine lv_topi (fun x19 ex19 => ?_)
                              exact by
                               obtain rfl : x19 = 0 := ex19.trans (by decide)
                               refine lv_iadd hx hb dX9_bits_16 ?_
                               refine lv_topi (fun x20 ex20 => ?_)
                               exact by
                                obtain rfl : x20 = 0 := ex20.trans (by decide)
                                refine lv_istore_n (lv' := [(1, .int 0), (2, .int 4), (0, .int 0)]) hx hb dX9_bits_17 rfl hl (by decide) rfl (fun ls hl => ?_)
                                exact by
                                 refine lv_iinc (v := 5) (lv' := [(2, .int 5), (1, .int 0), (0, .int 0)]) hx hb dX9_bits_18 hl (k := 1) rfl (by decide) (by decide) rfl (fun ls hl => ?_)
                                 exact by
                                  refine lv_goto (tgt := 4) hx hb dX9_bits_21 (by decide) ?_
                                  refine lv_iload_n hx hb dX9_bits_4 rfl (lv_at hl 0 rfl) ?_
                                  refine lv_bipush (v := 6) hx hb dX9_bits_5 (by decide) ?_
                                  refine lv_icmp_ge (tgt := 24) hx hb dX9_bits_7 (by decide) (fun c_21 => absurd c_21 (by decide)) (fun c_21 => ?_)
                                  exact by
                                   refine lv_iload_n hx hb dX9_bits_10 rfl (lv_at hl 1 rfl) ?_
                                   refine lv_iload_n hx hb dX9_bits_11 rfl (lv_at hl 2 rfl) ?_
                                   refine lv_iload_n hx hb dX9_bits_12 rfl (lv_at hl 0 rfl) ?_
                                   refine lv_ishr hx hb dX9_bits_13 ?_
                                   refine lv_topi (fun x22 ex22 => ?_)
                                   exact by
                                    obtain rfl : x22 = 0 := ex22.trans (by decide)
                                    refine lv_iconst (v := 1) hx hb dX9_bits_14 (by decide) ?_
                                    refine lv_iand hx hb dX9_bits_15 ?_
                                    refine lv_topi (fun x23 ex23 => ?_)
                                    exact by
                                     obtain rfl : x23 = 0 := ex23.trans (by decide)
                                     refine lv_iadd hx hb dX9_bits_16 ?_
                                     refine lv_topi (fun x24 ex24 => ?_)
                                     exact by
                                      obtain rfl : x24 = 0 := ex24.trans (by decide)
                                      refine lv_istore_n (lv' := [(1, .int 0), (2, .int 5), (0, .int 0)]) hx hb dX9_bits_17 rfl hl (by decide) rfl (fun ls hl => ?_)
                                      exact by
                                       refine lv_iinc (v := 6) (lv' := [(2, .int 6), (1, .int 0), (0, .int 0)]) hx hb dX9_bits_18 hl (k := 1) rfl (by decide) (by decide) rfl (fun ls hl => ?_)
                                       exact by
                                        refine lv_goto (tgt := 4) hx hb dX9_bits_21 (by decide) ?_
                                        refine lv_iload_n hx hb dX9_bits_4 rfl (lv_at hl 0 rfl) ?_
                                        refine lv_bipush (v := 6) hx hb dX9_bits_5 (by decide) ?_
                                        refine lv_icmp_ge (tgt := 24) hx hb dX9_bits_7 (by decide) (fun c_25 => ?_) (fun c_25 => absurd (by decide) c_25)
                                        refine lv_iload_n hx hb dX9_bits_24 rfl (lv_at hl 1 rfl) ?_
                                        rw [hQ]
                                        have hP9 := hP.sub (ws' := []) [] rfl
                                        have hD9 := hD.sub (ws' := []) [] (by decide) rfl
                                        exact W.iret (v := 0) hx hb hr (fun zt ht hW => ⟨⟨0, (), rfl, rfl, by rw [ht]; exact hP9, hD9⟩, hS.F ht⟩) hS.2.2 dX9_bits_25
