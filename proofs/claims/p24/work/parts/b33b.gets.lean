theorem dX9_getsBy_0 : decode cX9_getsBy 0 = .ok (.iload_n 3, 1) := dk_iload_n_3 (by decide +kernel)
theorem dX9_getsBy_1 : decode cX9_getsBy 1 = .ok (.iconst 1, 1) := dk_iconst_1 (by decide +kernel)
theorem dX9_getsBy_2 : decode cX9_getsBy 2 = .ok (.if_icmp .ne 18, 3) := dk_if_icmp_ne (by decide +kernel)
theorem dX9_getsBy_5 : decode cX9_getsBy 5 = .ok (.iload 4, 2) := dk_iload (by decide +kernel)
theorem dX9_getsBy_7 : decode cX9_getsBy 7 = .ok (.iconst 1, 1) := dk_iconst_1 (by decide +kernel)
theorem dX9_getsBy_8 : decode cX9_getsBy 8 = .ok (.if_icmp .ne 8, 3) := dk_if_icmp_ne (by decide +kernel)
theorem dX9_getsBy_11 : decode cX9_getsBy 11 = .ok (.iload_n 0, 1) := dk_iload_n_0 (by decide +kernel)
theorem dX9_getsBy_12 : decode cX9_getsBy 12 = .ok (.ineg, 1) := dk_ineg (by decide +kernel)
theorem dX9_getsBy_13 : decode cX9_getsBy 13 = .ok (.goto 18, 3) := dk_goto (by decide +kernel)
theorem dX9_getsBy_16 : decode cX9_getsBy 16 = .ok (.iload_n 1, 1) := dk_iload_n_1 (by decide +kernel)
theorem dX9_getsBy_17 : decode cX9_getsBy 17 = .ok (.goto 14, 3) := dk_goto (by decide +kernel)
theorem dX9_getsBy_20 : decode cX9_getsBy 20 = .ok (.iload 4, 2) := dk_iload (by decide +kernel)
theorem dX9_getsBy_22 : decode cX9_getsBy 22 = .ok (.iconst 1, 1) := dk_iconst_1 (by decide +kernel)
theorem dX9_getsBy_23 : decode cX9_getsBy 23 = .ok (.if_icmp .ne 7, 3) := dk_if_icmp_ne (by decide +kernel)
theorem dX9_getsBy_26 : decode cX9_getsBy 26 = .ok (.iload_n 2, 1) := dk_iload_n_2 (by decide +kernel)
theorem dX9_getsBy_27 : decode cX9_getsBy 27 = .ok (.goto 4, 3) := dk_goto (by decide +kernel)
theorem dX9_getsBy_30 : decode cX9_getsBy 30 = .ok (.iconst 0, 1) := dk_iconst_0 (by decide +kernel)
theorem dX9_getsBy_31 : decode cX9_getsBy 31 = .ok (.ireturn, 1) := dk_ireturn (by decide +kernel)
set_option maxHeartbeats 4000000 in
set_option maxRecDepth 100000 in
theorem mX9_getsBy (l : Launch) (D : va_G) (k : Nat → ClassId) (sz : Nat) (q1 : Int32) (q2 : Int32) (q3 : Int32) (q4 : Int32) (q5 : Int32) : Met l yX9_getsBy wsX9_getsBy ({ frames := 0, cells := 0, slots := 0, locals := 0 }) (va_Pc [.int q1, .int q2, .int q3, .int q4, .int q5] (kz_Pre D k [] sz)) (va_Qi (fun (rr : Int32) (uu : Unit) => rr = gm q1 q2 q3 q4 q5) (fun uu zt => kz_B D (va_A [] sz) [] zt) (va_A [] sz)) 0 0 (va_A [] sz) := by
  refine Met.ofW (cc := cX9_getsBy) (maxL := 5) (ret := (some .int)) (by decide) rfl ?_
  intro p e s m args below meth c s₁ B hml hv
  obtain ⟨hav, hsz, hP, hK, hD0, hE⟩ := hv
  have hx := B.exec
  have hb := B.bytes
  have hr := B.returns
  have hts := atoms_spec (ws := wsX9_getsBy) B.pre
  have hown : s.vm.findClass RX9 = some m.cls := findClass_of_methodNamed B.named
  have hlocks := B.notSynchronized
  subst hsz
  have hD := hD0.self (sz := s.heap.size)
  generalize hAe : va_A [] s.heap.size = A at hD ⊢
  have hA : ∀ q : Nat, s.heap.size ≤ q → A q := fun q h => by rw [← hAe]; exact Or.inr h
  have hS : va_S A s.heap s.heap [] := va_S.rf
  have hl := lv_entry ([.int q1, .int q2, .int q3, .int q4, .int q5]) (n := 5) (Nat.le_of_ble_eq_true rfl)
  rw [show entryFrame m args 5 = entryFrame m ([.int q1, .int q2, .int q3, .int q4, .int q5] : List Value).toArray 5 by rw [hav], lg_entry_eq]
  generalize (lg_sl ([.int q1, .int q2, .int q3, .int q4, .int q5]) ++ List.replicate (5 - (lg_sl ([.int q1, .int q2, .int q3, .int q4, .int q5])).length) Slot.unset).toArray = ls at hl ⊢
  have hl : lv_has ls 5 [(0, .int q1), (1, .int q2), (2, .int q3), (3, .int q4), (4, .int q5)] := hl
  obtain ⟨R, hR⟩ : ∃ R, R = (headSpec wsX9_getsBy ({ frames := 0, cells := 0, slots := 0, locals := 0 } : Room)).room := ⟨_, rfl⟩
  rw [← hR]
  generalize hQ : MQ below _ args s 0 0 A = Q
  replace hQ := hQ.symm
  obtain ⟨H, hH⟩ : ∃ H, H = s.heap := ⟨_, rfl⟩
  rw [← hH] at hP ⊢
  have hS : va_S A s.heap H [] := by rw [hH]; exact hS
  refine lv_iload_n hx hb dX9_getsBy_0 rfl (lv_at hl 3 rfl) ?_
  refine lv_iconst (v := 1) hx hb dX9_getsBy_1 (by decide) ?_
  refine lv_icmp_ne (tgt := 20) hx hb dX9_getsBy_2 (by decide) (fun c_1 => ?_) (fun c_1 => ?_)
  · exact by
     refine lv_iload hx hb dX9_getsBy_20 (lv_at hl 4 rfl) ?_
     refine lv_iconst (v := 1) hx hb dX9_getsBy_22 (by decide) ?_
     refine lv_icmp_ne (tgt := 30) hx hb dX9_getsBy_23 (by decide) (fun c_2 => ?_) (fun c_2 => ?_)
     · exact by
        refine lv_iconst (v := 0) hx hb dX9_getsBy_30 (by decide) ?_
        rw [hQ]
        have hP9 := hP.sub (ws' := []) [] rfl
        have hD9 := hD.sub (ws' := []) [] (by decide) rfl
        exact W.iret (v := 0) hx hb hr (fun zt ht hW => ⟨⟨0, (), rfl, (by unfold gm; rw [if_neg c_1, if_neg c_2]), by rw [ht]; exact hP9, hD9⟩, hS.F ht⟩) hS.2.2 dX9_getsBy_31
     · exact by
        refine lv_iload_n hx hb dX9_getsBy_26 rfl (lv_at hl 2 rfl) ?_
        refine lv_goto (tgt := 31) hx hb dX9_getsBy_27 (by decide) ?_
        rw [hQ]
        have hP9 := hP.sub (ws' := []) [] rfl
        have hD9 := hD.sub (ws' := []) [] (by decide) rfl
        exact W.iret (v := q3) hx hb hr (fun zt ht hW => ⟨⟨q3, (), rfl, (by unfold gm; rw [if_neg c_1, if_pos c_2]), by rw [ht]; exact hP9, hD9⟩, hS.F ht⟩) hS.2.2 dX9_getsBy_31
  · exact by
     refine lv_iload hx hb dX9_getsBy_5 (lv_at hl 4 rfl) ?_
     refine lv_iconst (v := 1) hx hb dX9_getsBy_7 (by decide) ?_
     refine lv_icmp_ne (tgt := 16) hx hb dX9_getsBy_8 (by decide) (fun c_3 => ?_) (fun c_3 => ?_)
     · exact by
        refine lv_iload_n hx hb dX9_getsBy_16 rfl (lv_at hl 1 rfl) ?_
        refine lv_goto (tgt := 31) hx hb dX9_getsBy_17 (by decide) ?_
        rw [hQ]
        have hP9 := hP.sub (ws' := []) [] rfl
        have hD9 := hD.sub (ws' := []) [] (by decide) rfl
        exact W.iret (v := q2) hx hb hr (fun zt ht hW => ⟨⟨q2, (), rfl, (by unfold gm; rw [if_pos c_1, if_neg c_3]), by rw [ht]; exact hP9, hD9⟩, hS.F ht⟩) hS.2.2 dX9_getsBy_31
     · exact by
        refine lv_iload_n hx hb dX9_getsBy_11 rfl (lv_at hl 0 rfl) ?_
        refine lv_ineg hx hb dX9_getsBy_12 ?_
        refine lv_goto (tgt := 31) hx hb dX9_getsBy_13 (by decide) ?_
        rw [hQ]
        have hP9 := hP.sub (ws' := []) [] rfl
        have hD9 := hD.sub (ws' := []) [] (by decide) rfl
        exact W.iret (v := (-q1)) hx hb hr (fun zt ht hW => ⟨⟨(-q1), (), rfl, (by unfold gm; rw [if_pos c_1, if_pos c_3]), by rw [ht]; exact hP9, hD9⟩, hS.F ht⟩) hS.2.2 dX9_getsBy_31
theorem dX8_gain_0 : decode cX8_gain 0 = .ok (.iload_n 0, 1) := dk_iload_n_0 (by decide +kernel)
theorem dX8_gain_1 : decode cX8_gain 1 = .ok (.iconst 1, 1) := dk_iconst_1 (by decide +kernel)
theorem dX8_gain_2 : decode cX8_gain 2 = .ok (.if_icmp .ne 15, 3) := dk_if_icmp_ne (by decide +kernel)
theorem dX8_gain_5 : decode cX8_gain 5 = .ok (.iload_n 1, 1) := dk_iload_n_1 (by decide +kernel)
theorem dX8_gain_6 : decode cX8_gain 6 = .ok (.iconst 1, 1) := dk_iconst_1 (by decide +kernel)
theorem dX8_gain_7 : decode cX8_gain 7 = .ok (.if_icmp .ne 8, 3) := dk_if_icmp_ne (by decide +kernel)
theorem dX8_gain_10 : decode cX8_gain 10 = .ok (.iload_n 2, 1) := dk_iload_n_2 (by decide +kernel)
theorem dX8_gain_11 : decode cX8_gain 11 = .ok (.ineg, 1) := dk_ineg (by decide +kernel)
theorem dX8_gain_12 : decode cX8_gain 12 = .ok (.goto 4, 3) := dk_goto (by decide +kernel)
theorem dX8_gain_15 : decode cX8_gain 15 = .ok (.iload_n 3, 1) := dk_iload_n_3 (by decide +kernel)
theorem dX8_gain_16 : decode cX8_gain 16 = .ok (.ireturn, 1) := dk_ireturn (by decide +kernel)
theorem dX8_gain_17 : decode cX8_gain 17 = .ok (.iload_n 1, 1) := dk_iload_n_1 (by decide +kernel)
theorem dX8_gain_18 : decode cX8_gain 18 = .ok (.iconst 1, 1) := dk_iconst_1 (by decide +kernel)
theorem dX8_gain_19 : decode cX8_gain 19 = .ok (.if_icmp .ne 8, 3) := dk_if_icmp_ne (by decide +kernel)
theorem dX8_gain_22 : decode cX8_gain 22 = .ok (.iload 4, 2) := dk_iload (by decide +kernel)
theorem dX8_gain_24 : decode cX8_gain 24 = .ok (.goto 4, 3) := dk_goto (by decide +kernel)
theorem dX8_gain_27 : decode cX8_gain 27 = .ok (.iconst 0, 1) := dk_iconst_0 (by decide +kernel)
theorem dX8_gain_28 : decode cX8_gain 28 = .ok (.ireturn, 1) := dk_ireturn (by decide +kernel)
set_option maxHeartbeats 4000000 in
set_option maxRecDepth 100000 in
theorem mX8_gain (l : Launch) (D : va_G) (k : Nat → ClassId) (sz : Nat) (q1 : Int32) (q2 : Int32) (q3 : Int32) (q4 : Int32) (q5 : Int32) : Met l yX8_gain wsX8_gain ({ frames := 0, cells := 0, slots := 0, locals := 0 }) (va_Pc [.int q1, .int q2, .int q3, .int q4, .int q5] (kz_Pre D k [] sz)) (va_Qi (fun (rr : Int32) (uu : Unit) => rr = gm q3 q4 q5 q1 q2) (fun uu zt => kz_B D (va_A [] sz) [] zt) (va_A [] sz)) 0 0 (va_A [] sz) := by
  refine Met.ofW (cc := cX8_gain) (maxL := 5) (ret := (some .int)) (by decide) rfl ?_
  intro p e s m args below meth c s₁ B hml hv
  obtain ⟨hav, hsz, hP, hK, hD0, hE⟩ := hv
  have hx := B.exec
  have hb := B.bytes
  have hr := B.returns
  have hts := atoms_spec (ws := wsX8_gain) B.pre
  have hown : s.vm.findClass RX8 = some m.cls := findClass_of_methodNamed B.named
  have hlocks := B.notSynchronized
  subst hsz
  have hD := hD0.self (sz := s.heap.size)
  generalize hAe : va_A [] s.heap.size = A at hD ⊢
  have hA : ∀ q : Nat, s.heap.size ≤ q → A q := fun q h => by rw [← hAe]; exact Or.inr h
  have hS : va_S A s.heap s.heap [] := va_S.rf
  have hl := lv_entry ([.int q1, .int q2, .int q3, .int q4, .int q5]) (n := 5) (Nat.le_of_ble_eq_true rfl)
  rw [show entryFrame m args 5 = entryFrame m ([.int q1, .int q2, .int q3, .int q4, .int q5] : List Value).toArray 5 by rw [hav], lg_entry_eq]
  generalize (lg_sl ([.int q1, .int q2, .int q3, .int q4, .int q5]) ++ List.replicate (5 - (lg_sl ([.int q1, .int q2, .int q3, .int q4, .int q5])).length) Slot.unset).toArray = ls at hl ⊢
  have hl : lv_has ls 5 [(0, .int q1), (1, .int q2), (2, .int q3), (3, .int q4), (4, .int q5)] := hl
  obtain ⟨R, hR⟩ : ∃ R, R = (headSpec wsX8_gain ({ frames := 0, cells := 0, slots := 0, locals := 0 } : Room)).room := ⟨_, rfl⟩
  rw [← hR]
  generalize hQ : MQ below _ args s 0 0 A = Q
  replace hQ := hQ.symm
  obtain ⟨H, hH⟩ : ∃ H, H = s.heap := ⟨_, rfl⟩
  rw [← hH] at hP ⊢
  have hS : va_S A s.heap H [] := by rw [hH]; exact hS
  refine lv_iload_n hx hb dX8_gain_0 rfl (lv_at hl 0 rfl) ?_
  refine lv_iconst (v := 1) hx hb dX8_gain_1 (by decide) ?_
  refine lv_icmp_ne (tgt := 17) hx hb dX8_gain_2 (by decide) (fun c_1 => ?_) (fun c_1 => ?_)
  · exact by
     refine lv_iload_n hx hb dX8_gain_17 rfl (lv_at hl 1 rfl) ?_
     refine lv_iconst (v := 1) hx hb dX8_gain_18 (by decide) ?_
     refine lv_icmp_ne (tgt := 27) hx hb dX8_gain_19 (by decide) (fun c_2 => ?_) (fun c_2 => ?_)
     · exact by
        refine lv_iconst (v := 0) hx hb dX8_gain_27 (by decide) ?_
        rw [hQ]
        have hP9 := hP.sub (ws' := []) [] rfl
        have hD9 := hD.sub (ws' := []) [] (by decide) rfl
        exact W.iret (v := 0) hx hb hr (fun zt ht hW => ⟨⟨0, (), rfl, (by unfold gm; rw [if_neg c_1, if_neg c_2]), by rw [ht]; exact hP9, hD9⟩, hS.F ht⟩) hS.2.2 dX8_gain_28
     · exact by
        refine lv_iload hx hb dX8_gain_22 (lv_at hl 4 rfl) ?_
        refine lv_goto (tgt := 28) hx hb dX8_gain_24 (by decide) ?_
        rw [hQ]
        have hP9 := hP.sub (ws' := []) [] rfl
        have hD9 := hD.sub (ws' := []) [] (by decide) rfl
        exact W.iret (v := q5) hx hb hr (fun zt ht hW => ⟨⟨q5, (), rfl, (by unfold gm; rw [if_neg c_1, if_pos c_2]), by rw [ht]; exact hP9, hD9⟩, hS.F ht⟩) hS.2.2 dX8_gain_28
  · exact by
     refine lv_iload_n hx hb dX8_gain_5 rfl (lv_at hl 1 rfl) ?_
     refine lv_iconst (v := 1) hx hb dX8_gain_6 (by decide) ?_
     refine lv_icmp_ne (tgt := 15) hx hb dX8_gain_7 (by decide) (fun c_3 => ?_) (fun c_3 => ?_)
     · exact by
        refine lv_iload_n hx hb dX8_gain_15 rfl (lv_at hl 3 rfl) ?_
        rw [hQ]
        have hP9 := hP.sub (ws' := []) [] rfl
        have hD9 := hD.sub (ws' := []) [] (by decide) rfl
        exact W.iret (v := q4) hx hb hr (fun zt ht hW => ⟨⟨q4, (), rfl, (by unfold gm; rw [if_pos c_1, if_neg c_3]), by rw [ht]; exact hP9, hD9⟩, hS.F ht⟩) hS.2.2 dX8_gain_16
     · exact by
        refine lv_iload_n hx hb dX8_gain_10 rfl (lv_at hl 2 rfl) ?_
        refine lv_ineg hx hb dX8_gain_11 ?_
        refine lv_goto (tgt := 16) hx hb dX8_gain_12 (by decide) ?_
        rw [hQ]
        have hP9 := hP.sub (ws' := []) [] rfl
        have hD9 := hD.sub (ws' := []) [] (by decide) rfl
        exact W.iret (v := (-q3)) hx hb hr (fun zt ht hW => ⟨⟨(-q3), (), rfl, (by unfold gm; rw [if_pos c_1, if_pos c_3]), by rw [ht]; exact hP9, hD9⟩, hS.F ht⟩) hS.2.2 dX8_gain_16
theorem dX8_isContent_0 : decode cX8_isContent 0 = .ok (.iload_n 0, 1) := dk_iload_n_0 (by decide +kernel)
theorem dX8_isContent_1 : decode cX8_isContent 1 = .ok (.iload_n 1, 1) := dk_iload_n_1 (by decide +kernel)
theorem dX8_isContent_2 : decode cX8_isContent 2 = .ok (.iload_n 2, 1) := dk_iload_n_2 (by decide +kernel)
theorem dX8_isContent_3 : decode cX8_isContent 3 = .ok (.iload_n 3, 1) := dk_iload_n_3 (by decide +kernel)
theorem dX8_isContent_4 : decode cX8_isContent 4 = .ok (.iload 4, 2) := dk_iload (by decide +kernel)
theorem dX8_isContent_6 : decode cX8_isContent 6 = .ok (.invokestatic 314, 3) := dk_invokestatic (by decide +kernel)
theorem dX8_isContent_9 : decode cX8_isContent 9 = .ok (.iconst 1, 1) := dk_iconst_1 (by decide +kernel)
theorem dX8_isContent_10 : decode cX8_isContent 10 = .ok (.iload_n 0, 1) := dk_iload_n_0 (by decide +kernel)
theorem dX8_isContent_11 : decode cX8_isContent 11 = .ok (.isub, 1) := dk_isub (by decide +kernel)
theorem dX8_isContent_12 : decode cX8_isContent 12 = .ok (.iload_n 1, 1) := dk_iload_n_1 (by decide +kernel)
theorem dX8_isContent_13 : decode cX8_isContent 13 = .ok (.iload_n 2, 1) := dk_iload_n_2 (by decide +kernel)
theorem dX8_isContent_14 : decode cX8_isContent 14 = .ok (.iload_n 3, 1) := dk_iload_n_3 (by decide +kernel)
theorem dX8_isContent_15 : decode cX8_isContent 15 = .ok (.iload 4, 2) := dk_iload (by decide +kernel)
theorem dX8_isContent_17 : decode cX8_isContent 17 = .ok (.invokestatic 314, 3) := dk_invokestatic (by decide +kernel)
theorem dX8_isContent_20 : decode cX8_isContent 20 = .ok (.if_icmp .lt 7, 3) := dk_if_icmp_lt (by decide +kernel)
theorem dX8_isContent_23 : decode cX8_isContent 23 = .ok (.iconst 1, 1) := dk_iconst_1 (by decide +kernel)
theorem dX8_isContent_24 : decode cX8_isContent 24 = .ok (.goto 4, 3) := dk_goto (by decide +kernel)
theorem dX8_isContent_27 : decode cX8_isContent 27 = .ok (.iconst 0, 1) := dk_iconst_0 (by decide +kernel)
theorem dX8_isContent_28 : decode cX8_isContent 28 = .ok (.ireturn, 1) := dk_ireturn (by decide +kernel)
set_option maxRecDepth 20000 in
theorem ggX8_isContent_X8_gain : GoodIn wsX8_isContent wsX8_gain := goodIn_sub (sub_cons (List.mem_cons_of_mem _ (List.mem_of_getElem? (i := 3) rfl)) sub_nil) gw_X8_gain
set_option maxRecDepth 20000 in
theorem gX8_isContent_X8_gain : GoodIn wsX8_isContent (va_wsS RX8 314 yX8_gain wsX8_gain) := goodIn_app (goodIn_of _ (by decide +kernel)) ggX8_isContent_X8_gain
set_option maxHeartbeats 4000000 in
set_option maxRecDepth 100000 in
theorem mX8_isContent (l : Launch) (D : va_G) (k : Nat → ClassId) (sz : Nat) (q1 : Int32) (q2 : Int32) (q3 : Int32) (q4 : Int32) (q5 : Int32) : Met l yX8_isContent wsX8_isContent ({ frames := 1, cells := 0, slots := 0, locals := 70 }) (va_Pc [.int q1, .int q2, .int q3, .int q4, .int q5] (kz_Pre D k [] sz)) (va_Qi (fun (rr : Int32) (uu : Unit) => rr = bz (gm q3 q4 q5 (1 - q1) q2 ≤ gm q3 q4 q5 q1 q2)) (fun uu zt => kz_B D (va_A [] sz) [] zt) (va_A [] sz)) 0 0 (va_A [] sz) := by
  refine Met.ofW (cc := cX8_isContent) (maxL := 5) (ret := (some .boolean)) (by decide) rfl ?_
  intro p e s m args below meth c s₁ B hml hv
  obtain ⟨hav, hsz, hP, hK, hD0, hE⟩ := hv
  have hx := B.exec
  have hb := B.bytes
  have hr := B.returns
  have hts := atoms_spec (ws := wsX8_isContent) B.pre
  have hown : s.vm.findClass RX8 = some m.cls := findClass_of_methodNamed B.named
  have hlocks := B.notSynchronized
  subst hsz
  have hD := hD0.self (sz := s.heap.size)
  generalize hAe : va_A [] s.heap.size = A at hD ⊢
  have hA : ∀ q : Nat, s.heap.size ≤ q → A q := fun q h => by rw [← hAe]; exact Or.inr h
  have hS : va_S A s.heap s.heap [] := va_S.rf
  have hl := lv_entry ([.int q1, .int q2, .int q3, .int q4, .int q5]) (n := 5) (Nat.le_of_ble_eq_true rfl)
  rw [show entryFrame m args 5 = entryFrame m ([.int q1, .int q2, .int q3, .int q4, .int q5] : List Value).toArray 5 by rw [hav], lg_entry_eq]
  generalize (lg_sl ([.int q1, .int q2, .int q3, .int q4, .int q5]) ++ List.replicate (5 - (lg_sl ([.int q1, .int q2, .int q3, .int q4, .int q5])).length) Slot.unset).toArray = ls at hl ⊢
  have hl : lv_has ls 5 [(0, .int q1), (1, .int q2), (2, .int q3), (3, .int q4), (4, .int q5)] := hl
  obtain ⟨R, hR⟩ : ∃ R, R = (headSpec wsX8_isContent ({ frames := 1, cells := 0, slots := 0, locals := 70 } : Room)).room := ⟨_, rfl⟩
  rw [← hR]
  generalize hQ : MQ below _ args s 0 0 A = Q
  replace hQ := hQ.symm
  obtain ⟨H, hH⟩ : ∃ H, H = s.heap := ⟨_, rfl⟩
  rw [← hH] at hP ⊢
  have hS : va_S A s.heap H [] := by rw [hH]; exact hS
  refine lv_iload_n hx hb dX8_isContent_0 rfl (lv_at hl 0 rfl) ?_
  refine lv_iload_n hx hb dX8_isContent_1 rfl (lv_at hl 1 rfl) ?_
  refine lv_iload_n hx hb dX8_isContent_2 rfl (lv_at hl 2 rfl) ?_
  refine lv_iload_n hx hb dX8_isContent_3 rfl (lv_at hl 3 rfl) ?_
  refine lv_iload hx hb dX8_isContent_4 (lv_at hl 4 rfl) ?_
  refine kz_Si (As := [.int q1, .int q2, .int q3, .int q4, .int q5]) (rest := []) (wc := []) (wr := []) ⟨hx, hb, hml, hown, hts⟩ hK hE hP hD hS hA (mX8_gain l D k H.size q1 q2 q3 q4 q5) (va_cwS 5 hts gX8_isContent_X8_gain rfl rfl rfl (by decide +kernel) (by rw [hR]; exact ⟨Nat.le_of_ble_eq_true rfl, Nat.le_of_ble_eq_true rfl⟩)) [] [] rfl rfl (by decide +kernel) (by decide +kernel) (by decide +kernel) rfl hl.1 rfl (Nat.le_of_ble_eq_true rfl) dX8_isContent_6 (by rw [hR]; exact ⟨Nat.le_of_ble_eq_true rfl, Nat.le_of_ble_eq_true rfl⟩) (fun r1 u1 H locs hw1 hP hD hS => ?_)
  exact by
   try dsimp only at hw1
   obtain rfl : r1 = gm q3 q4 q5 q1 q2 := hw1
   have hP : va_P D vwCl [] H := hP
   have hD : va_D A [] := hD
   refine lv_iconst (v := 1) hx hb dX8_isContent_9 (by decide) ?_
   refine lv_iload_n hx hb dX8_isContent_10 rfl (lv_at hl 0 rfl) ?_
   refine lv_isub hx hb dX8_isContent_11 ?_
   refine lv_iload_n hx hb dX8_isContent_12 rfl (lv_at hl 1 rfl) ?_
   refine lv_iload_n hx hb dX8_isContent_13 rfl (lv_at hl 2 rfl) ?_
   refine lv_iload_n hx hb dX8_isContent_14 rfl (lv_at hl 3 rfl) ?_
   refine lv_iload hx hb dX8_isContent_15 (lv_at hl 4 rfl) ?_
   refine kz_Si (As := [.int (1 - q1), .int q2, .int q3, .int q4, .int q5]) (rest := [.int (gm q3 q4 q5 q1 q2)]) (wc := []) (wr := []) ⟨hx, hb, hml, hown, hts⟩ hK hE hP hD hS hA (mX8_gain l D k H.size (1 - q1) q2 q3 q4 q5) (va_cwS 5 hts gX8_isContent_X8_gain rfl rfl rfl (by decide +kernel) (by rw [hR]; exact ⟨Nat.le_of_ble_eq_true rfl, Nat.le_of_ble_eq_true rfl⟩)) [] [] rfl rfl (by decide +kernel) (by decide +kernel) (by decide +kernel) rfl hl.1 rfl (Nat.le_of_ble_eq_true rfl) dX8_isContent_17 (by rw [hR]; exact ⟨Nat.le_of_ble_eq_true rfl, Nat.le_of_ble_eq_true rfl⟩) (fun r2 u2 H locs hw2 hP hD hS => ?_)
   exact by
    try dsimp only at hw2
    obtain rfl : r2 = gm q3 q4 q5 (1 - q1) q2 := hw2
    have hP : va_P D vwCl [] H := hP
    have hD : va_D A [] := hD
    refine lv_icmp_lt (tgt := 27) hx hb dX8_isContent_20 (by decide) (fun c_3 => ?_) (fun c_3 => ?_)
    · exact by
       refine lv_iconst (v := 0) hx hb dX8_isContent_27 (by decide) ?_
       rw [hQ]
       have hP9 := hP.sub (ws' := []) [] rfl
       have hD9 := hD.sub (ws' := []) [] (by decide) rfl
       exact W.zret (v := 0) hx hb hr rfl (fun zt ht hW => ⟨⟨0, (), rfl, (bz_f (fun h => absurd h (by first | exact c_3 | exact Int32.not_lt.mpr c_3 | exact Int32.not_le.mpr c_3))).symm, by rw [ht]; exact hP9, hD9⟩, hS.F ht⟩) hS.2.2 dX8_isContent_28
    · exact by
       refine lv_iconst (v := 1) hx hb dX8_isContent_23 (by decide) ?_
       refine lv_goto (tgt := 28) hx hb dX8_isContent_24 (by decide) ?_
       rw [hQ]
       have hP9 := hP.sub (ws' := []) [] rfl
       have hD9 := hD.sub (ws' := []) [] (by decide) rfl
       exact W.zret (v := 1) hx hb hr rfl (fun zt ht hW => ⟨⟨1, (), rfl, (bz_t (by first | exact c_3 | exact Int32.not_lt.mp c_3 | exact Int32.not_le.mp c_3)).symm, by rw [ht]; exact hP9, hD9⟩, hS.F ht⟩) hS.2.2 dX8_isContent_28
theorem dX9_rests_0 : decode cX9_rests 0 = .ok (.aload_n 0, 1) := dk_aload_n_0 (by decide +kernel)
theorem dX9_rests_1 : decode cX9_rests 1 = .ok (.iload_n 1, 1) := dk_iload_n_1 (by decide +kernel)
theorem dX9_rests_2 : decode cX9_rests 2 = .ok (.iconst 0, 1) := dk_iconst_0 (by decide +kernel)
theorem dX9_rests_3 : decode cX9_rests 3 = .ok (.bipush 9, 2) := dk_bipush (by decide +kernel)
theorem dX9_rests_5 : decode cX9_rests 5 = .ok (.invokestatic 260, 3) := dk_invokestatic (by decide +kernel)
theorem dX9_rests_8 : decode cX9_rests 8 = .ok (.ifCond .eq 33, 3) := dk_ifCond_eq (by decide +kernel)
theorem dX9_rests_11 : decode cX9_rests 11 = .ok (.iload_n 2, 1) := dk_iload_n_2 (by decide +kernel)
theorem dX9_rests_12 : decode cX9_rests 12 = .ok (.iconst 0, 1) := dk_iconst_0 (by decide +kernel)
theorem dX9_rests_13 : decode cX9_rests 13 = .ok (.bipush 9, 2) := dk_bipush (by decide +kernel)
theorem dX9_rests_15 : decode cX9_rests 15 = .ok (.invokestatic 260, 3) := dk_invokestatic (by decide +kernel)
theorem dX9_rests_18 : decode cX9_rests 18 = .ok (.ifCond .eq 23, 3) := dk_ifCond_eq (by decide +kernel)
theorem dX9_rests_21 : decode cX9_rests 21 = .ok (.iload_n 3, 1) := dk_iload_n_3 (by decide +kernel)
theorem dX9_rests_22 : decode cX9_rests 22 = .ok (.iconst 0, 1) := dk_iconst_0 (by decide +kernel)
theorem dX9_rests_23 : decode cX9_rests 23 = .ok (.bipush 9, 2) := dk_bipush (by decide +kernel)
theorem dX9_rests_25 : decode cX9_rests 25 = .ok (.invokestatic 260, 3) := dk_invokestatic (by decide +kernel)
theorem dX9_rests_28 : decode cX9_rests 28 = .ok (.ifCond .eq 13, 3) := dk_ifCond_eq (by decide +kernel)
theorem dX9_rests_31 : decode cX9_rests 31 = .ok (.iload 4, 2) := dk_iload (by decide +kernel)
theorem dX9_rests_33 : decode cX9_rests 33 = .ok (.iconst (-1), 1) := dk_iconst_m1 (by decide +kernel)
theorem dX9_rests_34 : decode cX9_rests 34 = .ok (.if_icmp .lt 7, 3) := dk_if_icmp_lt (by decide +kernel)
theorem dX9_rests_37 : decode cX9_rests 37 = .ok (.iconst 0, 1) := dk_iconst_0 (by decide +kernel)
theorem dX9_rests_38 : decode cX9_rests 38 = .ok (.goto 4, 3) := dk_goto (by decide +kernel)
theorem dX9_rests_41 : decode cX9_rests 41 = .ok (.iconst 1, 1) := dk_iconst_1 (by decide +kernel)
theorem dX9_rests_42 : decode cX9_rests 42 = .ok (.putfield 143, 3) := dk_putfield (by decide +kernel)
theorem dX9_rests_45 : decode cX9_rests 45 = .ok (.aload_n 0, 1) := dk_aload_n_0 (by decide +kernel)
theorem dX9_rests_46 : decode cX9_rests 46 = .ok (.getfield 143, 3) := dk_getfield (by decide +kernel)
theorem dX9_rests_49 : decode cX9_rests 49 = .ok (.iconst 1, 1) := dk_iconst_1 (by decide +kernel)
theorem dX9_rests_50 : decode cX9_rests 50 = .ok (.if_icmp .ne 5, 3) := dk_if_icmp_ne (by decide +kernel)
theorem dX9_rests_53 : decode cX9_rests 53 = .ok (.iconst 0, 1) := dk_iconst_0 (by decide +kernel)
theorem dX9_rests_54 : decode cX9_rests 54 = .ok (.ireturn, 1) := dk_ireturn (by decide +kernel)
theorem dX9_rests_55 : decode cX9_rests 55 = .ok (.iconst 0, 1) := dk_iconst_0 (by decide +kernel)
theorem dX9_rests_56 : decode cX9_rests 56 = .ok (.istore 5, 2) := dk_istore (by decide +kernel)
theorem dX9_rests_58 : decode cX9_rests 58 = .ok (.iconst 0, 1) := dk_iconst_0 (by decide +kernel)
theorem dX9_rests_59 : decode cX9_rests 59 = .ok (.istore 6, 2) := dk_istore (by decide +kernel)
theorem dX9_rests_61 : decode cX9_rests 61 = .ok (.iload 6, 2) := dk_iload (by decide +kernel)
theorem dX9_rests_63 : decode cX9_rests 63 = .ok (.iconst 4, 1) := dk_iconst_4 (by decide +kernel)
theorem dX9_rests_64 : decode cX9_rests 64 = .ok (.if_icmp .ge 87, 3) := dk_if_icmp_ge (by decide +kernel)
theorem dX9_rests_67 : decode cX9_rests 67 = .ok (.iload 6, 2) := dk_iload (by decide +kernel)
theorem dX9_rests_69 : decode cX9_rests 69 = .ok (.iconst 2, 1) := dk_iconst_2 (by decide +kernel)
theorem dX9_rests_70 : decode cX9_rests 70 = .ok (.idiv, 1) := dk_idiv (by decide +kernel)
theorem dX9_rests_71 : decode cX9_rests 71 = .ok (.istore 7, 2) := dk_istore (by decide +kernel)
theorem dX9_rests_73 : decode cX9_rests 73 = .ok (.iload 6, 2) := dk_iload (by decide +kernel)
theorem dX9_rests_75 : decode cX9_rests 75 = .ok (.iconst 2, 1) := dk_iconst_2 (by decide +kernel)
theorem dX9_rests_76 : decode cX9_rests 76 = .ok (.irem, 1) := dk_irem (by decide +kernel)
theorem dX9_rests_77 : decode cX9_rests 77 = .ok (.istore 8, 2) := dk_istore (by decide +kernel)
theorem dX9_rests_79 : decode cX9_rests 79 = .ok (.iload_n 1, 1) := dk_iload_n_1 (by decide +kernel)
theorem dX9_rests_80 : decode cX9_rests 80 = .ok (.iload_n 2, 1) := dk_iload_n_2 (by decide +kernel)
theorem dX9_rests_81 : decode cX9_rests 81 = .ok (.iload_n 3, 1) := dk_iload_n_3 (by decide +kernel)
theorem dX9_rests_82 : decode cX9_rests 82 = .ok (.iconst 1, 1) := dk_iconst_1 (by decide +kernel)
theorem dX9_rests_83 : decode cX9_rests 83 = .ok (.iload 7, 2) := dk_iload (by decide +kernel)
theorem dX9_rests_85 : decode cX9_rests 85 = .ok (.isub, 1) := dk_isub (by decide +kernel)
theorem dX9_rests_86 : decode cX9_rests 86 = .ok (.iload 8, 2) := dk_iload (by decide +kernel)
theorem dX9_rests_88 : decode cX9_rests 88 = .ok (.invokestatic 434, 3) := dk_invokestatic (by decide +kernel)
theorem dX9_rests_91 : decode cX9_rests 91 = .ok (.iload_n 1, 1) := dk_iload_n_1 (by decide +kernel)
theorem dX9_rests_92 : decode cX9_rests 92 = .ok (.iload_n 2, 1) := dk_iload_n_2 (by decide +kernel)
theorem dX9_rests_93 : decode cX9_rests 93 = .ok (.iload_n 3, 1) := dk_iload_n_3 (by decide +kernel)
theorem dX9_rests_94 : decode cX9_rests 94 = .ok (.iload 7, 2) := dk_iload (by decide +kernel)
theorem dX9_rests_96 : decode cX9_rests 96 = .ok (.iload 8, 2) := dk_iload (by decide +kernel)
theorem dX9_rests_98 : decode cX9_rests 98 = .ok (.invokestatic 434, 3) := dk_invokestatic (by decide +kernel)
theorem dX9_rests_101 : decode cX9_rests 101 = .ok (.if_icmp .gt 44, 3) := dk_if_icmp_gt (by decide +kernel)
theorem dX9_rests_104 : decode cX9_rests 104 = .ok (.iload_n 1, 1) := dk_iload_n_1 (by decide +kernel)
theorem dX9_rests_105 : decode cX9_rests 105 = .ok (.iload_n 2, 1) := dk_iload_n_2 (by decide +kernel)
theorem dX9_rests_106 : decode cX9_rests 106 = .ok (.iload_n 3, 1) := dk_iload_n_3 (by decide +kernel)
theorem dX9_rests_107 : decode cX9_rests 107 = .ok (.iconst 1, 1) := dk_iconst_1 (by decide +kernel)
theorem dX9_rests_108 : decode cX9_rests 108 = .ok (.iload 8, 2) := dk_iload (by decide +kernel)
theorem dX9_rests_110 : decode cX9_rests 110 = .ok (.isub, 1) := dk_isub (by decide +kernel)
theorem dX9_rests_111 : decode cX9_rests 111 = .ok (.iload 7, 2) := dk_iload (by decide +kernel)
theorem dX9_rests_113 : decode cX9_rests 113 = .ok (.invokestatic 434, 3) := dk_invokestatic (by decide +kernel)
theorem dX9_rests_116 : decode cX9_rests 116 = .ok (.iload_n 1, 1) := dk_iload_n_1 (by decide +kernel)
theorem dX9_rests_117 : decode cX9_rests 117 = .ok (.iload_n 2, 1) := dk_iload_n_2 (by decide +kernel)
theorem dX9_rests_118 : decode cX9_rests 118 = .ok (.iload_n 3, 1) := dk_iload_n_3 (by decide +kernel)
theorem dX9_rests_119 : decode cX9_rests 119 = .ok (.iload 8, 2) := dk_iload (by decide +kernel)
theorem dX9_rests_121 : decode cX9_rests 121 = .ok (.iload 7, 2) := dk_iload (by decide +kernel)
theorem dX9_rests_123 : decode cX9_rests 123 = .ok (.invokestatic 434, 3) := dk_invokestatic (by decide +kernel)
theorem dX9_rests_126 : decode cX9_rests 126 = .ok (.if_icmp .le 6, 3) := dk_if_icmp_le (by decide +kernel)
theorem dX9_rests_129 : decode cX9_rests 129 = .ok (.goto 16, 3) := dk_goto (by decide +kernel)
theorem dX9_rests_132 : decode cX9_rests 132 = .ok (.iload 5, 2) := dk_iload (by decide +kernel)
theorem dX9_rests_134 : decode cX9_rests 134 = .ok (.iload 4, 2) := dk_iload (by decide +kernel)
theorem dX9_rests_136 : decode cX9_rests 136 = .ok (.if_icmp .ne 6, 3) := dk_if_icmp_ne (by decide +kernel)
theorem dX9_rests_139 : decode cX9_rests 139 = .ok (.iload 6, 2) := dk_iload (by decide +kernel)
theorem dX9_rests_141 : decode cX9_rests 141 = .ok (.ireturn, 1) := dk_ireturn (by decide +kernel)
theorem dX9_rests_142 : decode cX9_rests 142 = .ok (.iinc 5 1, 3) := dk_iinc (by decide +kernel)
theorem dX9_rests_145 : decode cX9_rests 145 = .ok (.iinc 6 1, 3) := dk_iinc (by decide +kernel)
theorem dX9_rests_148 : decode cX9_rests 148 = .ok (.goto (-87), 3) := dk_goto (by decide +kernel)
theorem dX9_rests_151 : decode cX9_rests 151 = .ok (.aload_n 0, 1) := dk_aload_n_0 (by decide +kernel)
theorem dX9_rests_152 : decode cX9_rests 152 = .ok (.iload 4, 2) := dk_iload (by decide +kernel)
theorem dX9_rests_154 : decode cX9_rests 154 = .ok (.iconst (-1), 1) := dk_iconst_m1 (by decide +kernel)
theorem dX9_rests_155 : decode cX9_rests 155 = .ok (.if_icmp .ne 7, 3) := dk_if_icmp_ne (by decide +kernel)
theorem dX9_rests_158 : decode cX9_rests 158 = .ok (.iconst 0, 1) := dk_iconst_0 (by decide +kernel)
theorem dX9_rests_159 : decode cX9_rests 159 = .ok (.goto 4, 3) := dk_goto (by decide +kernel)
theorem dX9_rests_162 : decode cX9_rests 162 = .ok (.iconst 1, 1) := dk_iconst_1 (by decide +kernel)
theorem dX9_rests_163 : decode cX9_rests 163 = .ok (.putfield 143, 3) := dk_putfield (by decide +kernel)
theorem dX9_rests_166 : decode cX9_rests 166 = .ok (.iload 4, 2) := dk_iload (by decide +kernel)
theorem dX9_rests_168 : decode cX9_rests 168 = .ok (.iconst (-1), 1) := dk_iconst_m1 (by decide +kernel)
theorem dX9_rests_169 : decode cX9_rests 169 = .ok (.if_icmp .ne 8, 3) := dk_if_icmp_ne (by decide +kernel)
theorem dX9_rests_172 : decode cX9_rests 172 = .ok (.iload 5, 2) := dk_iload (by decide +kernel)
theorem dX9_rests_174 : decode cX9_rests 174 = .ok (.goto 4, 3) := dk_goto (by decide +kernel)
theorem dX9_rests_177 : decode cX9_rests 177 = .ok (.iconst 0, 1) := dk_iconst_0 (by decide +kernel)
theorem dX9_rests_178 : decode cX9_rests 178 = .ok (.ireturn, 1) := dk_ireturn (by decide +kernel)
set_option maxRecDepth 20000 in
theorem ggX9_rests_X9_within : GoodIn wsX9_rests wsX9_within := goodIn_sub (sub_cons (List.mem_cons_of_mem _ (List.mem_append_left _ (List.mem_of_getElem? (i := 4) rfl))) sub_nil) gw_X9_within
set_option maxRecDepth 20000 in
theorem gX9_rests_X9_within : GoodIn wsX9_rests (va_wsS RX9 260 yX9_within wsX9_within) := goodIn_app (goodIn_of _ (by decide +kernel)) ggX9_rests_X9_within
set_option maxRecDepth 20000 in
theorem ggX9_rests_X9_getsBy : GoodIn wsX9_rests wsX9_getsBy := goodIn_sub (sub_cons (List.mem_cons_of_mem _ (List.mem_append_left _ (List.mem_of_getElem? (i := 7) rfl))) sub_nil) gw_X9_getsBy
set_option maxRecDepth 20000 in
theorem gX9_rests_X9_getsBy : GoodIn wsX9_rests (va_wsS RX9 434 yX9_getsBy wsX9_getsBy) := goodIn_app (goodIn_of _ (by decide +kernel)) ggX9_rests_X9_getsBy
set_option maxHeartbeats 4000000 in
set_option maxRecDepth 100000 in
theorem mX9_rests (l : Launch) (D : va_G) (k : Nat → ClassId) (sz : Nat) (y : Nat) (q1 : Int32) (q2 : Int32) (q3 : Int32) (q4 : Int32) (y_thrown : Int32) (y_taped : Int32) (y_tape : Value) (y_size : Int32) (y_place : Int32) (y_begin : Int32) (y_token : Int32) (y_word : Int64) (y_told : Int32) (y_wrong : Int32) (y_supper : Value) (y_guestName : Value) (y_kind : Value) (y_offTold : Value) (y_pace : Value) (y_cooks : Value) (y_snow : Value) (y_lineFrom : Value) (y_lineTo : Value) (y_codes : Value) (y_code : Int32) (y_toldLines : Int32) (y_opened : Value) (y_compared : Value) (y_kept : Value) (y_keptBy : Value) (y_ahead : Value) (y_against : Value) (y_sum : Value) (y_sumBy : Value) (y_term : Value) (y_termBy : Value) (y_byNot : Value) (y_valueOf : Value) (y_given : Int32) (y_lines : Value) (y_lineWhat : Value) (y_lineA : Value) (y_lineB : Value) (y_seens : Value) (y_seenIn : Value) (y_seenYards : Value) (y_seenNear : Value) (y_s : Value) (y_aside : Value) (y_before : Value) (y_marked : Value) (y_undone : Value) (y_isLaid : Value) (y_done : Int32) (y_snowNow : Int32) (y_cameNow : Int32) (y_cookThen : Int32) (y_tasteThen : Int32) (y_places : Value) (y_comesAt : Value) (y_yardsIn : Value) (y_g : Int64) : Met l yX9_rests wsX9_rests ({ frames := 1, cells := 0, slots := 0, locals := 70 }) (va_Pc [.ref y, .int q1, .int q2, .int q3, .int q4] (kz_Pre D k [(y, kO 9 [.int y_thrown, .int y_taped, y_tape, .int y_size, .int y_place, .int y_begin, .int y_token, .long y_word, .int y_told, .int y_wrong, y_supper, y_guestName, y_kind, y_offTold, y_pace, y_cooks, y_snow, y_lineFrom, y_lineTo, y_codes, .int y_code, .int y_toldLines, y_opened, y_compared, y_kept, y_keptBy, y_ahead, y_against, y_sum, y_sumBy, y_term, y_termBy, y_byNot, y_valueOf, .int y_given, y_lines, y_lineWhat, y_lineA, y_lineB, y_seens, y_seenIn, y_seenYards, y_seenNear, y_s, y_aside, y_before, y_marked, y_undone, y_isLaid, .int y_done, .int y_snowNow, .int y_cameNow, .int y_cookThen, .int y_tasteThen, y_places, y_comesAt, y_yardsIn, .long y_g])] sz)) (va_Qi (fun (rr : Int32) (uu : Int32) => rs q1 q2 q3 q4 = (uu, rr)) (fun uu zt => kz_B D (va_A [(y, kO 9 [.int y_thrown, .int y_taped, y_tape, .int y_size, .int y_place, .int y_begin, .int y_token, .long y_word, .int y_told, .int y_wrong, y_supper, y_guestName, y_kind, y_offTold, y_pace, y_cooks, y_snow, y_lineFrom, y_lineTo, y_codes, .int y_code, .int y_toldLines, y_opened, y_compared, y_kept, y_keptBy, y_ahead, y_against, y_sum, y_sumBy, y_term, y_termBy, y_byNot, y_valueOf, .int y_given, y_lines, y_lineWhat, y_lineA, y_lineB, y_seens, y_seenIn, y_seenYards, y_seenNear, y_s, y_aside, y_before, y_marked, y_undone, y_isLaid, .int y_done, .int y_snowNow, .int y_cameNow, .int y_cookThen, .int y_tasteThen, y_places, y_comesAt, y_yardsIn, .long y_g])] sz) [(y, kO 9 [.int uu, .int y_taped, y_tape, .int y_size, .int y_place, .int y_begin, .int y_token, .long y_word, .int y_told, .int y_wrong, y_supper, y_guestName, y_kind, y_offTold, y_pace, y_cooks, y_snow, y_lineFrom, y_lineTo, y_codes, .int y_code, .int y_toldLines, y_opened, y_compared, y_kept, y_keptBy, y_ahead, y_against, y_sum, y_sumBy, y_term, y_termBy, y_byNot, y_valueOf, .int y_given, y_lines, y_lineWhat, y_lineA, y_lineB, y_seens, y_seenIn, y_seenYards, y_seenNear, y_s, y_aside, y_before, y_marked, y_undone, y_isLaid, .int y_done, .int y_snowNow, .int y_cameNow, .int y_cookThen, .int y_tasteThen, y_places, y_comesAt, y_yardsIn, .long y_g])] zt) (va_A [(y, kO 9 [.int y_thrown, .int y_taped, y_tape, .int y_size, .int y_place, .int y_begin, .int y_token, .long y_word, .int y_told, .int y_wrong, y_supper, y_guestName, y_kind, y_offTold, y_pace, y_cooks, y_snow, y_lineFrom, y_lineTo, y_codes, .int y_code, .int y_toldLines, y_opened, y_compared, y_kept, y_keptBy, y_ahead, y_against, y_sum, y_sumBy, y_term, y_termBy, y_byNot, y_valueOf, .int y_given, y_lines, y_lineWhat, y_lineA, y_lineB, y_seens, y_seenIn, y_seenYards, y_seenNear, y_s, y_aside, y_before, y_marked, y_undone, y_isLaid, .int y_done, .int y_snowNow, .int y_cameNow, .int y_cookThen, .int y_tasteThen, y_places, y_comesAt, y_yardsIn, .long y_g])] sz)) 0 0 (va_A [(y, kO 9 [.int y_thrown, .int y_taped, y_tape, .int y_size, .int y_place, .int y_begin, .int y_token, .long y_word, .int y_told, .int y_wrong, y_supper, y_guestName, y_kind, y_offTold, y_pace, y_cooks, y_snow, y_lineFrom, y_lineTo, y_codes, .int y_code, .int y_toldLines, y_opened, y_compared, y_kept, y_keptBy, y_ahead, y_against, y_sum, y_sumBy, y_term, y_termBy, y_byNot, y_valueOf, .int y_given, y_lines, y_lineWhat, y_lineA, y_lineB, y_seens, y_seenIn, y_seenYards, y_seenNear, y_s, y_aside, y_before, y_marked, y_undone, y_isLaid, .int y_done, .int y_snowNow, .int y_cameNow, .int y_cookThen, .int y_tasteThen, y_places, y_comesAt, y_yardsIn, .long y_g])] sz) := by
  refine Met.ofW (cc := cX9_rests) (maxL := 9) (ret := (some .int)) (by decide) rfl ?_
  intro p e s m args below meth c s₁ B hml hv
  obtain ⟨hav, hsz, hP, hK, hD0, hE⟩ := hv
  have hx := B.exec
  have hb := B.bytes
  have hr := B.returns
  have hts := atoms_spec (ws := wsX9_rests) B.pre
  have hown : s.vm.findClass RX9 = some m.cls := findClass_of_methodNamed B.named
  have hlocks := B.notSynchronized
  have hi9 : ∀ w ∈ u_ws RX9 TX9 58, w ∈ wsX9_rests := fun w h9 => List.mem_cons_of_mem _ (List.mem_append_right _ h9)
  have lf143 := hts (.fieldLink RX9 143 "LastCookModel" "thrown" "I") (List.mem_cons_of_mem _ (List.mem_append_left _ (List.mem_of_getElem? (i := 0) rfl)))
  subst hsz
  have hD := hD0.self (sz := s.heap.size)
  generalize hAe : va_A [(y, kO 9 [.int y_thrown, .int y_taped, y_tape, .int y_size, .int y_place, .int y_begin, .int y_token, .long y_word, .int y_told, .int y_wrong, y_supper, y_guestName, y_kind, y_offTold, y_pace, y_cooks, y_snow, y_lineFrom, y_lineTo, y_codes, .int y_code, .int y_toldLines, y_opened, y_compared, y_kept, y_keptBy, y_ahead, y_against, y_sum, y_sumBy, y_term, y_termBy, y_byNot, y_valueOf, .int y_given, y_lines, y_lineWhat, y_lineA, y_lineB, y_seens, y_seenIn, y_seenYards, y_seenNear, y_s, y_aside, y_before, y_marked, y_undone, y_isLaid, .int y_done, .int y_snowNow, .int y_cameNow, .int y_cookThen, .int y_tasteThen, y_places, y_comesAt, y_yardsIn, .long y_g])] s.heap.size = A at hD ⊢
  have hA : ∀ q : Nat, s.heap.size ≤ q → A q := fun q h => by rw [← hAe]; exact Or.inr h
  have hS : va_S A s.heap s.heap [] := va_S.rf
  have hl := lv_entry ([.ref y, .int q1, .int q2, .int q3, .int q4]) (n := 9) (Nat.le_of_ble_eq_true rfl)
  rw [show entryFrame m args 9 = entryFrame m ([.ref y, .int q1, .int q2, .int q3, .int q4] : List Value).toArray 9 by rw [hav], lg_entry_eq]
  generalize (lg_sl ([.ref y, .int q1, .int q2, .int q3, .int q4]) ++ List.replicate (9 - (lg_sl ([.ref y, .int q1, .int q2, .int q3, .int q4])).length) Slot.unset).toArray = ls at hl ⊢
  have hl : lv_has ls 9 [(0, .ref y), (1, .int q1), (2, .int q2), (3, .int q3), (4, .int q4)] := hl
  obtain ⟨R, hR⟩ : ∃ R, R = (headSpec wsX9_rests ({ frames := 1, cells := 0, slots := 0, locals := 70 } : Room)).room := ⟨_, rfl⟩
  rw [← hR]
  generalize hQ : MQ below _ args s 0 0 A = Q
  replace hQ := hQ.symm
  obtain ⟨H, hH⟩ : ∃ H, H = s.heap := ⟨_, rfl⟩
  rw [← hH] at hP ⊢
  have hS : va_S A s.heap H [] := by rw [hH]; exact hS
  refine lv_aload_n hx hb dX9_rests_0 rfl (lv_at hl 0 rfl) ?_
  refine lv_iload_n hx hb dX9_rests_1 rfl (lv_at hl 1 rfl) ?_
  refine lv_iconst (v := 0) hx hb dX9_rests_2 (by decide) ?_
  refine lv_bipush (v := 9) hx hb dX9_rests_3 (by decide) ?_
  refine kz_Si (As := [.int q1, .int 0, .int 9]) (rest := [.ref y]) (wc := []) (wr := [(y, kO 9 [.int y_thrown, .int y_taped, y_tape, .int y_size, .int y_place, .int y_begin, .int y_token, .long y_word, .int y_told, .int y_wrong, y_supper, y_guestName, y_kind, y_offTold, y_pace, y_cooks, y_snow, y_lineFrom, y_lineTo, y_codes, .int y_code, .int y_toldLines, y_opened, y_compared, y_kept, y_keptBy, y_ahead, y_against, y_sum, y_sumBy, y_term, y_termBy, y_byNot, y_valueOf, .int y_given, y_lines, y_lineWhat, y_lineA, y_lineB, y_seens, y_seenIn, y_seenYards, y_seenNear, y_s, y_aside, y_before, y_marked, y_undone, y_isLaid, .int y_done, .int y_snowNow, .int y_cameNow, .int y_cookThen, .int y_tasteThen, y_places, y_comesAt, y_yardsIn, .long y_g])]) ⟨hx, hb, hml, hown, hts⟩ hK hE hP hD hS hA (mX9_within l D k H.size q1 0 9) (va_cwS 3 hts gX9_rests_X9_within rfl rfl rfl (by decide +kernel) (by rw [hR]; exact ⟨Nat.le_of_ble_eq_true rfl, Nat.le_of_ble_eq_true rfl⟩)) [] [0] rfl rfl (by decide +kernel) (by decide +kernel) (by decide +kernel) rfl hl.1 rfl (Nat.le_of_ble_eq_true rfl) dX9_rests_5 (by rw [hR]; exact ⟨Nat.le_of_ble_eq_true rfl, Nat.le_of_ble_eq_true rfl⟩) (fun r1 u1 H locs hw1 hP hD hS => ?_)
  exact by
   try dsimp only at hw1
   obtain rfl : r1 = bz (0 ≤ q1 ∧ q1 ≤ 9) := hw1
   have hP : va_P D vwCl [(y, kO 9 [.int y_thrown, .int y_taped, y_tape, .int y_size, .int y_place, .int y_begin, .int y_token, .long y_word, .int y_told, .int y_wrong, y_supper, y_guestName, y_kind, y_offTold, y_pace, y_cooks, y_snow, y_lineFrom, y_lineTo, y_codes, .int y_code, .int y_toldLines, y_opened, y_compared, y_kept, y_keptBy, y_ahead, y_against, y_sum, y_sumBy, y_term, y_termBy, y_byNot, y_valueOf, .int y_given, y_lines, y_lineWhat, y_lineA, y_lineB, y_seens, y_seenIn, y_seenYards, y_seenNear, y_s, y_aside, y_before, y_marked, y_undone, y_isLaid, .int y_done, .int y_snowNow, .int y_cameNow, .int y_cookThen, .int y_tasteThen, y_places, y_comesAt, y_yardsIn, .long y_g])] H := hP
   have hD : va_D A [(y, kO 9 [.int y_thrown, .int y_taped, y_tape, .int y_size, .int y_place, .int y_begin, .int y_token, .long y_word, .int y_told, .int y_wrong, y_supper, y_guestName, y_kind, y_offTold, y_pace, y_cooks, y_snow, y_lineFrom, y_lineTo, y_codes, .int y_code, .int y_toldLines, y_opened, y_compared, y_kept, y_keptBy, y_ahead, y_against, y_sum, y_sumBy, y_term, y_termBy, y_byNot, y_valueOf, .int y_given, y_lines, y_lineWhat, y_lineA, y_lineB, y_seens, y_seenIn, y_seenYards, y_seenNear, y_s, y_aside, y_before, y_marked, y_undone, y_isLaid, .int y_done, .int y_snowNow, .int y_cameNow, .int y_cookThen, .int y_tasteThen, y_places, y_comesAt, y_yardsIn, .long y_g])] := hD
   refine lv_if_eq (tgt := 41) hx hb dX9_rests_8 (by decide) (fun c_2 => ?_) (fun c_2 => ?_)
   · exact by
      refine lv_iconst (v := 1) hx hb dX9_rests_41 (by decide) ?_
      refine va_put (D := D) (ci := 9) (v := .int 1) (ty := .int) (C := RX9) (T := TX9) (N := 58) hx hb hts hi9 tyX9 tyX9_ok nmX9 hown hK hP hD hS 0 rfl rfl 0 (by decide) lf143 (fun _ h9 => h9) rfl (by decide +kernel) rfl rfl (Nat.le_of_ble_eq_true rfl) dX9_rests_42 (fun H locs hP hD hS => ?_)
      exact by
       have hP : va_P D vwCl [(y, kO 9 [.int 1, .int y_taped, y_tape, .int y_size, .int y_place, .int y_begin, .int y_token, .long y_word, .int y_told, .int y_wrong, y_supper, y_guestName, y_kind, y_offTold, y_pace, y_cooks, y_snow, y_lineFrom, y_lineTo, y_codes, .int y_code, .int y_toldLines, y_opened, y_compared, y_kept, y_keptBy, y_ahead, y_against, y_sum, y_sumBy, y_term, y_termBy, y_byNot, y_valueOf, .int y_given, y_lines, y_lineWhat, y_lineA, y_lineB, y_seens, y_seenIn, y_seenYards, y_seenNear, y_s, y_aside, y_before, y_marked, y_undone, y_isLaid, .int y_done, .int y_snowNow, .int y_cameNow, .int y_cookThen, .int y_tasteThen, y_places, y_comesAt, y_yardsIn, .long y_g])] H := hP
       have hD : va_D A [(y, kO 9 [.int 1, .int y_taped, y_tape, .int y_size, .int y_place, .int y_begin, .int y_token, .long y_word, .int y_told, .int y_wrong, y_supper, y_guestName, y_kind, y_offTold, y_pace, y_cooks, y_snow, y_lineFrom, y_lineTo, y_codes, .int y_code, .int y_toldLines, y_opened, y_compared, y_kept, y_keptBy, y_ahead, y_against, y_sum, y_sumBy, y_term, y_termBy, y_byNot, y_valueOf, .int y_given, y_lines, y_lineWhat, y_lineA, y_lineB, y_seens, y_seenIn, y_seenYards, y_seenNear, y_s, y_aside, y_before, y_marked, y_undone, y_isLaid, .int y_done, .int y_snowNow, .int y_cameNow, .int y_cookThen, .int y_tasteThen, y_places, y_comesAt, y_yardsIn, .long y_g])] := hD
       refine lv_aload_n hx hb dX9_rests_45 rfl (lv_at hl 0 rfl) ?_
       refine va_get (D := D) (ci := 9) (v := .int 1) (C := RX9) (T := TX9) (N := 58) hx hb hts hi9 hown hK hP 0 rfl rfl 0 (by decide) lf143 (fun _ h9 => h9) rfl dX9_rests_46 ?_
       refine lv_iconst (v := 1) hx hb dX9_rests_49 (by decide) ?_
       refine lv_icmp_ne (tgt := 55) hx hb dX9_rests_50 (by decide) (fun c_3 => absurd (by decide) c_3) (fun c_3 => ?_)
       exact by
        refine lv_iconst (v := 0) hx hb dX9_rests_53 (by decide) ?_
        rw [hQ]
        have hP9 := hP.sub (ws' := [(y, kO 9 [.int 1, .int y_taped, y_tape, .int y_size, .int y_place, .int y_begin, .int y_token, .long y_word, .int y_told, .int y_wrong, y_supper, y_guestName, y_kind, y_offTold, y_pace, y_cooks, y_snow, y_lineFrom, y_lineTo, y_codes, .int y_code, .int y_toldLines, y_opened, y_compared, y_kept, y_keptBy, y_ahead, y_against, y_sum, y_sumBy, y_term, y_termBy, y_byNot, y_valueOf, .int y_given, y_lines, y_lineWhat, y_lineA, y_lineB, y_seens, y_seenIn, y_seenYards, y_seenNear, y_s, y_aside, y_before, y_marked, y_undone, y_isLaid, .int y_done, .int y_snowNow, .int y_cameNow, .int y_cookThen, .int y_tasteThen, y_places, y_comesAt, y_yardsIn, .long y_g])]) [0] rfl
        have hD9 := hD.sub (ws' := [(y, kO 9 [.int 1, .int y_taped, y_tape, .int y_size, .int y_place, .int y_begin, .int y_token, .long y_word, .int y_told, .int y_wrong, y_supper, y_guestName, y_kind, y_offTold, y_pace, y_cooks, y_snow, y_lineFrom, y_lineTo, y_codes, .int y_code, .int y_toldLines, y_opened, y_compared, y_kept, y_keptBy, y_ahead, y_against, y_sum, y_sumBy, y_term, y_termBy, y_byNot, y_valueOf, .int y_given, y_lines, y_lineWhat, y_lineA, y_lineB, y_seens, y_seenIn, y_seenYards, y_seenNear, y_s, y_aside, y_before, y_marked, y_undone, y_isLaid, .int y_done, .int y_snowNow, .int y_cameNow, .int y_cookThen, .int y_tasteThen, y_places, y_comesAt, y_yardsIn, .long y_g])]) [0] (by decide +kernel) rfl
        exact W.iret (v := 0) hx hb hr (fun zt ht hW => ⟨⟨0, 1, rfl, (by unfold rs; rw [if_neg (bz_0 c_2)]), by rw [ht]; exact hP9, hD9⟩, hS.F ht⟩) hS.2.2 dX9_rests_54
   · exact by
      refine lv_iload_n hx hb dX9_rests_11 rfl (lv_at hl 2 rfl) ?_
      refine lv_iconst (v := 0) hx hb dX9_rests_12 (by decide) ?_
      refine lv_bipush (v := 9) hx hb dX9_rests_13 (by decide) ?_
      refine kz_Si (As := [.int q2, .int 0, .int 9]) (rest := [.ref y]) (wc := []) (wr := [(y, kO 9 [.int y_thrown, .int y_taped, y_tape, .int y_size, .int y_place, .int y_begin, .int y_token, .long y_word, .int y_told, .int y_wrong, y_supper, y_guestName, y_kind, y_offTold, y_pace, y_cooks, y_snow, y_lineFrom, y_lineTo, y_codes, .int y_code, .int y_toldLines, y_opened, y_compared, y_kept, y_keptBy, y_ahead, y_against, y_sum, y_sumBy, y_term, y_termBy, y_byNot, y_valueOf, .int y_given, y_lines, y_lineWhat, y_lineA, y_lineB, y_seens, y_seenIn, y_seenYards, y_seenNear, y_s, y_aside, y_before, y_marked, y_undone, y_isLaid, .int y_done, .int y_snowNow, .int y_cameNow, .int y_cookThen, .int y_tasteThen, y_places, y_comesAt, y_yardsIn, .long y_g])]) ⟨hx, hb, hml, hown, hts⟩ hK hE hP hD hS hA (mX9_within l D k H.size q2 0 9) (va_cwS 3 hts gX9_rests_X9_within rfl rfl rfl (by decide +kernel) (by rw [hR]; exact ⟨Nat.le_of_ble_eq_true rfl, Nat.le_of_ble_eq_true rfl⟩)) [] [0] rfl rfl (by decide +kernel) (by decide +kernel) (by decide +kernel) rfl hl.1 rfl (Nat.le_of_ble_eq_true rfl) dX9_rests_15 (by rw [hR]; exact ⟨Nat.le_of_ble_eq_true rfl, Nat.le_of_ble_eq_true rfl⟩) (fun r4 u4 H locs hw4 hP hD hS => ?_)
      exact by
       try dsimp only at hw4
       obtain rfl : r4 = bz (0 ≤ q2 ∧ q2 ≤ 9) := hw4
       have hP : va_P D vwCl [(y, kO 9 [.int y_thrown, .int y_taped, y_tape, .int y_size, .int y_place, .int y_begin, .int y_token, .long y_word, .int y_told, .int y_wrong, y_supper, y_guestName, y_kind, y_offTold, y_pace, y_cooks, y_snow, y_lineFrom, y_lineTo, y_codes, .int y_code, .int y_toldLines, y_opened, y_compared, y_kept, y_keptBy, y_ahead, y_against, y_sum, y_sumBy, y_term, y_termBy, y_byNot, y_valueOf, .int y_given, y_lines, y_lineWhat, y_lineA, y_lineB, y_seens, y_seenIn, y_seenYards, y_seenNear, y_s, y_aside, y_before, y_marked, y_undone, y_isLaid, .int y_done, .int y_snowNow, .int y_cameNow, .int y_cookThen, .int y_tasteThen, y_places, y_comesAt, y_yardsIn, .long y_g])] H := hP
       have hD : va_D A [(y, kO 9 [.int y_thrown, .int y_taped, y_tape, .int y_size, .int y_place, .int y_begin, .int y_token, .long y_word, .int y_told, .int y_wrong, y_supper, y_guestName, y_kind, y_offTold, y_pace, y_cooks, y_snow, y_lineFrom, y_lineTo, y_codes, .int y_code, .int y_toldLines, y_opened, y_compared, y_kept, y_keptBy, y_ahead, y_against, y_sum, y_sumBy, y_term, y_termBy, y_byNot, y_valueOf, .int y_given, y_lines, y_lineWhat, y_lineA, y_lineB, y_seens, y_seenIn, y_seenYards, y_seenNear, y_s, y_aside, y_before, y_marked, y_undone, y_isLaid, .int y_done, .int y_snowNow, .int y_cameNow, .int y_cookThen, .int y_tasteThen, y_places, y_comesAt, y_yardsIn, .long y_g])] := hD
       refine lv_if_eq (tgt := 41) hx hb dX9_rests_18 (by decide) (fun c_5 => ?_) (fun c_5 => ?_)
       · exact by
          refine lv_iconst (v := 1) hx hb dX9_rests_41 (by decide) ?_
          refine va_put (D := D) (ci := 9) (v := .int 1) (ty := .int) (C := RX9) (T := TX9) (N := 58) hx hb hts hi9 tyX9 tyX9_ok nmX9 hown hK hP hD hS 0 rfl rfl 0 (by decide) lf143 (fun _ h9 => h9) rfl (by decide +kernel) rfl rfl (Nat.le_of_ble_eq_true rfl) dX9_rests_42 (fun H locs hP hD hS => ?_)
          exact by
           have hP : va_P D vwCl [(y, kO 9 [.int 1, .int y_taped, y_tape, .int y_size, .int y_place, .int y_begin, .int y_token, .long y_word, .int y_told, .int y_wrong, y_supper, y_guestName, y_kind, y_offTold, y_pace, y_cooks, y_snow, y_lineFrom, y_lineTo, y_codes, .int y_code, .int y_toldLines, y_opened, y_compared, y_kept, y_keptBy, y_ahead, y_against, y_sum, y_sumBy, y_term, y_termBy, y_byNot, y_valueOf, .int y_given, y_lines, y_lineWhat, y_lineA, y_lineB, y_seens, y_seenIn, y_seenYards, y_seenNear, y_s, y_aside, y_before, y_marked, y_undone, y_isLaid, .int y_done, .int y_snowNow, .int y_cameNow, .int y_cookThen, .int y_tasteThen, y_places, y_comesAt, y_yardsIn, .long y_g])] H := hP
           have hD : va_D A [(y, kO 9 [.int 1, .int y_taped, y_tape, .int y_size, .int y_place, .int y_begin, .int y_token, .long y_word, .int y_told, .int y_wrong, y_supper, y_guestName, y_kind, y_offTold, y_pace, y_cooks, y_snow, y_lineFrom, y_lineTo, y_codes, .int y_code, .int y_toldLines, y_opened, y_compared, y_kept, y_keptBy, y_ahead, y_against, y_sum, y_sumBy, y_term, y_termBy, y_byNot, y_valueOf, .int y_given, y_lines, y_lineWhat, y_lineA, y_lineB, y_seens, y_seenIn, y_seenYards, y_seenNear, y_s, y_aside, y_before, y_marked, y_undone, y_isLaid, .int y_done, .int y_snowNow, .int y_cameNow, .int y_cookThen, .int y_tasteThen, y_places, y_comesAt, y_yardsIn, .long y_g])] := hD
           refine lv_aload_n hx hb dX9_rests_45 rfl (lv_at hl 0 rfl) ?_
           refine va_get (D := D) (ci := 9) (v := .int 1) (C := RX9) (T := TX9) (N := 58) hx hb hts hi9 hown hK hP 0 rfl rfl 0 (by decide) lf143 (fun _ h9 => h9) rfl dX9_rests_46 ?_
           refine lv_iconst (v := 1) hx hb dX9_rests_49 (by decide) ?_
           refine lv_icmp_ne (tgt := 55) hx hb dX9_rests_50 (by decide) (fun c_6 => absurd (by decide) c_6) (fun c_6 => ?_)
           exact by
            refine lv_iconst (v := 0) hx hb dX9_rests_53 (by decide) ?_
            rw [hQ]
            have hP9 := hP.sub (ws' := [(y, kO 9 [.int 1, .int y_taped, y_tape, .int y_size, .int y_place, .int y_begin, .int y_token, .long y_word, .int y_told, .int y_wrong, y_supper, y_guestName, y_kind, y_offTold, y_pace, y_cooks, y_snow, y_lineFrom, y_lineTo, y_codes, .int y_code, .int y_toldLines, y_opened, y_compared, y_kept, y_keptBy, y_ahead, y_against, y_sum, y_sumBy, y_term, y_termBy, y_byNot, y_valueOf, .int y_given, y_lines, y_lineWhat, y_lineA, y_lineB, y_seens, y_seenIn, y_seenYards, y_seenNear, y_s, y_aside, y_before, y_marked, y_undone, y_isLaid, .int y_done, .int y_snowNow, .int y_cameNow, .int y_cookThen, .int y_tasteThen, y_places, y_comesAt, y_yardsIn, .long y_g])]) [0] rfl
            have hD9 := hD.sub (ws' := [(y, kO 9 [.int 1, .int y_taped, y_tape, .int y_size, .int y_place, .int y_begin, .int y_token, .long y_word, .int y_told, .int y_wrong, y_supper, y_guestName, y_kind, y_offTold, y_pace, y_cooks, y_snow, y_lineFrom, y_lineTo, y_codes, .int y_code, .int y_toldLines, y_opened, y_compared, y_kept, y_keptBy, y_ahead, y_against, y_sum, y_sumBy, y_term, y_termBy, y_byNot, y_valueOf, .int y_given, y_lines, y_lineWhat, y_lineA, y_lineB, y_seens, y_seenIn, y_seenYards, y_seenNear, y_s, y_aside, y_before, y_marked, y_undone, y_isLaid, .int y_done, .int y_snowNow, .int y_cameNow, .int y_cookThen, .int y_tasteThen, y_places, y_comesAt, y_yardsIn, .long y_g])]) [0] (by decide +kernel) rfl
            exact W.iret (v := 0) hx hb hr (fun zt ht hW => ⟨⟨0, 1, rfl, (by unfold rs; rw [if_pos (bz_1 c_2), if_neg (bz_0 c_5)]), by rw [ht]; exact hP9, hD9⟩, hS.F ht⟩) hS.2.2 dX9_rests_54
       · exact by
          refine lv_iload_n hx hb dX9_rests_21 rfl (lv_at hl 3 rfl) ?_
          refine lv_iconst (v := 0) hx hb dX9_rests_22 (by decide) ?_
          refine lv_bipush (v := 9) hx hb dX9_rests_23 (by decide) ?_
          refine kz_Si (As := [.int q3, .int 0, .int 9]) (rest := [.ref y]) (wc := []) (wr := [(y, kO 9 [.int y_thrown, .int y_taped, y_tape, .int y_size, .int y_place, .int y_begin, .int y_token, .long y_word, .int y_told, .int y_wrong, y_supper, y_guestName, y_kind, y_offTold, y_pace, y_cooks, y_snow, y_lineFrom, y_lineTo, y_codes, .int y_code, .int y_toldLines, y_opened, y_compared, y_kept, y_keptBy, y_ahead, y_against, y_sum, y_sumBy, y_term, y_termBy, y_byNot, y_valueOf, .int y_given, y_lines, y_lineWhat, y_lineA, y_lineB, y_seens, y_seenIn, y_seenYards, y_seenNear, y_s, y_aside, y_before, y_marked, y_undone, y_isLaid, .int y_done, .int y_snowNow, .int y_cameNow, .int y_cookThen, .int y_tasteThen, y_places, y_comesAt, y_yardsIn, .long y_g])]) ⟨hx, hb, hml, hown, hts⟩ hK hE hP hD hS hA (mX9_within l D k H.size q3 0 9) (va_cwS 3 hts gX9_rests_X9_within rfl rfl rfl (by decide +kernel) (by rw [hR]; exact ⟨Nat.le_of_ble_eq_true rfl, Nat.le_of_ble_eq_true rfl⟩)) [] [0] rfl rfl (by decide +kernel) (by decide +kernel) (by decide +kernel) rfl hl.1 rfl (Nat.le_of_ble_eq_true rfl) dX9_rests_25 (by rw [hR]; exact ⟨Nat.le_of_ble_eq_true rfl, Nat.le_of_ble_eq_true rfl⟩) (fun r7 u7 H locs hw7 hP hD hS => ?_)
          exact by
           try dsimp only at hw7
           obtain rfl : r7 = bz (0 ≤ q3 ∧ q3 ≤ 9) := hw7
           have hP : va_P D vwCl [(y, kO 9 [.int y_thrown, .int y_taped, y_tape, .int y_size, .int y_place, .int y_begin, .int y_token, .long y_word, .int y_told, .int y_wrong, y_supper, y_guestName, y_kind, y_offTold, y_pace, y_cooks, y_snow, y_lineFrom, y_lineTo, y_codes, .int y_code, .int y_toldLines, y_opened, y_compared, y_kept, y_keptBy, y_ahead, y_against, y_sum, y_sumBy, y_term, y_termBy, y_byNot, y_valueOf, .int y_given, y_lines, y_lineWhat, y_lineA, y_lineB, y_seens, y_seenIn, y_seenYards, y_seenNear, y_s, y_aside, y_before, y_marked, y_undone, y_isLaid, .int y_done, .int y_snowNow, .int y_cameNow, .int y_cookThen, .int y_tasteThen, y_places, y_comesAt, y_yardsIn, .long y_g])] H := hP
           have hD : va_D A [(y, kO 9 [.int y_thrown, .int y_taped, y_tape, .int y_size, .int y_place, .int y_begin, .int y_token, .long y_word, .int y_told, .int y_wrong, y_supper, y_guestName, y_kind, y_offTold, y_pace, y_cooks, y_snow, y_lineFrom, y_lineTo, y_codes, .int y_code, .int y_toldLines, y_opened, y_compared, y_kept, y_keptBy, y_ahead, y_against, y_sum, y_sumBy, y_term, y_termBy, y_byNot, y_valueOf, .int y_given, y_lines, y_lineWhat, y_lineA, y_lineB, y_seens, y_seenIn, y_seenYards, y_seenNear, y_s, y_aside, y_before, y_marked, y_undone, y_isLaid, .int y_done, .int y_snowNow, .int y_cameNow, .int y_cookThen, .int y_tasteThen, y_places, y_comesAt, y_yardsIn, .long y_g])] := hD
           refine lv_if_eq (tgt := 41) hx hb dX9_rests_28 (by decide) (fun c_8 => ?_) (fun c_8 => ?_)
           · exact by
              refine lv_iconst (v := 1) hx hb dX9_rests_41 (by decide) ?_
              refine va_put (D := D) (ci := 9) (v := .int 1) (ty := .int) (C := RX9) (T := TX9) (N := 58) hx hb hts hi9 tyX9 tyX9_ok nmX9 hown hK hP hD hS 0 rfl rfl 0 (by decide) lf143 (fun _ h9 => h9) rfl (by decide +kernel) rfl rfl (Nat.le_of_ble_eq_true rfl) dX9_rests_42 (fun H locs hP hD hS => ?_)
              exact by
               have hP : va_P D vwCl [(y, kO 9 [.int 1, .int y_taped, y_tape, .int y_size, .int y_place, .int y_begin, .int y_token, .long y_word, .int y_told, .int y_wrong, y_supper, y_guestName, y_kind, y_offTold, y_pace, y_cooks, y_snow, y_lineFrom, y_lineTo, y_codes, .int y_code, .int y_toldLines, y_opened, y_compared, y_kept, y_keptBy, y_ahead, y_against, y_sum, y_sumBy, y_term, y_termBy, y_byNot, y_valueOf, .int y_given, y_lines, y_lineWhat, y_lineA, y_lineB, y_seens, y_seenIn, y_seenYards, y_seenNear, y_s, y_aside, y_before, y_marked, y_undone, y_isLaid, .int y_done, .int y_snowNow, .int y_cameNow, .int y_cookThen, .int y_tasteThen, y_places, y_comesAt, y_yardsIn, .long y_g])] H := hP
               have hD : va_D A [(y, kO 9 [.int 1, .int y_taped, y_tape, .int y_size, .int y_place, .int y_begin, .int y_token, .long y_word, .int y_told, .int y_wrong, y_supper, y_guestName, y_kind, y_offTold, y_pace, y_cooks, y_snow, y_lineFrom, y_lineTo, y_codes, .int y_code, .int y_toldLines, y_opened, y_compared, y_kept, y_keptBy, y_ahead, y_against, y_sum, y_sumBy, y_term, y_termBy, y_byNot, y_valueOf, .int y_given, y_lines, y_lineWhat, y_lineA, y_lineB, y_seens, y_seenIn, y_seenYards, y_seenNear, y_s, y_aside, y_before, y_marked, y_undone, y_isLaid, .int y_done, .int y_snowNow, .int y_cameNow, .int y_cookThen, .int y_tasteThen, y_places, y_comesAt, y_yardsIn, .long y_g])] := hD
               refine lv_aload_n hx hb dX9_rests_45 rfl (lv_at hl 0 rfl) ?_
               refine va_get (D := D) (ci := 9) (v := .int 1) (C := RX9) (T := TX9) (N := 58) hx hb hts hi9 hown hK hP 0 rfl rfl 0 (by decide) lf143 (fun _ h9 => h9) rfl dX9_rests_46 ?_
               refine lv_iconst (v := 1) hx hb dX9_rests_49 (by decide) ?_
               refine lv_icmp_ne (tgt := 55) hx hb dX9_rests_50 (by decide) (fun c_9 => absurd (by decide) c_9) (fun c_9 => ?_)
               exact by
                refine lv_iconst (v := 0) hx hb dX9_rests_53 (by decide) ?_
                rw [hQ]
                have hP9 := hP.sub (ws' := [(y, kO 9 [.int 1, .int y_taped, y_tape, .int y_size, .int y_place, .int y_begin, .int y_token, .long y_word, .int y_told, .int y_wrong, y_supper, y_guestName, y_kind, y_offTold, y_pace, y_cooks, y_snow, y_lineFrom, y_lineTo, y_codes, .int y_code, .int y_toldLines, y_opened, y_compared, y_kept, y_keptBy, y_ahead, y_against, y_sum, y_sumBy, y_term, y_termBy, y_byNot, y_valueOf, .int y_given, y_lines, y_lineWhat, y_lineA, y_lineB, y_seens, y_seenIn, y_seenYards, y_seenNear, y_s, y_aside, y_before, y_marked, y_undone, y_isLaid, .int y_done, .int y_snowNow, .int y_cameNow, .int y_cookThen, .int y_tasteThen, y_places, y_comesAt, y_yardsIn, .long y_g])]) [0] rfl
                have hD9 := hD.sub (ws' := [(y, kO 9 [.int 1, .int y_taped, y_tape, .int y_size, .int y_place, .int y_begin, .int y_token, .long y_word, .int y_told, .int y_wrong, y_supper, y_guestName, y_kind, y_offTold, y_pace, y_cooks, y_snow, y_lineFrom, y_lineTo, y_codes, .int y_code, .int y_toldLines, y_opened, y_compared, y_kept, y_keptBy, y_ahead, y_against, y_sum, y_sumBy, y_term, y_termBy, y_byNot, y_valueOf, .int y_given, y_lines, y_lineWhat, y_lineA, y_lineB, y_seens, y_seenIn, y_seenYards, y_seenNear, y_s, y_aside, y_before, y_marked, y_undone, y_isLaid, .int y_done, .int y_snowNow, .int y_cameNow, .int y_cookThen, .int y_tasteThen, y_places, y_comesAt, y_yardsIn, .long y_g])]) [0] (by decide +kernel) rfl
                exact W.iret (v := 0) hx hb hr (fun zt ht hW => ⟨⟨0, 1, rfl, (by unfold rs; rw [if_pos (bz_1 c_2), if_pos (bz_1 c_5), if_neg (bz_0 c_8)]), by rw [ht]; exact hP9, hD9⟩, hS.F ht⟩) hS.2.2 dX9_rests_54
           · exact by
              refine lv_iload hx hb dX9_rests_31 (lv_at hl 4 rfl) ?_
              refine lv_iconst (v := (-1)) hx hb dX9_rests_33 (by decide) ?_
              refine lv_icmp_lt (tgt := 41) hx hb dX9_rests_34 (by decide) (fun c_10 => ?_) (fun c_10 => ?_)
              · exact by
                 refine lv_iconst (v := 1) hx hb dX9_rests_41 (by decide) ?_
                 refine va_put (D := D) (ci := 9) (v := .int 1) (ty := .int) (C := RX9) (T := TX9) (N := 58) hx hb hts hi9 tyX9 tyX9_ok nmX9 hown hK hP hD hS 0 rfl rfl 0 (by decide) lf143 (fun _ h9 => h9) rfl (by decide +kernel) rfl rfl (Nat.le_of_ble_eq_true rfl) dX9_rests_42 (fun H locs hP hD hS => ?_)
                 exact by
                  have hP : va_P D vwCl [(y, kO 9 [.int 1, .int y_taped, y_tape, .int y_size, .int y_place, .int y_begin, .int y_token, .long y_word, .int y_told, .int y_wrong, y_supper, y_guestName, y_kind, y_offTold, y_pace, y_cooks, y_snow, y_lineFrom, y_lineTo, y_codes, .int y_code, .int y_toldLines, y_opened, y_compared, y_kept, y_keptBy, y_ahead, y_against, y_sum, y_sumBy, y_term, y_termBy, y_byNot, y_valueOf, .int y_given, y_lines, y_lineWhat, y_lineA, y_lineB, y_seens, y_seenIn, y_seenYards, y_seenNear, y_s, y_aside, y_before, y_marked, y_undone, y_isLaid, .int y_done, .int y_snowNow, .int y_cameNow, .int y_cookThen, .int y_tasteThen, y_places, y_comesAt, y_yardsIn, .long y_g])] H := hP
                  have hD : va_D A [(y, kO 9 [.int 1, .int y_taped, y_tape, .int y_size, .int y_place, .int y_begin, .int y_token, .long y_word, .int y_told, .int y_wrong, y_supper, y_guestName, y_kind, y_offTold, y_pace, y_cooks, y_snow, y_lineFrom, y_lineTo, y_codes, .int y_code, .int y_toldLines, y_opened, y_compared, y_kept, y_keptBy, y_ahead, y_against, y_sum, y_sumBy, y_term, y_termBy, y_byNot, y_valueOf, .int y_given, y_lines, y_lineWhat, y_lineA, y_lineB, y_seens, y_seenIn, y_seenYards, y_seenNear, y_s, y_aside, y_before, y_marked, y_undone, y_isLaid, .int y_done, .int y_snowNow, .int y_cameNow, .int y_cookThen, .int y_tasteThen, y_places, y_comesAt, y_yardsIn, .long y_g])] := hD
                  refine lv_aload_n hx hb dX9_rests_45 rfl (lv_at hl 0 rfl) ?_
                  refine va_get (D := D) (ci := 9) (v := .int 1) (C := RX9) (T := TX9) (N := 58) hx hb hts hi9 hown hK hP 0 rfl rfl 0 (by decide) lf143 (fun _ h9 => h9) rfl dX9_rests_46 ?_
                  refine lv_iconst (v := 1) hx hb dX9_rests_49 (by decide) ?_
                  refine lv_icmp_ne (tgt := 55) hx hb dX9_rests_50 (by decide) (fun c_11 => absurd (by decide) c_11) (fun c_11 => ?_)
                  exact by
                   refine lv_iconst (v := 0) hx hb dX9_rests_53 (by decide) ?_
                   rw [hQ]
                   have hP9 := hP.sub (ws' := [(y, kO 9 [.int 1, .int y_taped, y_tape, .int y_size, .int y_place, .int y_begin, .int y_token, .long y_word, .int y_told, .int y_wrong, y_supper, y_guestName, y_kind, y_offTold, y_pace, y_cooks, y_snow, y_lineFrom, y_lineTo, y_codes, .int y_code, .int y_toldLines, y_opened, y_compared, y_kept, y_keptBy, y_ahead, y_against, y_sum, y_sumBy, y_term, y_termBy, y_byNot, y_valueOf, .int y_given, y_lines, y_lineWhat, y_lineA, y_lineB, y_seens, y_seenIn, y_seenYards, y_seenNear, y_s, y_aside, y_before, y_marked, y_undone, y_isLaid, .int y_done, .int y_snowNow, .int y_cameNow, .int y_cookThen, .int y_tasteThen, y_places, y_comesAt, y_yardsIn, .long y_g])]) [0] rfl
                   have hD9 := hD.sub (ws' := [(y, kO 9 [.int 1, .int y_taped, y_tape, .int y_size, .int y_place, .int y_begin, .int y_token, .long y_word, .int y_told, .int y_wrong, y_supper, y_guestName, y_kind, y_offTold, y_pace, y_cooks, y_snow, y_lineFrom, y_lineTo, y_codes, .int y_code, .int y_toldLines, y_opened, y_compared, y_kept, y_keptBy, y_ahead, y_against, y_sum, y_sumBy, y_term, y_termBy, y_byNot, y_valueOf, .int y_given, y_lines, y_lineWhat, y_lineA, y_lineB, y_seens, y_seenIn, y_seenYards, y_seenNear, y_s, y_aside, y_before, y_marked, y_undone, y_isLaid, .int y_done, .int y_snowNow, .int y_cameNow, .int y_cookThen, .int y_tasteThen, y_places, y_comesAt, y_yardsIn, .long y_g])]) [0] (by decide +kernel) rfl
                   exact W.iret (v := 0) hx hb hr (fun zt ht hW => ⟨⟨0, 1, rfl, (by unfold rs; rw [if_pos (bz_1 c_2), if_pos (bz_1 c_5), if_pos (bz_1 c_8), if_pos c_10]), by rw [ht]; exact hP9, hD9⟩, hS.F ht⟩) hS.2.2 dX9_rests_54
              · exact by
                 refine lv_iconst (v := 0) hx hb dX9_rests_37 (by decide) ?_
                 refine lv_goto (tgt := 42) hx hb dX9_rests_38 (by decide) ?_
                 refine va_put (D := D) (ci := 9) (v := .int 0) (ty := .int) (C := RX9) (T := TX9) (N := 58) hx hb hts hi9 tyX9 tyX9_ok nmX9 hown hK hP hD hS 0 rfl rfl 0 (by decide) lf143 (fun _ h9 => h9) rfl (by decide +kernel) rfl rfl (Nat.le_of_ble_eq_true rfl) dX9_rests_42 (fun H locs hP hD hS => ?_)
                 exact by
                  have hP : va_P D vwCl [(y, kO 9 [.int 0, .int y_taped, y_tape, .int y_size, .int y_place, .int y_begin, .int y_token, .long y_word, .int y_told, .int y_wrong, y_supper, y_guestName, y_kind, y_offTold, y_pace, y_cooks, y_snow, y_lineFrom, y_lineTo, y_codes, .int y_code, .int y_toldLines, y_opened, y_compared, y_kept, y_keptBy, y_ahead, y_against, y_sum, y_sumBy, y_term, y_termBy, y_byNot, y_valueOf, .int y_given, y_lines, y_lineWhat, y_lineA, y_lineB, y_seens, y_seenIn, y_seenYards, y_seenNear, y_s, y_aside, y_before, y_marked, y_undone, y_isLaid, .int y_done, .int y_snowNow, .int y_cameNow, .int y_cookThen, .int y_tasteThen, y_places, y_comesAt, y_yardsIn, .long y_g])] H := hP
                  have hD : va_D A [(y, kO 9 [.int 0, .int y_taped, y_tape, .int y_size, .int y_place, .int y_begin, .int y_token, .long y_word, .int y_told, .int y_wrong, y_supper, y_guestName, y_kind, y_offTold, y_pace, y_cooks, y_snow, y_lineFrom, y_lineTo, y_codes, .int y_code, .int y_toldLines, y_opened, y_compared, y_kept, y_keptBy, y_ahead, y_against, y_sum, y_sumBy, y_term, y_termBy, y_byNot, y_valueOf, .int y_given, y_lines, y_lineWhat, y_lineA, y_lineB, y_seens, y_seenIn, y_seenYards, y_seenNear, y_s, y_aside, y_before, y_marked, y_undone, y_isLaid, .int y_done, .int y_snowNow, .int y_cameNow, .int y_cookThen, .int y_tasteThen, y_places, y_comesAt, y_yardsIn, .long y_g])] := hD
                  refine lv_aload_n hx hb dX9_rests_45 rfl (lv_at hl 0 rfl) ?_
                  refine va_get (D := D) (ci := 9) (v := .int 0) (C := RX9) (T := TX9) (N := 58) hx hb hts hi9 hown hK hP 0 rfl rfl 0 (by decide) lf143 (fun _ h9 => h9) rfl dX9_rests_46 ?_
                  refine lv_iconst (v := 1) hx hb dX9_rests_49 (by decide) ?_
                  refine lv_icmp_ne (tgt := 55) hx hb dX9_rests_50 (by decide) (fun c_12 => ?_) (fun c_12 => absurd c_12 (by decide))
                  refine lv_iconst (v := 0) hx hb dX9_rests_55 (by decide) ?_
                  refine lv_istore (lv' := [(5, .int 0), (0, .ref y), (1, .int q1), (2, .int q2), (3, .int q3), (4, .int q4)]) hx hb dX9_rests_56 hl (by decide) rfl (fun ls hl => ?_)
                  exact by
                   refine lv_iconst (v := 0) hx hb dX9_rests_58 (by decide) ?_
                   refine lv_istore (lv' := [(6, .int 0), (5, .int 0), (0, .ref y), (1, .int q1), (2, .int q2), (3, .int q3), (4, .int q4)]) hx hb dX9_rests_59 hl (by decide) rfl (fun ls hl => ?_)
                   exact by
                    have hloop61 : ∀ (n : Nat) (j : Nat) (n9 : Nat), 4 - j < n → (j ≤ 4) → (n9 ≤ j) → (rgo q1 q2 q3 q4 (4 - j) j n9 = rs q1 q2 q3 q4) → ∀ (H : Heap) (locs : List Loc) (ls : Array Slot), va_P D vwCl [(y, kO 9 [.int 0, .int y_taped, y_tape, .int y_size, .int y_place, .int y_begin, .int y_token, .long y_word, .int y_told, .int y_wrong, y_supper, y_guestName, y_kind, y_offTold, y_pace, y_cooks, y_snow, y_lineFrom, y_lineTo, y_codes, .int y_code, .int y_toldLines, y_opened, y_compared, y_kept, y_keptBy, y_ahead, y_against, y_sum, y_sumBy, y_term, y_termBy, y_byNot, y_valueOf, .int y_given, y_lines, y_lineWhat, y_lineA, y_lineB, y_seens, y_seenIn, y_seenYards, y_seenNear, y_s, y_aside, y_before, y_marked, y_undone, y_isLaid, .int y_done, .int y_snowNow, .int y_cameNow, .int y_cookThen, .int y_tasteThen, y_places, y_comesAt, y_yardsIn, .long y_g])] H → va_D A [(y, kO 9 [.int 0, .int y_taped, y_tape, .int y_size, .int y_place, .int y_begin, .int y_token, .long y_word, .int y_told, .int y_wrong, y_supper, y_guestName, y_kind, y_offTold, y_pace, y_cooks, y_snow, y_lineFrom, y_lineTo, y_codes, .int y_code, .int y_toldLines, y_opened, y_compared, y_kept, y_keptBy, y_ahead, y_against, y_sum, y_sumBy, y_term, y_termBy, y_byNot, y_valueOf, .int y_given, y_lines, y_lineWhat, y_lineA, y_lineB, y_seens, y_seenIn, y_seenYards, y_seenNear, y_s, y_aside, y_before, y_marked, y_undone, y_isLaid, .int y_done, .int y_snowNow, .int y_cameNow, .int y_cookThen, .int y_tasteThen, y_places, y_comesAt, y_yardsIn, .long y_g])] → va_S A s.heap H locs → lv_has ls 9 [(6, .int (nI j)), (5, .int (nI n9)), (0, .ref y), (1, .int q1), (2, .int q2), (3, .int q3), (4, .int q4)] → W p l e R s m args below meth c H locs 0 0 Q (F0 m 61 ls []) := by
                      intro n61
                      induction n61 with
                      | zero => intro j n9 hm; exact absurd hm (Nat.not_lt_zero _)
                      | succ n61 ih61 =>
                        intro j n9 hm61 hj hn hrg H locs ls hP hD hS hl
                        refine lv_iload hx hb dX9_rests_61 (lv_at hl 0 rfl) ?_
                        refine lv_iconst (v := 4) hx hb dX9_rests_63 (by decide) ?_
                        refine lv_icmp_ge (tgt := 151) hx hb dX9_rests_64 (by decide) (fun c_13 => ?_) (fun c_13 => ?_)
                        · exact by
                           have k_13 : 4 ≤ j := (nI_leI (a := 4) (b := j) (by omega) (by omega)).mp c_13
                           obtain rfl : j = 4 := by omega
                           refine lv_aload_n hx hb dX9_rests_151 rfl (lv_at hl 2 rfl) ?_
                           refine lv_iload hx hb dX9_rests_152 (lv_at hl 6 rfl) ?_
                           refine lv_iconst (v := (-1)) hx hb dX9_rests_154 (by decide) ?_
                           refine lv_icmp_ne (tgt := 162) hx hb dX9_rests_155 (by decide) (fun c_14 => ?_) (fun c_14 => ?_)
                           · exact by
                              refine lv_iconst (v := 1) hx hb dX9_rests_162 (by decide) ?_
                              refine va_put (D := D) (ci := 9) (v := .int 1) (ty := .int) (C := RX9) (T := TX9) (N := 58) hx hb hts hi9 tyX9 tyX9_ok nmX9 hown hK hP hD hS 0 rfl rfl 0 (by decide) lf143 (fun _ h9 => h9) rfl (by decide +kernel) rfl rfl (Nat.le_of_ble_eq_true rfl) dX9_rests_163 (fun H locs hP hD hS => ?_)
                              exact by
                               have hP : va_P D vwCl [(y, kO 9 [.int 1, .int y_taped, y_tape, .int y_size, .int y_place, .int y_begin, .int y_token, .long y_word, .int y_told, .int y_wrong, y_supper, y_guestName, y_kind, y_offTold, y_pace, y_cooks, y_snow, y_lineFrom, y_lineTo, y_codes, .int y_code, .int y_toldLines, y_opened, y_compared, y_kept, y_keptBy, y_ahead, y_against, y_sum, y_sumBy, y_term, y_termBy, y_byNot, y_valueOf, .int y_given, y_lines, y_lineWhat, y_lineA, y_lineB, y_seens, y_seenIn, y_seenYards, y_seenNear, y_s, y_aside, y_before, y_marked, y_undone, y_isLaid, .int y_done, .int y_snowNow, .int y_cameNow, .int y_cookThen, .int y_tasteThen, y_places, y_comesAt, y_yardsIn, .long y_g])] H := hP
                               have hD : va_D A [(y, kO 9 [.int 1, .int y_taped, y_tape, .int y_size, .int y_place, .int y_begin, .int y_token, .long y_word, .int y_told, .int y_wrong, y_supper, y_guestName, y_kind, y_offTold, y_pace, y_cooks, y_snow, y_lineFrom, y_lineTo, y_codes, .int y_code, .int y_toldLines, y_opened, y_compared, y_kept, y_keptBy, y_ahead, y_against, y_sum, y_sumBy, y_term, y_termBy, y_byNot, y_valueOf, .int y_given, y_lines, y_lineWhat, y_lineA, y_lineB, y_seens, y_seenIn, y_seenYards, y_seenNear, y_s, y_aside, y_before, y_marked, y_undone, y_isLaid, .int y_done, .int y_snowNow, .int y_cameNow, .int y_cookThen, .int y_tasteThen, y_places, y_comesAt, y_yardsIn, .long y_g])] := hD
                               refine lv_iload hx hb dX9_rests_166 (lv_at hl 6 rfl) ?_
                               refine lv_iconst (v := (-1)) hx hb dX9_rests_168 (by decide) ?_
                               refine lv_icmp_ne (tgt := 177) hx hb dX9_rests_169 (by decide) (fun c_15 => ?_) (fun c_15 => absurd c_15 c_14)
                               refine lv_iconst (v := 0) hx hb dX9_rests_177 (by decide) ?_
                               rw [hQ]
                               have hP9 := hP.sub (ws' := [(y, kO 9 [.int 1, .int y_taped, y_tape, .int y_size, .int y_place, .int y_begin, .int y_token, .long y_word, .int y_told, .int y_wrong, y_supper, y_guestName, y_kind, y_offTold, y_pace, y_cooks, y_snow, y_lineFrom, y_lineTo, y_codes, .int y_code, .int y_toldLines, y_opened, y_compared, y_kept, y_keptBy, y_ahead, y_against, y_sum, y_sumBy, y_term, y_termBy, y_byNot, y_valueOf, .int y_given, y_lines, y_lineWhat, y_lineA, y_lineB, y_seens, y_seenIn, y_seenYards, y_seenNear, y_s, y_aside, y_before, y_marked, y_undone, y_isLaid, .int y_done, .int y_snowNow, .int y_cameNow, .int y_cookThen, .int y_tasteThen, y_places, y_comesAt, y_yardsIn, .long y_g])]) [0] rfl
                               have hD9 := hD.sub (ws' := [(y, kO 9 [.int 1, .int y_taped, y_tape, .int y_size, .int y_place, .int y_begin, .int y_token, .long y_word, .int y_told, .int y_wrong, y_supper, y_guestName, y_kind, y_offTold, y_pace, y_cooks, y_snow, y_lineFrom, y_lineTo, y_codes, .int y_code, .int y_toldLines, y_opened, y_compared, y_kept, y_keptBy, y_ahead, y_against, y_sum, y_sumBy, y_term, y_termBy, y_byNot, y_valueOf, .int y_given, y_lines, y_lineWhat, y_lineA, y_lineB, y_seens, y_seenIn, y_seenYards, y_seenNear, y_s, y_aside, y_before, y_marked, y_undone, y_isLaid, .int y_done, .int y_snowNow, .int y_cameNow, .int y_cookThen, .int y_tasteThen, y_places, y_comesAt, y_yardsIn, .long y_g])]) [0] (by decide +kernel) rfl
                               exact W.iret (v := 0) hx hb hr (fun zt ht hW => ⟨⟨0, 1, rfl, (hrg.symm.trans (by show (if q4 = -1 then _ else _) = _; rw [if_neg c_14])), by rw [ht]; exact hP9, hD9⟩, hS.F ht⟩) hS.2.2 dX9_rests_178
                           · exact by
                              refine lv_iconst (v := 0) hx hb dX9_rests_158 (by decide) ?_
                              refine lv_goto (tgt := 163) hx hb dX9_rests_159 (by decide) ?_
                              refine va_put (D := D) (ci := 9) (v := .int 0) (ty := .int) (C := RX9) (T := TX9) (N := 58) hx hb hts hi9 tyX9 tyX9_ok nmX9 hown hK hP hD hS 0 rfl rfl 0 (by decide) lf143 (fun _ h9 => h9) rfl (by decide +kernel) rfl rfl (Nat.le_of_ble_eq_true rfl) dX9_rests_163 (fun H locs hP hD hS => ?_)
                              exact by
                               have hP : va_P D vwCl [(y, kO 9 [.int 0, .int y_taped, y_tape, .int y_size, .int y_place, .int y_begin, .int y_token, .long y_word, .int y_told, .int y_wrong, y_supper, y_guestName, y_kind, y_offTold, y_pace, y_cooks, y_snow, y_lineFrom, y_lineTo, y_codes, .int y_code, .int y_toldLines, y_opened, y_compared, y_kept, y_keptBy, y_ahead, y_against, y_sum, y_sumBy, y_term, y_termBy, y_byNot, y_valueOf, .int y_given, y_lines, y_lineWhat, y_lineA, y_lineB, y_seens, y_seenIn, y_seenYards, y_seenNear, y_s, y_aside, y_before, y_marked, y_undone, y_isLaid, .int y_done, .int y_snowNow, .int y_cameNow, .int y_cookThen, .int y_tasteThen, y_places, y_comesAt, y_yardsIn, .long y_g])] H := hP
                               have hD : va_D A [(y, kO 9 [.int 0, .int y_taped, y_tape, .int y_size, .int y_place, .int y_begin, .int y_token, .long y_word, .int y_told, .int y_wrong, y_supper, y_guestName, y_kind, y_offTold, y_pace, y_cooks, y_snow, y_lineFrom, y_lineTo, y_codes, .int y_code, .int y_toldLines, y_opened, y_compared, y_kept, y_keptBy, y_ahead, y_against, y_sum, y_sumBy, y_term, y_termBy, y_byNot, y_valueOf, .int y_given, y_lines, y_lineWhat, y_lineA, y_lineB, y_seens, y_seenIn, y_seenYards, y_seenNear, y_s, y_aside, y_before, y_marked, y_undone, y_isLaid, .int y_done, .int y_snowNow, .int y_cameNow, .int y_cookThen, .int y_tasteThen, y_places, y_comesAt, y_yardsIn, .long y_g])] := hD
                               refine lv_iload hx hb dX9_rests_166 (lv_at hl 6 rfl) ?_
                               refine lv_iconst (v := (-1)) hx hb dX9_rests_168 (by decide) ?_
                               refine lv_icmp_ne (tgt := 177) hx hb dX9_rests_169 (by decide) (fun c_16 => absurd c_14 c_16) (fun c_16 => ?_)
                               exact by
                                refine lv_iload hx hb dX9_rests_172 (lv_at hl 1 rfl) ?_
                                refine lv_goto (tgt := 178) hx hb dX9_rests_174 (by decide) ?_
                                rw [hQ]
                                have hP9 := hP.sub (ws' := [(y, kO 9 [.int 0, .int y_taped, y_tape, .int y_size, .int y_place, .int y_begin, .int y_token, .long y_word, .int y_told, .int y_wrong, y_supper, y_guestName, y_kind, y_offTold, y_pace, y_cooks, y_snow, y_lineFrom, y_lineTo, y_codes, .int y_code, .int y_toldLines, y_opened, y_compared, y_kept, y_keptBy, y_ahead, y_against, y_sum, y_sumBy, y_term, y_termBy, y_byNot, y_valueOf, .int y_given, y_lines, y_lineWhat, y_lineA, y_lineB, y_seens, y_seenIn, y_seenYards, y_seenNear, y_s, y_aside, y_before, y_marked, y_undone, y_isLaid, .int y_done, .int y_snowNow, .int y_cameNow, .int y_cookThen, .int y_tasteThen, y_places, y_comesAt, y_yardsIn, .long y_g])]) [0] rfl
                                have hD9 := hD.sub (ws' := [(y, kO 9 [.int 0, .int y_taped, y_tape, .int y_size, .int y_place, .int y_begin, .int y_token, .long y_word, .int y_told, .int y_wrong, y_supper, y_guestName, y_kind, y_offTold, y_pace, y_cooks, y_snow, y_lineFrom, y_lineTo, y_codes, .int y_code, .int y_toldLines, y_opened, y_compared, y_kept, y_keptBy, y_ahead, y_against, y_sum, y_sumBy, y_term, y_termBy, y_byNot, y_valueOf, .int y_given, y_lines, y_lineWhat, y_lineA, y_lineB, y_seens, y_seenIn, y_seenYards, y_seenNear, y_s, y_aside, y_before, y_marked, y_undone, y_isLaid, .int y_done, .int y_snowNow, .int y_cameNow, .int y_cookThen, .int y_tasteThen, y_places, y_comesAt, y_yardsIn, .long y_g])]) [0] (by decide +kernel) rfl
                                exact W.iret (v := (nI n9)) hx hb hr (fun zt ht hW => ⟨⟨(nI n9), 0, rfl, (hrg.symm.trans (by show (if q4 = -1 then _ else _) = _; rw [if_pos c_14])), by rw [ht]; exact hP9, hD9⟩, hS.F ht⟩) hS.2.2 dX9_rests_178
                        · exact by
                           have k_13 : ¬ (4 ≤ j) := fun h => c_13 ((nI_leI (a := 4) (b := j) (by omega) (by omega)).mpr h)
                           refine lv_iload hx hb dX9_rests_67 (lv_at hl 0 rfl) ?_
                           refine lv_iconst (v := 2) hx hb dX9_rests_69 (by decide) ?_
                           refine lv_idiv hx hb dX9_rests_70 (by decide) ?_
                           refine lv_topi (fun x17 ex17 => ?_)
                           exact by
                            obtain rfl : x17 = (fA j) := ex17.trans (fA_d j (by omega))
                            refine lv_istore (lv' := [(7, .int (fA j)), (6, .int (nI j)), (5, .int (nI n9)), (0, .ref y), (1, .int q1), (2, .int q2), (3, .int q3), (4, .int q4)]) hx hb dX9_rests_71 hl (by decide) rfl (fun ls hl => ?_)
                            exact by
                             refine lv_iload hx hb dX9_rests_73 (lv_at hl 1 rfl) ?_
                             refine lv_iconst (v := 2) hx hb dX9_rests_75 (by decide) ?_
                             refine lv_irem hx hb dX9_rests_76 (by decide) ?_
                             refine lv_topi (fun x18 ex18 => ?_)
                             exact by
                              obtain rfl : x18 = (fB j) := ex18.trans (fB_d j (by omega))
                              refine lv_istore (lv' := [(8, .int (fB j)), (7, .int (fA j)), (6, .int (nI j)), (5, .int (nI n9)), (0, .ref y), (1, .int q1), (2, .int q2), (3, .int q3), (4, .int q4)]) hx hb dX9_rests_77 hl (by decide) rfl (fun ls hl => ?_)
                              exact by
                               refine lv_iload_n hx hb dX9_rests_79 rfl (lv_at hl 5 rfl) ?_
                               refine lv_iload_n hx hb dX9_rests_80 rfl (lv_at hl 6 rfl) ?_
                               refine lv_iload_n hx hb dX9_rests_81 rfl (lv_at hl 7 rfl) ?_
                               refine lv_iconst (v := 1) hx hb dX9_rests_82 (by decide) ?_
                               refine lv_iload hx hb dX9_rests_83 (lv_at hl 1 rfl) ?_
                               refine lv_isub hx hb dX9_rests_85 ?_
                               refine lv_iload hx hb dX9_rests_86 (lv_at hl 0 rfl) ?_
                               refine kz_Si (As := [.int q1, .int q2, .int q3, .int (1 - (fA j)), .int (fB j)]) (rest := []) (wc := []) (wr := [(y, kO 9 [.int 0, .int y_taped, y_tape, .int y_size, .int y_place, .int y_begin, .int y_token, .long y_word, .int y_told, .int y_wrong, y_supper, y_guestName, y_kind, y_offTold, y_pace, y_cooks, y_snow, y_lineFrom, y_lineTo, y_codes, .int y_code, .int y_toldLines, y_opened, y_compared, y_kept, y_keptBy, y_ahead, y_against, y_sum, y_sumBy, y_term, y_termBy, y_byNot, y_valueOf, .int y_given, y_lines, y_lineWhat, y_lineA, y_lineB, y_seens, y_seenIn, y_seenYards, y_seenNear, y_s, y_aside, y_before, y_marked, y_undone, y_isLaid, .int y_done, .int y_snowNow, .int y_cameNow, .int y_cookThen, .int y_tasteThen, y_places, y_comesAt, y_yardsIn, .long y_g])]) ⟨hx, hb, hml, hown, hts⟩ hK hE hP hD hS hA (mX9_getsBy l D k H.size q1 q2 q3 (1 - (fA j)) (fB j)) (va_cwS 5 hts gX9_rests_X9_getsBy rfl rfl rfl (by decide +kernel) (by rw [hR]; exact ⟨Nat.le_of_ble_eq_true rfl, Nat.le_of_ble_eq_true rfl⟩)) [] [0] rfl rfl (by decide +kernel) (by decide +kernel) (by decide +kernel) rfl hl.1 rfl (Nat.le_of_ble_eq_true rfl) dX9_rests_88 (by rw [hR]; exact ⟨Nat.le_of_ble_eq_true rfl, Nat.le_of_ble_eq_true rfl⟩) (fun r19 u19 H locs hw19 hP hD hS => ?_)
                               exact by
                                try dsimp only at hw19
                                obtain rfl : r19 = gm q1 q2 q3 (1 - (fA j)) (fB j) := hw19
                                have hP : va_P D vwCl [(y, kO 9 [.int 0, .int y_taped, y_tape, .int y_size, .int y_place, .int y_begin, .int y_token, .long y_word, .int y_told, .int y_wrong, y_supper, y_guestName, y_kind, y_offTold, y_pace, y_cooks, y_snow, y_lineFrom, y_lineTo, y_codes, .int y_code, .int y_toldLines, y_opened, y_compared, y_kept, y_keptBy, y_ahead, y_against, y_sum, y_sumBy, y_term, y_termBy, y_byNot, y_valueOf, .int y_given, y_lines, y_lineWhat, y_lineA, y_lineB, y_seens, y_seenIn, y_seenYards, y_seenNear, y_s, y_aside, y_before, y_marked, y_undone, y_isLaid, .int y_done, .int y_snowNow, .int y_cameNow, .int y_cookThen, .int y_tasteThen, y_places, y_comesAt, y_yardsIn, .long y_g])] H := hP
                                have hD : va_D A [(y, kO 9 [.int 0, .int y_taped, y_tape, .int y_size, .int y_place, .int y_begin, .int y_token, .long y_word, .int y_told, .int y_wrong, y_supper, y_guestName, y_kind, y_offTold, y_pace, y_cooks, y_snow, y_lineFrom, y_lineTo, y_codes, .int y_code, .int y_toldLines, y_opened, y_compared, y_kept, y_keptBy, y_ahead, y_against, y_sum, y_sumBy, y_term, y_termBy, y_byNot, y_valueOf, .int y_given, y_lines, y_lineWhat, y_lineA, y_lineB, y_seens, y_seenIn, y_seenYards, y_seenNear, y_s, y_aside, y_before, y_marked, y_undone, y_isLaid, .int y_done, .int y_snowNow, .int y_cameNow, .int y_cookThen, .int y_tasteThen, y_places, y_comesAt, y_yardsIn, .long y_g])] := hD
                                refine lv_iload_n hx hb dX9_rests_91 rfl (lv_at hl 5 rfl) ?_
                                refine lv_iload_n hx hb dX9_rests_92 rfl (lv_at hl 6 rfl) ?_
                                refine lv_iload_n hx hb dX9_rests_93 rfl (lv_at hl 7 rfl) ?_
                                refine lv_iload hx hb dX9_rests_94 (lv_at hl 1 rfl) ?_
                                refine lv_iload hx hb dX9_rests_96 (lv_at hl 0 rfl) ?_
                                refine kz_Si (As := [.int q1, .int q2, .int q3, .int (fA j), .int (fB j)]) (rest := [.int (gm q1 q2 q3 (1 - (fA j)) (fB j))]) (wc := []) (wr := [(y, kO 9 [.int 0, .int y_taped, y_tape, .int y_size, .int y_place, .int y_begin, .int y_token, .long y_word, .int y_told, .int y_wrong, y_supper, y_guestName, y_kind, y_offTold, y_pace, y_cooks, y_snow, y_lineFrom, y_lineTo, y_codes, .int y_code, .int y_toldLines, y_opened, y_compared, y_kept, y_keptBy, y_ahead, y_against, y_sum, y_sumBy, y_term, y_termBy, y_byNot, y_valueOf, .int y_given, y_lines, y_lineWhat, y_lineA, y_lineB, y_seens, y_seenIn, y_seenYards, y_seenNear, y_s, y_aside, y_before, y_marked, y_undone, y_isLaid, .int y_done, .int y_snowNow, .int y_cameNow, .int y_cookThen, .int y_tasteThen, y_places, y_comesAt, y_yardsIn, .long y_g])]) ⟨hx, hb, hml, hown, hts⟩ hK hE hP hD hS hA (mX9_getsBy l D k H.size q1 q2 q3 (fA j) (fB j)) (va_cwS 5 hts gX9_rests_X9_getsBy rfl rfl rfl (by decide +kernel) (by rw [hR]; exact ⟨Nat.le_of_ble_eq_true rfl, Nat.le_of_ble_eq_true rfl⟩)) [] [0] rfl rfl (by decide +kernel) (by decide +kernel) (by decide +kernel) rfl hl.1 rfl (Nat.le_of_ble_eq_true rfl) dX9_rests_98 (by rw [hR]; exact ⟨Nat.le_of_ble_eq_true rfl, Nat.le_of_ble_eq_true rfl⟩) (fun r20 u20 H locs hw20 hP hD hS => ?_)
                                exact by
                                 try dsimp only at hw20
                                 obtain rfl : r20 = gm q1 q2 q3 (fA j) (fB j) := hw20
                                 have hP : va_P D vwCl [(y, kO 9 [.int 0, .int y_taped, y_tape, .int y_size, .int y_place, .int y_begin, .int y_token, .long y_word, .int y_told, .int y_wrong, y_supper, y_guestName, y_kind, y_offTold, y_pace, y_cooks, y_snow, y_lineFrom, y_lineTo, y_codes, .int y_code, .int y_toldLines, y_opened, y_compared, y_kept, y_keptBy, y_ahead, y_against, y_sum, y_sumBy, y_term, y_termBy, y_byNot, y_valueOf, .int y_given, y_lines, y_lineWhat, y_lineA, y_lineB, y_seens, y_seenIn, y_seenYards, y_seenNear, y_s, y_aside, y_before, y_marked, y_undone, y_isLaid, .int y_done, .int y_snowNow, .int y_cameNow, .int y_cookThen, .int y_tasteThen, y_places, y_comesAt, y_yardsIn, .long y_g])] H := hP
                                 have hD : va_D A [(y, kO 9 [.int 0, .int y_taped, y_tape, .int y_size, .int y_place, .int y_begin, .int y_token, .long y_word, .int y_told, .int y_wrong, y_supper, y_guestName, y_kind, y_offTold, y_pace, y_cooks, y_snow, y_lineFrom, y_lineTo, y_codes, .int y_code, .int y_toldLines, y_opened, y_compared, y_kept, y_keptBy, y_ahead, y_against, y_sum, y_sumBy, y_term, y_termBy, y_byNot, y_valueOf, .int y_given, y_lines, y_lineWhat, y_lineA, y_lineB, y_seens, y_seenIn, y_seenYards, y_seenNear, y_s, y_aside, y_before, y_marked, y_undone, y_isLaid, .int y_done, .int y_snowNow, .int y_cameNow, .int y_cookThen, .int y_tasteThen, y_places, y_comesAt, y_yardsIn, .long y_g])] := hD
                                 refine lv_icmp_gt (tgt := 145) hx hb dX9_rests_101 (by decide) (fun c_21 => ?_) (fun c_21 => ?_)
                                 · exact by
                                    refine lv_iinc (v := (nI (j + 1))) (lv' := [(6, .int (nI (j + 1))), (8, .int (fB j)), (7, .int (fA j)), (5, .int (nI n9)), (0, .ref y), (1, .int q1), (2, .int q2), (3, .int q3), (4, .int q4)]) hx hb dX9_rests_145 hl (k := 2) rfl (nI_1 _) (by decide) rfl (fun ls hl => ?_)
                                    exact by
                                     refine lv_goto (tgt := 61) hx hb dX9_rests_148 (by decide) ?_
                                     exact ih61 (j + 1) n9 (by omega) (by omega) (by omega) ((rgo_skip (by omega) (okb_f1 (Int32.not_le.mpr c_21))).trans hrg) _ _ _ (hP.sub [0] rfl) (hD.sub [0] (by decide +kernel) rfl) hS (lv_sub hl [0, 3, 4, 5, 6, 7, 8] rfl)
                                 · exact by
                                    refine lv_iload_n hx hb dX9_rests_104 rfl (lv_at hl 5 rfl) ?_
                                    refine lv_iload_n hx hb dX9_rests_105 rfl (lv_at hl 6 rfl) ?_
                                    refine lv_iload_n hx hb dX9_rests_106 rfl (lv_at hl 7 rfl) ?_
                                    refine lv_iconst (v := 1) hx hb dX9_rests_107 (by decide) ?_
                                    refine lv_iload hx hb dX9_rests_108 (lv_at hl 0 rfl) ?_
                                    refine lv_isub hx hb dX9_rests_110 ?_
                                    refine lv_iload hx hb dX9_rests_111 (lv_at hl 1 rfl) ?_
                                    refine kz_Si (As := [.int q1, .int q2, .int q3, .int (1 - (fB j)), .int (fA j)]) (rest := []) (wc := []) (wr := [(y, kO 9 [.int 0, .int y_taped, y_tape, .int y_size, .int y_place, .int y_begin, .int y_token, .long y_word, .int y_told, .int y_wrong, y_supper, y_guestName, y_kind, y_offTold, y_pace, y_cooks, y_snow, y_lineFrom, y_lineTo, y_codes, .int y_code, .int y_toldLines, y_opened, y_compared, y_kept, y_keptBy, y_ahead, y_against, y_sum, y_sumBy, y_term, y_termBy, y_byNot, y_valueOf, .int y_given, y_lines, y_lineWhat, y_lineA, y_lineB, y_seens, y_seenIn, y_seenYards, y_seenNear, y_s, y_aside, y_before, y_marked, y_undone, y_isLaid, .int y_done, .int y_snowNow, .int y_cameNow, .int y_cookThen, .int y_tasteThen, y_places, y_comesAt, y_yardsIn, .long y_g])]) ⟨hx, hb, hml, hown, hts⟩ hK hE hP hD hS hA (mX9_getsBy l D k H.size q1 q2 q3 (1 - (fB j)) (fA j)) (va_cwS 5 hts gX9_rests_X9_getsBy rfl rfl rfl (by decide +kernel) (by rw [hR]; exact ⟨Nat.le_of_ble_eq_true rfl, Nat.le_of_ble_eq_true rfl⟩)) [] [0] rfl rfl (by decide +kernel) (by decide +kernel) (by decide +kernel) rfl hl.1 rfl (Nat.le_of_ble_eq_true rfl) dX9_rests_113 (by rw [hR]; exact ⟨Nat.le_of_ble_eq_true rfl, Nat.le_of_ble_eq_true rfl⟩) (fun r22 u22 H locs hw22 hP hD hS => ?_)
                                    exact by
                                     try dsimp only at hw22
                                     obtain rfl : r22 = gm q1 q2 q3 (1 - (fB j)) (fA j) := hw22
                                     have hP : va_P D vwCl [(y, kO 9 [.int 0, .int y_taped, y_tape, .int y_size, .int y_place, .int y_begin, .int y_token, .long y_word, .int y_told, .int y_wrong, y_supper, y_guestName, y_kind, y_offTold, y_pace, y_cooks, y_snow, y_lineFrom, y_lineTo, y_codes, .int y_code, .int y_toldLines, y_opened, y_compared, y_kept, y_keptBy, y_ahead, y_against, y_sum, y_sumBy, y_term, y_termBy, y_byNot, y_valueOf, .int y_given, y_lines, y_lineWhat, y_lineA, y_lineB, y_seens, y_seenIn, y_seenYards, y_seenNear, y_s, y_aside, y_before, y_marked, y_undone, y_isLaid, .int y_done, .int y_snowNow, .int y_cameNow, .int y_cookThen, .int y_tasteThen, y_places, y_comesAt, y_yardsIn, .long y_g])] H := hP
                                     have hD : va_D A [(y, kO 9 [.int 0, .int y_taped, y_tape, .int y_size, .int y_place, .int y_begin, .int y_token, .long y_word, .int y_told, .int y_wrong, y_supper, y_guestName, y_kind, y_offTold, y_pace, y_cooks, y_snow, y_lineFrom, y_lineTo, y_codes, .int y_code, .int y_toldLines, y_opened, y_compared, y_kept, y_keptBy, y_ahead, y_against, y_sum, y_sumBy, y_term, y_termBy, y_byNot, y_valueOf, .int y_given, y_lines, y_lineWhat, y_lineA, y_lineB, y_seens, y_seenIn, y_seenYards, y_seenNear, y_s, y_aside, y_before, y_marked, y_undone, y_isLaid, .int y_done, .int y_snowNow, .int y_cameNow, .int y_cookThen, .int y_tasteThen, y_places, y_comesAt, y_yardsIn, .long y_g])] := hD
                                     refine lv_iload_n hx hb dX9_rests_116 rfl (lv_at hl 5 rfl) ?_
                                     refine lv_iload_n hx hb dX9_rests_117 rfl (lv_at hl 6 rfl) ?_
                                     refine lv_iload_n hx hb dX9_rests_118 rfl (lv_at hl 7 rfl) ?_
                                     refine lv_iload hx hb dX9_rests_119 (lv_at hl 0 rfl) ?_
                                     refine lv_iload hx hb dX9_rests_121 (lv_at hl 1 rfl) ?_
                                     refine kz_Si (As := [.int q1, .int q2, .int q3, .int (fB j), .int (fA j)]) (rest := [.int (gm q1 q2 q3 (1 - (fB j)) (fA j))]) (wc := []) (wr := [(y, kO 9 [.int 0, .int y_taped, y_tape, .int y_size, .int y_place, .int y_begin, .int y_token, .long y_word, .int y_told, .int y_wrong, y_supper, y_guestName, y_kind, y_offTold, y_pace, y_cooks, y_snow, y_lineFrom, y_lineTo, y_codes, .int y_code, .int y_toldLines, y_opened, y_compared, y_kept, y_keptBy, y_ahead, y_against, y_sum, y_sumBy, y_term, y_termBy, y_byNot, y_valueOf, .int y_given, y_lines, y_lineWhat, y_lineA, y_lineB, y_seens, y_seenIn, y_seenYards, y_seenNear, y_s, y_aside, y_before, y_marked, y_undone, y_isLaid, .int y_done, .int y_snowNow, .int y_cameNow, .int y_cookThen, .int y_tasteThen, y_places, y_comesAt, y_yardsIn, .long y_g])]) ⟨hx, hb, hml, hown, hts⟩ hK hE hP hD hS hA (mX9_getsBy l D k H.size q1 q2 q3 (fB j) (fA j)) (va_cwS 5 hts gX9_rests_X9_getsBy rfl rfl rfl (by decide +kernel) (by rw [hR]; exact ⟨Nat.le_of_ble_eq_true rfl, Nat.le_of_ble_eq_true rfl⟩)) [] [0] rfl rfl (by decide +kernel) (by decide +kernel) (by decide +kernel) rfl hl.1 rfl (Nat.le_of_ble_eq_true rfl) dX9_rests_123 (by rw [hR]; exact ⟨Nat.le_of_ble_eq_true rfl, Nat.le_of_ble_eq_true rfl⟩) (fun r23 u23 H locs hw23 hP hD hS => ?_)
                                     exact by
                                      try dsimp only at hw23
                                      obtain rfl : r23 = gm q1 q2 q3 (fB j) (fA j) := hw23
                                      have hP : va_P D vwCl [(y, kO 9 [.int 0, .int y_taped, y_tape, .int y_size, .int y_place, .int y_begin, .int y_token, .long y_word, .int y_told, .int y_wrong, y_supper, y_guestName, y_kind, y_offTold, y_pace, y_cooks, y_snow, y_lineFrom, y_lineTo, y_codes, .int y_code, .int y_toldLines, y_opened, y_compared, y_kept, y_keptBy, y_ahead, y_against, y_sum, y_sumBy, y_term, y_termBy, y_byNot, y_valueOf, .int y_given, y_lines, y_lineWhat, y_lineA, y_lineB, y_seens, y_seenIn, y_seenYards, y_seenNear, y_s, y_aside, y_before, y_marked, y_undone, y_isLaid, .int y_done, .int y_snowNow, .int y_cameNow, .int y_cookThen, .int y_tasteThen, y_places, y_comesAt, y_yardsIn, .long y_g])] H := hP
                                      have hD : va_D A [(y, kO 9 [.int 0, .int y_taped, y_tape, .int y_size, .int y_place, .int y_begin, .int y_token, .long y_word, .int y_told, .int y_wrong, y_supper, y_guestName, y_kind, y_offTold, y_pace, y_cooks, y_snow, y_lineFrom, y_lineTo, y_codes, .int y_code, .int y_toldLines, y_opened, y_compared, y_kept, y_keptBy, y_ahead, y_against, y_sum, y_sumBy, y_term, y_termBy, y_byNot, y_valueOf, .int y_given, y_lines, y_lineWhat, y_lineA, y_lineB, y_seens, y_seenIn, y_seenYards, y_seenNear, y_s, y_aside, y_before, y_marked, y_undone, y_isLaid, .int y_done, .int y_snowNow, .int y_cameNow, .int y_cookThen, .int y_tasteThen, y_places, y_comesAt, y_yardsIn, .long y_g])] := hD
                                      refine lv_icmp_le (tgt := 132) hx hb dX9_rests_126 (by decide) (fun c_24 => ?_) (fun c_24 => ?_)
                                      · exact by
                                         refine lv_iload hx hb dX9_rests_132 (lv_at hl 3 rfl) ?_
                                         refine lv_iload hx hb dX9_rests_134 (lv_at hl 8 rfl) ?_
                                         refine lv_icmp_ne (tgt := 142) hx hb dX9_rests_136 (by decide) (fun c_25 => ?_) (fun c_25 => ?_)
                                         · exact by
                                            refine lv_iinc (v := (nI (n9 + 1))) (lv' := [(5, .int (nI (n9 + 1))), (8, .int (fB j)), (7, .int (fA j)), (6, .int (nI j)), (0, .ref y), (1, .int q1), (2, .int q2), (3, .int q3), (4, .int q4)]) hx hb dX9_rests_142 hl (k := 3) rfl (nI_1 _) (by decide) rfl (fun ls hl => ?_)
                                            exact by
                                             refine lv_iinc (v := (nI (j + 1))) (lv' := [(6, .int (nI (j + 1))), (5, .int (nI (n9 + 1))), (8, .int (fB j)), (7, .int (fA j)), (0, .ref y), (1, .int q1), (2, .int q2), (3, .int q3), (4, .int q4)]) hx hb dX9_rests_145 hl (k := 3) rfl (nI_1 _) (by decide) rfl (fun ls hl => ?_)
                                             exact by
                                              refine lv_goto (tgt := 61) hx hb dX9_rests_148 (by decide) ?_
                                              exact ih61 (j + 1) (n9 + 1) (by omega) (by omega) (by omega) ((rgo_next (by omega) (okb_t (Int32.not_lt.mp c_21) c_24) c_25).trans hrg) _ _ _ (hP.sub [0] rfl) (hD.sub [0] (by decide +kernel) rfl) hS (lv_sub hl [0, 1, 4, 5, 6, 7, 8] rfl)
                                         · exact by
                                            refine lv_iload hx hb dX9_rests_139 (lv_at hl 2 rfl) ?_
                                            rw [hQ]
                                            have hP9 := hP.sub (ws' := [(y, kO 9 [.int 0, .int y_taped, y_tape, .int y_size, .int y_place, .int y_begin, .int y_token, .long y_word, .int y_told, .int y_wrong, y_supper, y_guestName, y_kind, y_offTold, y_pace, y_cooks, y_snow, y_lineFrom, y_lineTo, y_codes, .int y_code, .int y_toldLines, y_opened, y_compared, y_kept, y_keptBy, y_ahead, y_against, y_sum, y_sumBy, y_term, y_termBy, y_byNot, y_valueOf, .int y_given, y_lines, y_lineWhat, y_lineA, y_lineB, y_seens, y_seenIn, y_seenYards, y_seenNear, y_s, y_aside, y_before, y_marked, y_undone, y_isLaid, .int y_done, .int y_snowNow, .int y_cameNow, .int y_cookThen, .int y_tasteThen, y_places, y_comesAt, y_yardsIn, .long y_g])]) [0] rfl
                                            have hD9 := hD.sub (ws' := [(y, kO 9 [.int 0, .int y_taped, y_tape, .int y_size, .int y_place, .int y_begin, .int y_token, .long y_word, .int y_told, .int y_wrong, y_supper, y_guestName, y_kind, y_offTold, y_pace, y_cooks, y_snow, y_lineFrom, y_lineTo, y_codes, .int y_code, .int y_toldLines, y_opened, y_compared, y_kept, y_keptBy, y_ahead, y_against, y_sum, y_sumBy, y_term, y_termBy, y_byNot, y_valueOf, .int y_given, y_lines, y_lineWhat, y_lineA, y_lineB, y_seens, y_seenIn, y_seenYards, y_seenNear, y_s, y_aside, y_before, y_marked, y_undone, y_isLaid, .int y_done, .int y_snowNow, .int y_cameNow, .int y_cookThen, .int y_tasteThen, y_places, y_comesAt, y_yardsIn, .long y_g])]) [0] (by decide +kernel) rfl
                                            exact W.iret (v := (nI j)) hx hb hr (fun zt ht hW => ⟨⟨(nI j), 0, rfl, (hrg.symm.trans (rgo_hit (by omega) (okb_t (Int32.not_lt.mp c_21) c_24) c_25)), by rw [ht]; exact hP9, hD9⟩, hS.F ht⟩) hS.2.2 dX9_rests_141
                                      · exact by
                                         refine lv_goto (tgt := 145) hx hb dX9_rests_129 (by decide) ?_
                                         refine lv_iinc (v := (nI (j + 1))) (lv' := [(6, .int (nI (j + 1))), (8, .int (fB j)), (7, .int (fA j)), (5, .int (nI n9)), (0, .ref y), (1, .int q1), (2, .int q2), (3, .int q3), (4, .int q4)]) hx hb dX9_rests_145 hl (k := 2) rfl (nI_1 _) (by decide) rfl (fun ls hl => ?_)
                                         exact by
                                          refine lv_goto (tgt := 61) hx hb dX9_rests_148 (by decide) ?_
                                          exact ih61 (j + 1) n9 (by omega) (by omega) (by omega) ((rgo_skip (by omega) (okb_f2 c_24)).trans hrg) _ _ _ (hP.sub [0] rfl) (hD.sub [0] (by decide +kernel) rfl) hS (lv_sub hl [0, 3, 4, 5, 6, 7, 8] rfl)
                    exact hloop61 ((4 - 0) + 1) 0 0 (Nat.lt_succ_self _) (by omega) (by omega) ((by unfold rs; rw [if_pos (bz_1 c_2), if_pos (bz_1 c_5), if_pos (bz_1 c_8), if_neg c_10])) _ _ _ (hP.sub [0] rfl) (hD.sub [0] (by decide +kernel) rfl) hS (lv_sub hl [0, 1, 2, 3, 4, 5, 6] rfl)
