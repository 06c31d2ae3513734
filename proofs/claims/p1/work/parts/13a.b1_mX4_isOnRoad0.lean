set_option maxHeartbeats 4000000 in
set_option maxRecDepth 100000 in
theorem mX4_isOnRoad0 (l : Launch) (D : va_G) (k : Nat → ClassId) (sz : Nat) (r : Nat) (q : Int32) (ry : Nat) (r_paces : Value) (r_stuck : Value) (r_hirers : Value) (r_places : Value) (r_cameAt : Value) (r_cooked : Value) (r_inside : Int32) (r_night : Int32) (r_minute : Int32) (r_tasted : Int32) (r_lastCook : Int32) (r_stirred : Int32) : Met l yX4_isOnRoad wsX4_isOnRoad ({ frames := 0, cells := 0, slots := 0, locals := 0 }) (va_Pc [.ref r, .int q] (kz_Pre D k [(r, kO 4 [.ref ry, r_paces, r_stuck, r_hirers, r_places, r_cameAt, r_cooked, .int r_inside, .int r_night, .int r_minute, .int r_tasted, .int r_lastCook, .int r_stirred]), (ry, kI k 6 (fun _ => 0))] sz)) (va_Qi (fun (rr : Int32) (uu : Unit) => rr = 0) (fun uu zt => kz_B D (va_A [(r, kO 4 [.ref ry, r_paces, r_stuck, r_hirers, r_places, r_cameAt, r_cooked, .int r_inside, .int r_night, .int r_minute, .int r_tasted, .int r_lastCook, .int r_stirred]), (ry, kI k 6 (fun _ => 0))] sz) [(r, kO 4 [.ref ry, r_paces, r_stuck, r_hirers, r_places, r_cameAt, r_cooked, .int r_inside, .int r_night, .int r_minute, .int r_tasted, .int r_lastCook, .int r_stirred]), (ry, kI k 6 (fun _ => 0))] zt) (va_A [(r, kO 4 [.ref ry, r_paces, r_stuck, r_hirers, r_places, r_cameAt, r_cooked, .int r_inside, .int r_night, .int r_minute, .int r_tasted, .int r_lastCook, .int r_stirred]), (ry, kI k 6 (fun _ => 0))] sz)) 0 0 (va_A [(r, kO 4 [.ref ry, r_paces, r_stuck, r_hirers, r_places, r_cameAt, r_cooked, .int r_inside, .int r_night, .int r_minute, .int r_tasted, .int r_lastCook, .int r_stirred]), (ry, kI k 6 (fun _ => 0))] sz) := by
  refine Met.ofW (cc := cX4_isOnRoad) (maxL := 2) (ret := (some .boolean)) (by decide) rfl ?_
  intro p e s m args below meth c s₁ B hml hv
  obtain ⟨hav, hsz, hP, hK, hD0, hE⟩ := hv
  have hx := B.exec
  have hb := B.bytes
  have hr := B.returns
  have hts := atoms_spec (ws := wsX4_isOnRoad) B.pre
  have hown : s.vm.findClass RX4 = some m.cls := findClass_of_methodNamed B.named
  have hlocks := B.notSynchronized
  have hi4 : ∀ w ∈ u_ws RX4 TX4 13, w ∈ wsX4_isOnRoad := by decide +kernel
  have lf9 := hts (.fieldLink RX4 9 "LastCook$Road" "yards" "[I") (by decide +kernel)
  subst hsz
  have hD := hD0.self (sz := s.heap.size)
  generalize hAe : va_A [(r, kO 4 [.ref ry, r_paces, r_stuck, r_hirers, r_places, r_cameAt, r_cooked, .int r_inside, .int r_night, .int r_minute, .int r_tasted, .int r_lastCook, .int r_stirred]), (ry, kI k 6 (fun _ => 0))] s.heap.size = A at hD ⊢
  have hA : ∀ q : Nat, s.heap.size ≤ q → A q := fun q h => by rw [← hAe]; exact Or.inr h
  have hS : va_S A s.heap s.heap [] := va_S.rf
  have hl := lv_entry ([.ref r, .int q]) (n := 2) (Nat.le_of_ble_eq_true rfl)
  rw [show entryFrame m args 2 = entryFrame m ([.ref r, .int q] : List Value).toArray 2 by rw [hav], lg_entry_eq]
  generalize (lg_sl ([.ref r, .int q]) ++ List.replicate (2 - (lg_sl ([.ref r, .int q])).length) Slot.unset).toArray = ls at hl ⊢
  have hl : lv_has ls 2 [(0, .ref r), (1, .int q)] := hl
  obtain ⟨R, hR⟩ : ∃ R, R = (headSpec wsX4_isOnRoad ({ frames := 0, cells := 0, slots := 0, locals := 0 } : Room)).room := ⟨_, rfl⟩
  rw [← hR]
  generalize hQ : MQ below _ args s 0 0 A = Q
  replace hQ := hQ.symm
  obtain ⟨H, hH⟩ : ∃ H, H = s.heap := ⟨_, rfl⟩
  rw [← hH] at hP ⊢
  have hS : va_S A s.heap H [] := by rw [hH]; exact hS
  refine lv_iload_n hx hb dX4_isOnRoad_0 rfl (lv_at hl 1 rfl) ?_
  refine lv_if_lt (tgt := 23) hx hb dX4_isOnRoad_1 (by decide) (fun c_1 => ?_) (fun c_1 => ?_)
  · skip
    refine lv_iconst (v := 0) hx hb dX4_isOnRoad_23 (by decide) ?_
    rw [hQ]
    have hP9 := hP.sub (ws' := [(r, kO 4 [.ref ry, r_paces, r_stuck, r_hirers, r_places, r_cameAt, r_cooked, .int r_inside, .int r_night, .int r_minute, .int r_tasted, .int r_lastCook, .int r_stirred]), (ry, kI k 6 (fun _ => 0))]) [0, 1] rfl
    have hD9 := hD.sub (ws' := [(r, kO 4 [.ref ry, r_paces, r_stuck, r_hirers, r_places, r_cameAt, r_cooked, .int r_inside, .int r_night, .int r_minute, .int r_tasted, .int r_lastCook, .int r_stirred]), (ry, kI k 6 (fun _ => 0))]) [0, 1] (by decide) rfl
    exact W.zret (v := 0) hx hb hr rfl (fun zt ht hW => ⟨⟨0, (), rfl, rfl, by rw [ht]; exact hP9, hD9⟩, hS.F ht⟩) hS.2.2 dX4_isOnRoad_24
  · skip
    refine lv_iload_n hx hb dX4_isOnRoad_4 rfl (lv_at hl 1 rfl) ?_
    refine lv_bipush (v := 6) hx hb dX4_isOnRoad_5 (by decide) ?_
    refine lv_icmp_ge (tgt := 23) hx hb dX4_isOnRoad_7 (by decide) (fun c_2 => ?_) (fun c_2 => ?_)
    · skip
      refine lv_iconst (v := 0) hx hb dX4_isOnRoad_23 (by decide) ?_
      rw [hQ]
      have hP9 := hP.sub (ws' := [(r, kO 4 [.ref ry, r_paces, r_stuck, r_hirers, r_places, r_cameAt, r_cooked, .int r_inside, .int r_night, .int r_minute, .int r_tasted, .int r_lastCook, .int r_stirred]), (ry, kI k 6 (fun _ => 0))]) [0, 1] rfl
      have hD9 := hD.sub (ws' := [(r, kO 4 [.ref ry, r_paces, r_stuck, r_hirers, r_places, r_cameAt, r_cooked, .int r_inside, .int r_night, .int r_minute, .int r_tasted, .int r_lastCook, .int r_stirred]), (ry, kI k 6 (fun _ => 0))]) [0, 1] (by decide) rfl
      exact W.zret (v := 0) hx hb hr rfl (fun zt ht hW => ⟨⟨0, (), rfl, rfl, by rw [ht]; exact hP9, hD9⟩, hS.F ht⟩) hS.2.2 dX4_isOnRoad_24
    · skip
      refine lv_aload_n hx hb dX4_isOnRoad_10 rfl (lv_at hl 0 rfl) ?_
      refine va_get (D := D) (ci := 4) (v := .ref ry) (C := RX4) (T := TX4) (N := 13) hx hb hts hi4 hown hK hP 0 rfl rfl 0 (by decide) lf9 (fun _ h9 => h9) rfl dX4_isOnRoad_11 ?_
      refine lv_iload_n hx hb dX4_isOnRoad_14 rfl (lv_at hl 1 rfl) ?_
      refine va_iald hx hb hK hP 1 0 rfl rfl (vp_in_iff.mpr ⟨Int32.le_iff_toInt_le.mp (Int32.not_lt.mp c_1), Int32.lt_iff_toInt_lt.mp (Int32.not_le.mp c_2)⟩) dX4_isOnRoad_15 ?_
      refine lv_topi (fun x3 ex3 => ?_)
      obtain rfl : x3 = 0 := ex3
      refine lv_if_le (tgt := 23) hx hb dX4_isOnRoad_16 (by decide) (fun c_4 => ?_) (fun c_4 => absurd (by decide) c_4)
      refine lv_iconst (v := 0) hx hb dX4_isOnRoad_23 (by decide) ?_
      rw [hQ]
      have hP9 := hP.sub (ws' := [(r, kO 4 [.ref ry, r_paces, r_stuck, r_hirers, r_places, r_cameAt, r_cooked, .int r_inside, .int r_night, .int r_minute, .int r_tasted, .int r_lastCook, .int r_stirred]), (ry, kI k 6 (fun _ => 0))]) [0, 1] rfl
      have hD9 := hD.sub (ws' := [(r, kO 4 [.ref ry, r_paces, r_stuck, r_hirers, r_places, r_cameAt, r_cooked, .int r_inside, .int r_night, .int r_minute, .int r_tasted, .int r_lastCook, .int r_stirred]), (ry, kI k 6 (fun _ => 0))]) [0, 1] (by decide) rfl
      exact W.zret (v := 0) hx hb hr rfl (fun zt ht hW => ⟨⟨0, (), rfl, rfl, by rw [ht]; exact hP9, hD9⟩, hS.F ht⟩) hS.2.2 dX4_isOnRoad_24
