theorem dX4_onRoadWithin_0 : decode cX4_onRoadWithin 0 = .ok (.iconst 0, 1) := by decide +kernel
theorem dX4_onRoadWithin_1 : decode cX4_onRoadWithin 1 = .ok (.istore_n 3, 1) := by decide +kernel
theorem dX4_onRoadWithin_2 : decode cX4_onRoadWithin 2 = .ok (.iconst 0, 1) := by decide +kernel
theorem dX4_onRoadWithin_3 : decode cX4_onRoadWithin 3 = .ok (.istore 4, 2) := by decide +kernel
theorem dX4_onRoadWithin_5 : decode cX4_onRoadWithin 5 = .ok (.iload 4, 2) := by decide +kernel
theorem dX4_onRoadWithin_7 : decode cX4_onRoadWithin 7 = .ok (.iload_n 1, 1) := by decide +kernel
theorem dX4_onRoadWithin_8 : decode cX4_onRoadWithin 8 = .ok (.if_icmp .ge 36, 3) := by decide +kernel
theorem dX4_onRoadWithin_44 : decode cX4_onRoadWithin 44 = .ok (.iload_n 3, 1) := by decide +kernel
theorem dX4_onRoadWithin_45 : decode cX4_onRoadWithin 45 = .ok (.ireturn, 1) := by decide +kernel
set_option maxHeartbeats 4000000 in
set_option maxRecDepth 100000 in
theorem mX4_onRoadWithin (l : Launch) (D : va_G) (k : Nat → ClassId) (sz : Nat) (r : Nat) (q : Int32) (r_yards : Value) (r_paces : Value) (r_stuck : Value) (r_hirers : Value) (r_places : Value) (r_cameAt : Value) (r_cooked : Value) (r_inside : Int32) (r_night : Int32) (r_minute : Int32) (r_tasted : Int32) (r_lastCook : Int32) (r_stirred : Int32) : Met l yX4_onRoadWithin wsX4_onRoadWithin ({ frames := 0, cells := 0, slots := 0, locals := 0 }) (va_Pc [.ref r, .int 0, .int q] (kz_Pre D k [(r, kO 4 [r_yards, r_paces, r_stuck, r_hirers, r_places, r_cameAt, r_cooked, .int r_inside, .int r_night, .int r_minute, .int r_tasted, .int r_lastCook, .int r_stirred])] sz)) (va_Qi (fun (rr : Int32) (uu : Unit) => rr = 0) (fun uu zt => kz_B D (va_A [(r, kO 4 [r_yards, r_paces, r_stuck, r_hirers, r_places, r_cameAt, r_cooked, .int r_inside, .int r_night, .int r_minute, .int r_tasted, .int r_lastCook, .int r_stirred])] sz) [(r, kO 4 [r_yards, r_paces, r_stuck, r_hirers, r_places, r_cameAt, r_cooked, .int r_inside, .int r_night, .int r_minute, .int r_tasted, .int r_lastCook, .int r_stirred])] zt) (va_A [(r, kO 4 [r_yards, r_paces, r_stuck, r_hirers, r_places, r_cameAt, r_cooked, .int r_inside, .int r_night, .int r_minute, .int r_tasted, .int r_lastCook, .int r_stirred])] sz)) 0 0 (va_A [(r, kO 4 [r_yards, r_paces, r_stuck, r_hirers, r_places, r_cameAt, r_cooked, .int r_inside, .int r_night, .int r_minute, .int r_tasted, .int r_lastCook, .int r_stirred])] sz) := by
  refine Met.ofW (cc := cX4_onRoadWithin) (maxL := 5) (ret := (some .int)) (by decide) rfl ?_
  intro p e s m args below meth c s₁ B hml hv
  obtain ⟨hav, hsz, hP, hK, hD0, hE⟩ := hv
  have hx := B.exec
  have hb := B.bytes
  have hr := B.returns
  have hts := atoms_spec (ws := wsX4_onRoadWithin) B.pre
  have hown : s.vm.findClass RX4 = some m.cls := findClass_of_methodNamed B.named
  have hlocks := B.notSynchronized
  subst hsz
  have hD := hD0.self (sz := s.heap.size)
  generalize hAe : va_A [(r, kO 4 [r_yards, r_paces, r_stuck, r_hirers, r_places, r_cameAt, r_cooked, .int r_inside, .int r_night, .int r_minute, .int r_tasted, .int r_lastCook, .int r_stirred])] s.heap.size = A at hD ⊢
  have hA : ∀ q : Nat, s.heap.size ≤ q → A q := fun q h => by rw [← hAe]; exact Or.inr h
  have hS : va_S A s.heap s.heap [] := va_S.rf
  have hl := lv_entry ([.ref r, .int 0, .int q]) (n := 5) (Nat.le_of_ble_eq_true rfl)
  rw [show entryFrame m args 5 = entryFrame m ([.ref r, .int 0, .int q] : List Value).toArray 5 by rw [hav], lg_entry_eq]
  generalize (lg_sl ([.ref r, .int 0, .int q]) ++ List.replicate (5 - (lg_sl ([.ref r, .int 0, .int q])).length) Slot.unset).toArray = ls at hl ⊢
  have hl : lv_has ls 5 [(0, .ref r), (1, .int 0), (2, .int q)] := hl
  obtain ⟨R, hR⟩ : ∃ R, R = (headSpec wsX4_onRoadWithin ({ frames := 0, cells := 0, slots := 0, locals := 0 } : Room)).room := ⟨_, rfl⟩
  rw [← hR]
  generalize hQ : MQ below _ args s 0 0 A = Q
  replace hQ := hQ.symm
  obtain ⟨H, hH⟩ : ∃ H, H = s.heap := ⟨_, rfl⟩
  rw [← hH] at hP ⊢
  have hS : va_S A s.heap H [] := by rw [hH]; exact hS
  refine lv_iconst (v := 0) hx hb dX4_onRoadWithin_0 (by decide) ?_
  refine lv_istore_n (lv' := [(3, .int 0), (0, .ref r), (1, .int 0), (2, .int q)]) hx hb dX4_onRoadWithin_1 rfl hl (by decide) rfl (fun ls hl => ?_)
  refine lv_iconst (v := 0) hx hb dX4_onRoadWithin_2 (by decide) ?_
  refine lv_istore (lv' := [(4, .int 0), (3, .int 0), (0, .ref r), (1, .int 0), (2, .int q)]) hx hb dX4_onRoadWithin_3 hl (by decide) rfl (fun ls hl => ?_)
  refine lv_iload hx hb dX4_onRoadWithin_5 (lv_at hl 0 rfl) ?_
  refine lv_iload_n hx hb dX4_onRoadWithin_7 rfl (lv_at hl 3 rfl) ?_
  refine lv_icmp_ge (tgt := 44) hx hb dX4_onRoadWithin_8 (by decide) (fun c_1 => ?_) (fun c_1 => absurd (by decide) c_1)
  refine lv_iload_n hx hb dX4_onRoadWithin_44 rfl (lv_at hl 1 rfl) ?_
  rw [hQ]
  have hP9 := hP.sub (ws' := [(r, kO 4 [r_yards, r_paces, r_stuck, r_hirers, r_places, r_cameAt, r_cooked, .int r_inside, .int r_night, .int r_minute, .int r_tasted, .int r_lastCook, .int r_stirred])]) [0] rfl
  have hD9 := hD.sub (ws' := [(r, kO 4 [r_yards, r_paces, r_stuck, r_hirers, r_places, r_cameAt, r_cooked, .int r_inside, .int r_night, .int r_minute, .int r_tasted, .int r_lastCook, .int r_stirred])]) [0] (by decide) rfl
  exact W.iret (v := 0) hx hb hr (fun zt ht hW => ⟨⟨0, (), rfl, rfl, by rw [ht]; exact hP9, hD9⟩, hS.F ht⟩) hS.2.2 dX4_onRoadWithin_45
