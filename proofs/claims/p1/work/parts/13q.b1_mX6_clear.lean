theorem dX6_clear_0 : decode cX6_clear 0 = .ok (.aload_n 0, 1) := by decide +kernel
theorem dX6_clear_1 : decode cX6_clear 1 = .ok (.iconst 0, 1) := by decide +kernel
theorem dX6_clear_2 : decode cX6_clear 2 = .ok (.putfield 41, 3) := by decide +kernel
theorem dX6_clear_5 : decode cX6_clear 5 = .ok (.return_, 1) := by decide +kernel
set_option maxHeartbeats 4000000 in
set_option maxRecDepth 100000 in
theorem mX6_clear (l : Launch) (D : va_G) (k : Nat → ClassId) (sz : Nat) (w : Nat) (w_signs : Value) (w_words : Value) (w_length : Int32) (w_next : Int32) (w_place : Int32) (w_kind : Int32) (w_value : Int32) (w_letters : Int64) (w_fault : Int32) : Met l yX6_clear wsX6_clear ({ frames := 0, cells := 0, slots := 0, locals := 0 }) (va_Pc [.ref w] (kz_Pre D k [(w, kO 6 [w_signs, w_words, .int w_length, .int w_next, .int w_place, .int w_kind, .int w_value, .long w_letters, .int w_fault])] sz)) (va_Qv (fun (uu : Unit) => True) (fun uu zt => kz_B D (va_A [(w, kO 6 [w_signs, w_words, .int w_length, .int w_next, .int w_place, .int w_kind, .int w_value, .long w_letters, .int w_fault])] sz) [(w, kO 6 [w_signs, w_words, .int 0, .int w_next, .int w_place, .int w_kind, .int w_value, .long w_letters, .int w_fault])] zt) (va_A [(w, kO 6 [w_signs, w_words, .int w_length, .int w_next, .int w_place, .int w_kind, .int w_value, .long w_letters, .int w_fault])] sz)) 0 0 (va_A [(w, kO 6 [w_signs, w_words, .int w_length, .int w_next, .int w_place, .int w_kind, .int w_value, .long w_letters, .int w_fault])] sz) := by
  refine Met.ofW (cc := cX6_clear) (maxL := 1) (ret := none) (by decide) rfl ?_
  intro p e s m args below meth c s₁ B hml hv
  obtain ⟨hav, hsz, hP, hK, hD0, hE⟩ := hv
  have hx := B.exec
  have hb := B.bytes
  have hr := B.returns
  have hts := atoms_spec (ws := wsX6_clear) B.pre
  have hown : s.vm.findClass RX6 = some m.cls := findClass_of_methodNamed B.named
  have hlocks := B.notSynchronized
  have hi6 : ∀ w ∈ u_ws RX6 TX6 9, w ∈ wsX6_clear := by decide +kernel
  have lf41 := hts (.fieldLink RX6 41 "LastCook$Tape" "length" "I") (by decide +kernel)
  subst hsz
  have hD := hD0.self (sz := s.heap.size)
  generalize hAe : va_A [(w, kO 6 [w_signs, w_words, .int w_length, .int w_next, .int w_place, .int w_kind, .int w_value, .long w_letters, .int w_fault])] s.heap.size = A at hD ⊢
  have hA : ∀ q : Nat, s.heap.size ≤ q → A q := fun q h => by rw [← hAe]; exact Or.inr h
  have hS : va_S A s.heap s.heap [] := va_S.rf
  have hl := lv_entry ([.ref w]) (n := 1) (Nat.le_of_ble_eq_true rfl)
  rw [show entryFrame m args 1 = entryFrame m ([.ref w] : List Value).toArray 1 by rw [hav], lg_entry_eq]
  generalize (lg_sl ([.ref w]) ++ List.replicate (1 - (lg_sl ([.ref w])).length) Slot.unset).toArray = ls at hl ⊢
  have hl : lv_has ls 1 [(0, .ref w)] := hl
  obtain ⟨R, hR⟩ : ∃ R, R = (headSpec wsX6_clear ({ frames := 0, cells := 0, slots := 0, locals := 0 } : Room)).room := ⟨_, rfl⟩
  rw [← hR]
  generalize hQ : MQ below _ args s 0 0 A = Q
  replace hQ := hQ.symm
  obtain ⟨H, hH⟩ : ∃ H, H = s.heap := ⟨_, rfl⟩
  rw [← hH] at hP ⊢
  have hS : va_S A s.heap H [] := by rw [hH]; exact hS
  refine lv_aload_n hx hb dX6_clear_0 rfl (lv_at hl 0 rfl) ?_
  refine lv_iconst (v := 0) hx hb dX6_clear_1 (by decide) ?_
  refine va_put (D := D) (ci := 6) (v := .int 0) (ty := .int) (C := RX6) (T := TX6) (N := 9) hx hb hts hi6 tyX6 tyX6_ok nmX6 hown hK hP hD hS 0 rfl rfl 2 (by decide) lf41 (fun _ h9 => h9) rfl (by decide +kernel) rfl rfl (Nat.le_of_ble_eq_true rfl) dX6_clear_2 (fun H locs hP hD hS => ?_)
  have hP : va_P D vwCl [(w, kO 6 [w_signs, w_words, .int 0, .int w_next, .int w_place, .int w_kind, .int w_value, .long w_letters, .int w_fault])] H := hP
  have hD : va_D A [(w, kO 6 [w_signs, w_words, .int 0, .int w_next, .int w_place, .int w_kind, .int w_value, .long w_letters, .int w_fault])] := hD
  rw [hQ]
  have hP9 := hP.sub (ws' := [(w, kO 6 [w_signs, w_words, .int 0, .int w_next, .int w_place, .int w_kind, .int w_value, .long w_letters, .int w_fault])]) [0] rfl
  have hD9 := hD.sub (ws' := [(w, kO 6 [w_signs, w_words, .int 0, .int w_next, .int w_place, .int w_kind, .int w_value, .long w_letters, .int w_fault])]) [0] (by decide) rfl
  exact W.vret hx hb hr (fun zt ht hW => ⟨⟨(), rfl, trivial, by rw [ht]; exact hP9, hD9⟩, hS.F ht⟩) hS.2.2 dX6_clear_5
