theorem dX7_snowAt_0 : decode cX7_snowAt 0 = .ok (.aload_n 0, 1) := by decide +kernel
theorem dX7_snowAt_1 : decode cX7_snowAt 1 = .ok (.getfield 51, 3) := by decide +kernel
theorem dX7_snowAt_4 : decode cX7_snowAt 4 = .ok (.ifCond .le 21, 3) := by decide +kernel
theorem dX7_snowAt_25 : decode cX7_snowAt 25 = .ok (.iconst 0, 1) := by decide +kernel
theorem dX7_snowAt_26 : decode cX7_snowAt 26 = .ok (.ireturn, 1) := by decide +kernel
set_option maxHeartbeats 4000000 in
set_option maxRecDepth 100000 in
theorem mX7_snowAt (l : Launch) (D : va_G) (k : Nat → ClassId) (sz : Nat) (t : Nat) (q : Int32) (t_names : Value) (t_kinds : Value) (t_yards : Value) (t_paces : Value) (t_skills : Value) (t_snow : Value) (t_law : Value) (t_guests : Int32) (t_bend : Int32) (t_hour : Int32) (t_bendTold : Int32) (t_hourTold : Int32) : Met l yX7_snowAt wsX7_snowAt ({ frames := 0, cells := 0, slots := 0, locals := 0 }) (va_Pc [.ref t, .int q] (kz_Pre D k [(t, kO 7 [t_names, t_kinds, t_yards, t_paces, t_skills, t_snow, t_law, .int t_guests, .int 0, .int t_bend, .int t_hour, .int t_bendTold, .int t_hourTold])] sz)) (va_Qi (fun (rr : Int32) (uu : Unit) => rr = 0) (fun uu zt => kz_B D (va_A [(t, kO 7 [t_names, t_kinds, t_yards, t_paces, t_skills, t_snow, t_law, .int t_guests, .int 0, .int t_bend, .int t_hour, .int t_bendTold, .int t_hourTold])] sz) [(t, kO 7 [t_names, t_kinds, t_yards, t_paces, t_skills, t_snow, t_law, .int t_guests, .int 0, .int t_bend, .int t_hour, .int t_bendTold, .int t_hourTold])] zt) (va_A [(t, kO 7 [t_names, t_kinds, t_yards, t_paces, t_skills, t_snow, t_law, .int t_guests, .int 0, .int t_bend, .int t_hour, .int t_bendTold, .int t_hourTold])] sz)) 0 0 (va_A [(t, kO 7 [t_names, t_kinds, t_yards, t_paces, t_skills, t_snow, t_law, .int t_guests, .int 0, .int t_bend, .int t_hour, .int t_bendTold, .int t_hourTold])] sz) := by
  refine Met.ofW (cc := cX7_snowAt) (maxL := 2) (ret := (some .int)) (by decide) rfl ?_
  intro p e s m args below meth c s₁ B hml hv
  obtain ⟨hav, hsz, hP, hK, hD0, hE⟩ := hv
  have hx := B.exec
  have hb := B.bytes
  have hr := B.returns
  have hts := atoms_spec (ws := wsX7_snowAt) B.pre
  have hown : s.vm.findClass RX7 = some m.cls := findClass_of_methodNamed B.named
  have hlocks := B.notSynchronized
  have hi7 : ∀ w ∈ u_ws RX7 TX7 13, w ∈ wsX7_snowAt := by decide +kernel
  have lf51 := hts (.fieldLink RX7 51 "LastCook$Told" "snows" "I") (by decide +kernel)
  subst hsz
  have hD := hD0.self (sz := s.heap.size)
  generalize hAe : va_A [(t, kO 7 [t_names, t_kinds, t_yards, t_paces, t_skills, t_snow, t_law, .int t_guests, .int 0, .int t_bend, .int t_hour, .int t_bendTold, .int t_hourTold])] s.heap.size = A at hD ⊢
  have hA : ∀ q : Nat, s.heap.size ≤ q → A q := fun q h => by rw [← hAe]; exact Or.inr h
  have hS : va_S A s.heap s.heap [] := va_S.rf
  have hl := lv_entry ([.ref t, .int q]) (n := 2) (Nat.le_of_ble_eq_true rfl)
  rw [show entryFrame m args 2 = entryFrame m ([.ref t, .int q] : List Value).toArray 2 by rw [hav], lg_entry_eq]
  generalize (lg_sl ([.ref t, .int q]) ++ List.replicate (2 - (lg_sl ([.ref t, .int q])).length) Slot.unset).toArray = ls at hl ⊢
  have hl : lv_has ls 2 [(0, .ref t), (1, .int q)] := hl
  obtain ⟨R, hR⟩ : ∃ R, R = (headSpec wsX7_snowAt ({ frames := 0, cells := 0, slots := 0, locals := 0 } : Room)).room := ⟨_, rfl⟩
  rw [← hR]
  generalize hQ : MQ below _ args s 0 0 A = Q
  replace hQ := hQ.symm
  obtain ⟨H, hH⟩ : ∃ H, H = s.heap := ⟨_, rfl⟩
  rw [← hH] at hP ⊢
  have hS : va_S A s.heap H [] := by rw [hH]; exact hS
  refine lv_aload_n hx hb dX7_snowAt_0 rfl (lv_at hl 0 rfl) ?_
  refine va_get (D := D) (ci := 7) (v := .int 0) (C := RX7) (T := TX7) (N := 13) hx hb hts hi7 hown hK hP 0 rfl rfl 8 (by decide) lf51 (fun _ h9 => h9) rfl dX7_snowAt_1 ?_
  refine lv_if_le (tgt := 25) hx hb dX7_snowAt_4 (by decide) (fun c_1 => ?_) (fun c_1 => absurd (by decide) c_1)
  refine lv_iconst (v := 0) hx hb dX7_snowAt_25 (by decide) ?_
  rw [hQ]
  have hP9 := hP.sub (ws' := [(t, kO 7 [t_names, t_kinds, t_yards, t_paces, t_skills, t_snow, t_law, .int t_guests, .int 0, .int t_bend, .int t_hour, .int t_bendTold, .int t_hourTold])]) [0] rfl
  have hD9 := hD.sub (ws' := [(t, kO 7 [t_names, t_kinds, t_yards, t_paces, t_skills, t_snow, t_law, .int t_guests, .int 0, .int t_bend, .int t_hour, .int t_bendTold, .int t_hourTold])]) [0] (by decide) rfl
  exact W.iret (v := 0) hx hb hr (fun zt ht hW => ⟨⟨0, (), rfl, rfl, by rw [ht]; exact hP9, hD9⟩, hS.F ht⟩) hS.2.2 dX7_snowAt_26
