theorem dX1_copyFrom_0 : decode cX1_copyFrom 0 = .ok (.aload_n 1, 1) := by decide +kernel
theorem dX1_copyFrom_1 : decode cX1_copyFrom 1 = .ok (.getfield 11, 3) := by decide +kernel
theorem dX1_copyFrom_4 : decode cX1_copyFrom 4 = .ok (.iconst 0, 1) := by decide +kernel
theorem dX1_copyFrom_5 : decode cX1_copyFrom 5 = .ok (.aload_n 0, 1) := by decide +kernel
theorem dX1_copyFrom_6 : decode cX1_copyFrom 6 = .ok (.getfield 11, 3) := by decide +kernel
theorem dX1_copyFrom_9 : decode cX1_copyFrom 9 = .ok (.iconst 0, 1) := by decide +kernel
theorem dX1_copyFrom_10 : decode cX1_copyFrom 10 = .ok (.bipush 40, 2) := by decide +kernel
theorem dX1_copyFrom_12 : decode cX1_copyFrom 12 = .ok (.invokestatic 25, 3) := by decide +kernel
theorem dX1_copyFrom_15 : decode cX1_copyFrom 15 = .ok (.aload_n 1, 1) := by decide +kernel
theorem dX1_copyFrom_16 : decode cX1_copyFrom 16 = .ok (.getfield 15, 3) := by decide +kernel
theorem dX1_copyFrom_19 : decode cX1_copyFrom 19 = .ok (.iconst 0, 1) := by decide +kernel
theorem dX1_copyFrom_20 : decode cX1_copyFrom 20 = .ok (.aload_n 0, 1) := by decide +kernel
theorem dX1_copyFrom_21 : decode cX1_copyFrom 21 = .ok (.getfield 15, 3) := by decide +kernel
theorem dX1_copyFrom_24 : decode cX1_copyFrom 24 = .ok (.iconst 0, 1) := by decide +kernel
theorem dX1_copyFrom_25 : decode cX1_copyFrom 25 = .ok (.bipush 40, 2) := by decide +kernel
theorem dX1_copyFrom_27 : decode cX1_copyFrom 27 = .ok (.invokestatic 25, 3) := by decide +kernel
theorem dX1_copyFrom_30 : decode cX1_copyFrom 30 = .ok (.aload_n 1, 1) := by decide +kernel
theorem dX1_copyFrom_31 : decode cX1_copyFrom 31 = .ok (.getfield 18, 3) := by decide +kernel
theorem dX1_copyFrom_34 : decode cX1_copyFrom 34 = .ok (.iconst 0, 1) := by decide +kernel
theorem dX1_copyFrom_35 : decode cX1_copyFrom 35 = .ok (.aload_n 0, 1) := by decide +kernel
theorem dX1_copyFrom_36 : decode cX1_copyFrom 36 = .ok (.getfield 18, 3) := by decide +kernel
theorem dX1_copyFrom_39 : decode cX1_copyFrom 39 = .ok (.iconst 0, 1) := by decide +kernel
theorem dX1_copyFrom_40 : decode cX1_copyFrom 40 = .ok (.bipush 40, 2) := by decide +kernel
theorem dX1_copyFrom_42 : decode cX1_copyFrom 42 = .ok (.invokestatic 25, 3) := by decide +kernel
theorem dX1_copyFrom_45 : decode cX1_copyFrom 45 = .ok (.aload_n 0, 1) := by decide +kernel
theorem dX1_copyFrom_46 : decode cX1_copyFrom 46 = .ok (.aload_n 1, 1) := by decide +kernel
theorem dX1_copyFrom_47 : decode cX1_copyFrom 47 = .ok (.getfield 21, 3) := by decide +kernel
theorem dX1_copyFrom_50 : decode cX1_copyFrom 50 = .ok (.putfield 21, 3) := by decide +kernel
theorem dX1_copyFrom_53 : decode cX1_copyFrom 53 = .ok (.return_, 1) := by decide +kernel
set_option maxHeartbeats 4000000 in
set_option maxRecDepth 100000 in
theorem mX1_copyFrom (l : Launch) (D : va_G) (k : Nat → ClassId) (sz : Nat) (la : Nat) (lb : Nat) (la0 : Nat) (la1 : Nat) (la2 : Nat) (la_size : Int32) (laf0 : Nat → Int32) (laf1 : Nat → Int32) (laf2 : Nat → Int32) (lb0 : Nat) (lb1 : Nat) (lb2 : Nat) (lb_size : Int32) (lbf0 : Nat → Int32) (lbf1 : Nat → Int32) (lbf2 : Nat → Int32) : Met l yX1_copyFrom wsX1_copyFrom ({ frames := 1, cells := 0, slots := 0, locals := 70 }) (va_Pc [.ref la, .ref lb] (kz_Pre D k [(la, kO 1 [.ref la0, .ref la1, .ref la2, .int la_size]), (la0, kI k 40 laf0), (la1, kI k 40 laf1), (la2, kI k 40 laf2), (lb, kO 1 [.ref lb0, .ref lb1, .ref lb2, .int lb_size]), (lb0, kI k 40 lbf0), (lb1, kI k 40 lbf1), (lb2, kI k 40 lbf2)] sz)) (va_Qv (fun (uu : Unit) => True) (fun uu zt => kz_B D (va_A [(la, kO 1 [.ref la0, .ref la1, .ref la2, .int la_size]), (la0, kI k 40 laf0), (la1, kI k 40 laf1), (la2, kI k 40 laf2), (lb, kO 1 [.ref lb0, .ref lb1, .ref lb2, .int lb_size]), (lb0, kI k 40 lbf0), (lb1, kI k 40 lbf1), (lb2, kI k 40 lbf2)] sz) [(la, kO 1 [.ref la0, .ref la1, .ref la2, .int lb_size]), (la0, kI k 40 (va_cpy lbf0 laf0 0 0 40)), (la1, kI k 40 (va_cpy lbf1 laf1 0 0 40)), (la2, kI k 40 (va_cpy lbf2 laf2 0 0 40)), (lb, kO 1 [.ref lb0, .ref lb1, .ref lb2, .int lb_size]), (lb0, kI k 40 lbf0), (lb1, kI k 40 lbf1), (lb2, kI k 40 lbf2)] zt) (va_A [(la, kO 1 [.ref la0, .ref la1, .ref la2, .int la_size]), (la0, kI k 40 laf0), (la1, kI k 40 laf1), (la2, kI k 40 laf2), (lb, kO 1 [.ref lb0, .ref lb1, .ref lb2, .int lb_size]), (lb0, kI k 40 lbf0), (lb1, kI k 40 lbf1), (lb2, kI k 40 lbf2)] sz)) 0 0 (va_A [(la, kO 1 [.ref la0, .ref la1, .ref la2, .int la_size]), (la0, kI k 40 laf0), (la1, kI k 40 laf1), (la2, kI k 40 laf2), (lb, kO 1 [.ref lb0, .ref lb1, .ref lb2, .int lb_size]), (lb0, kI k 40 lbf0), (lb1, kI k 40 lbf1), (lb2, kI k 40 lbf2)] sz) := by
  refine Met.ofW (cc := cX1_copyFrom) (maxL := 2) (ret := none) (by decide) rfl ?_
  intro p e s m args below meth c s₁ B hml hv
  obtain ⟨hav, hsz, hP, hK, hD0, hE⟩ := hv
  have hx := B.exec
  have hb := B.bytes
  have hr := B.returns
  have hts := atoms_spec (ws := wsX1_copyFrom) B.pre
  have hown : s.vm.findClass RX1 = some m.cls := findClass_of_methodNamed B.named
  have hlocks := B.notSynchronized
  have hi1 : ∀ w ∈ u_ws RX1 TX1 4, w ∈ wsX1_copyFrom := by decide +kernel
  have lf11 := hts (.fieldLink RX1 11 "LastCook$Lines" "deeds" "[I") (by decide +kernel)
  have lm25 := hts (.methodLink RX1 25 arraycopyName) (by decide +kernel)
  have lna := hts (.native arraycopyName) (by decide +kernel)
  have lsa := hts (.static arraycopyName) (by decide +kernel)
  have lia := hts (.initialized "java/lang/System") (by decide +kernel)
  have lf15 := hts (.fieldLink RX1 15 "LastCook$Lines" "guests" "[I") (by decide +kernel)
  have lf18 := hts (.fieldLink RX1 18 "LastCook$Lines" "wholes" "[I") (by decide +kernel)
  have lf21 := hts (.fieldLink RX1 21 "LastCook$Lines" "size" "I") (by decide +kernel)
  subst hsz
  have hD := hD0.self (sz := s.heap.size)
  generalize hAe : va_A [(la, kO 1 [.ref la0, .ref la1, .ref la2, .int la_size]), (la0, kI k 40 laf0), (la1, kI k 40 laf1), (la2, kI k 40 laf2), (lb, kO 1 [.ref lb0, .ref lb1, .ref lb2, .int lb_size]), (lb0, kI k 40 lbf0), (lb1, kI k 40 lbf1), (lb2, kI k 40 lbf2)] s.heap.size = A at hD ⊢
  have hA : ∀ q : Nat, s.heap.size ≤ q → A q := fun q h => by rw [← hAe]; exact Or.inr h
  have hS : va_S A s.heap s.heap [] := va_S.rf
  have hl := lv_entry ([.ref la, .ref lb]) (n := 2) (Nat.le_of_ble_eq_true rfl)
  rw [show entryFrame m args 2 = entryFrame m ([.ref la, .ref lb] : List Value).toArray 2 by rw [hav], lg_entry_eq]
  generalize (lg_sl ([.ref la, .ref lb]) ++ List.replicate (2 - (lg_sl ([.ref la, .ref lb])).length) Slot.unset).toArray = ls at hl ⊢
  have hl : lv_has ls 2 [(0, .ref la), (1, .ref lb)] := hl
  obtain ⟨R, hR⟩ : ∃ R, R = (headSpec wsX1_copyFrom ({ frames := 1, cells := 0, slots := 0, locals := 70 } : Room)).room := ⟨_, rfl⟩
  rw [← hR]
  generalize hQ : MQ below _ args s 0 0 A = Q
  replace hQ := hQ.symm
  obtain ⟨H, hH⟩ : ∃ H, H = s.heap := ⟨_, rfl⟩
  rw [← hH] at hP ⊢
  have hS : va_S A s.heap H [] := by rw [hH]; exact hS
  refine lv_aload_n hx hb dX1_copyFrom_0 rfl (lv_at hl 1 rfl) ?_
  refine va_get (D := D) (ci := 1) (v := .ref lb0) (C := RX1) (T := TX1) (N := 4) hx hb hts hi1 hown hK hP 4 rfl rfl 0 (by decide) lf11 (fun _ h9 => h9) rfl dX1_copyFrom_1 ?_
  refine lv_iconst (v := 0) hx hb dX1_copyFrom_4 (by decide) ?_
  refine lv_aload_n hx hb dX1_copyFrom_5 rfl (lv_at hl 0 rfl) ?_
  refine va_get (D := D) (ci := 1) (v := .ref la0) (C := RX1) (T := TX1) (N := 4) hx hb hts hi1 hown hK hP 0 rfl rfl 0 (by decide) lf11 (fun _ h9 => h9) rfl dX1_copyFrom_6 ?_
  refine lv_iconst (v := 0) hx hb dX1_copyFrom_9 (by decide) ?_
  refine lv_bipush (v := 40) hx hb dX1_copyFrom_10 (by decide) ?_
  refine va_copyi (ty := .int) hx hb (hml.trans hl.1.symm) hown lm25 lna lsa lia hK hP hD hS 5 1 0 0 rfl rfl rfl rfl rfl (by decide) (by decide) (by decide) (by decide) (by decide) (fun _ _ => rfl) (by rw [hR]; exact Nat.le_of_ble_eq_true rfl) (by rw [hR]; decide +kernel) dX1_copyFrom_12 (fun H locs hP hD hS => ?_)
  have hP : va_P D vwCl [(la, kO 1 [.ref la0, .ref la1, .ref la2, .int la_size]), (la0, kI k 40 (va_cpy lbf0 laf0 0 0 40)), (la1, kI k 40 laf1), (la2, kI k 40 laf2), (lb, kO 1 [.ref lb0, .ref lb1, .ref lb2, .int lb_size]), (lb0, kI k 40 lbf0), (lb1, kI k 40 lbf1), (lb2, kI k 40 lbf2)] H := hP
  have hD : va_D A [(la, kO 1 [.ref la0, .ref la1, .ref la2, .int la_size]), (la0, kI k 40 (va_cpy lbf0 laf0 0 0 40)), (la1, kI k 40 laf1), (la2, kI k 40 laf2), (lb, kO 1 [.ref lb0, .ref lb1, .ref lb2, .int lb_size]), (lb0, kI k 40 lbf0), (lb1, kI k 40 lbf1), (lb2, kI k 40 lbf2)] := hD
  refine lv_aload_n hx hb dX1_copyFrom_15 rfl (lv_at hl 1 rfl) ?_
  refine va_get (D := D) (ci := 1) (v := .ref lb1) (C := RX1) (T := TX1) (N := 4) hx hb hts hi1 hown hK hP 4 rfl rfl 1 (by decide) lf15 (fun _ h9 => h9) rfl dX1_copyFrom_16 ?_
  refine lv_iconst (v := 0) hx hb dX1_copyFrom_19 (by decide) ?_
  refine lv_aload_n hx hb dX1_copyFrom_20 rfl (lv_at hl 0 rfl) ?_
  refine va_get (D := D) (ci := 1) (v := .ref la1) (C := RX1) (T := TX1) (N := 4) hx hb hts hi1 hown hK hP 0 rfl rfl 1 (by decide) lf15 (fun _ h9 => h9) rfl dX1_copyFrom_21 ?_
  refine lv_iconst (v := 0) hx hb dX1_copyFrom_24 (by decide) ?_
  refine lv_bipush (v := 40) hx hb dX1_copyFrom_25 (by decide) ?_
  refine va_copyi (ty := .int) hx hb (hml.trans hl.1.symm) hown lm25 lna lsa lia hK hP hD hS 6 2 0 0 rfl rfl rfl rfl rfl (by decide) (by decide) (by decide) (by decide) (by decide) (fun _ _ => rfl) (by rw [hR]; exact Nat.le_of_ble_eq_true rfl) (by rw [hR]; decide +kernel) dX1_copyFrom_27 (fun H locs hP hD hS => ?_)
  have hP : va_P D vwCl [(la, kO 1 [.ref la0, .ref la1, .ref la2, .int la_size]), (la0, kI k 40 (va_cpy lbf0 laf0 0 0 40)), (la1, kI k 40 (va_cpy lbf1 laf1 0 0 40)), (la2, kI k 40 laf2), (lb, kO 1 [.ref lb0, .ref lb1, .ref lb2, .int lb_size]), (lb0, kI k 40 lbf0), (lb1, kI k 40 lbf1), (lb2, kI k 40 lbf2)] H := hP
  have hD : va_D A [(la, kO 1 [.ref la0, .ref la1, .ref la2, .int la_size]), (la0, kI k 40 (va_cpy lbf0 laf0 0 0 40)), (la1, kI k 40 (va_cpy lbf1 laf1 0 0 40)), (la2, kI k 40 laf2), (lb, kO 1 [.ref lb0, .ref lb1, .ref lb2, .int lb_size]), (lb0, kI k 40 lbf0), (lb1, kI k 40 lbf1), (lb2, kI k 40 lbf2)] := hD
  refine lv_aload_n hx hb dX1_copyFrom_30 rfl (lv_at hl 1 rfl) ?_
  refine va_get (D := D) (ci := 1) (v := .ref lb2) (C := RX1) (T := TX1) (N := 4) hx hb hts hi1 hown hK hP 4 rfl rfl 2 (by decide) lf18 (fun _ h9 => h9) rfl dX1_copyFrom_31 ?_
  refine lv_iconst (v := 0) hx hb dX1_copyFrom_34 (by decide) ?_
  refine lv_aload_n hx hb dX1_copyFrom_35 rfl (lv_at hl 0 rfl) ?_
  refine va_get (D := D) (ci := 1) (v := .ref la2) (C := RX1) (T := TX1) (N := 4) hx hb hts hi1 hown hK hP 0 rfl rfl 2 (by decide) lf18 (fun _ h9 => h9) rfl dX1_copyFrom_36 ?_
  refine lv_iconst (v := 0) hx hb dX1_copyFrom_39 (by decide) ?_
  refine lv_bipush (v := 40) hx hb dX1_copyFrom_40 (by decide) ?_
  refine va_copyi (ty := .int) hx hb (hml.trans hl.1.symm) hown lm25 lna lsa lia hK hP hD hS 7 3 0 0 rfl rfl rfl rfl rfl (by decide) (by decide) (by decide) (by decide) (by decide) (fun _ _ => rfl) (by rw [hR]; exact Nat.le_of_ble_eq_true rfl) (by rw [hR]; decide +kernel) dX1_copyFrom_42 (fun H locs hP hD hS => ?_)
  have hP : va_P D vwCl [(la, kO 1 [.ref la0, .ref la1, .ref la2, .int la_size]), (la0, kI k 40 (va_cpy lbf0 laf0 0 0 40)), (la1, kI k 40 (va_cpy lbf1 laf1 0 0 40)), (la2, kI k 40 (va_cpy lbf2 laf2 0 0 40)), (lb, kO 1 [.ref lb0, .ref lb1, .ref lb2, .int lb_size]), (lb0, kI k 40 lbf0), (lb1, kI k 40 lbf1), (lb2, kI k 40 lbf2)] H := hP
  have hD : va_D A [(la, kO 1 [.ref la0, .ref la1, .ref la2, .int la_size]), (la0, kI k 40 (va_cpy lbf0 laf0 0 0 40)), (la1, kI k 40 (va_cpy lbf1 laf1 0 0 40)), (la2, kI k 40 (va_cpy lbf2 laf2 0 0 40)), (lb, kO 1 [.ref lb0, .ref lb1, .ref lb2, .int lb_size]), (lb0, kI k 40 lbf0), (lb1, kI k 40 lbf1), (lb2, kI k 40 lbf2)] := hD
  refine lv_aload_n hx hb dX1_copyFrom_45 rfl (lv_at hl 0 rfl) ?_
  refine lv_aload_n hx hb dX1_copyFrom_46 rfl (lv_at hl 1 rfl) ?_
  refine va_get (D := D) (ci := 1) (v := .int lb_size) (C := RX1) (T := TX1) (N := 4) hx hb hts hi1 hown hK hP 4 rfl rfl 3 (by decide) lf21 (fun _ h9 => h9) rfl dX1_copyFrom_47 ?_
  refine va_put (D := D) (ci := 1) (v := .int lb_size) (ty := .int) (C := RX1) (T := TX1) (N := 4) hx hb hts hi1 tyX1 tyX1_ok nmX1 hown hK hP hD hS 0 rfl rfl 3 (by decide) lf21 (fun _ h9 => h9) rfl (by decide +kernel) rfl rfl (Nat.le_of_ble_eq_true rfl) dX1_copyFrom_50 (fun H locs hP hD hS => ?_)
  have hP : va_P D vwCl [(la, kO 1 [.ref la0, .ref la1, .ref la2, .int lb_size]), (la0, kI k 40 (va_cpy lbf0 laf0 0 0 40)), (la1, kI k 40 (va_cpy lbf1 laf1 0 0 40)), (la2, kI k 40 (va_cpy lbf2 laf2 0 0 40)), (lb, kO 1 [.ref lb0, .ref lb1, .ref lb2, .int lb_size]), (lb0, kI k 40 lbf0), (lb1, kI k 40 lbf1), (lb2, kI k 40 lbf2)] H := hP
  have hD : va_D A [(la, kO 1 [.ref la0, .ref la1, .ref la2, .int lb_size]), (la0, kI k 40 (va_cpy lbf0 laf0 0 0 40)), (la1, kI k 40 (va_cpy lbf1 laf1 0 0 40)), (la2, kI k 40 (va_cpy lbf2 laf2 0 0 40)), (lb, kO 1 [.ref lb0, .ref lb1, .ref lb2, .int lb_size]), (lb0, kI k 40 lbf0), (lb1, kI k 40 lbf1), (lb2, kI k 40 lbf2)] := hD
  rw [hQ]
  have hP9 := hP.sub (ws' := [(la, kO 1 [.ref la0, .ref la1, .ref la2, .int lb_size]), (la0, kI k 40 (va_cpy lbf0 laf0 0 0 40)), (la1, kI k 40 (va_cpy lbf1 laf1 0 0 40)), (la2, kI k 40 (va_cpy lbf2 laf2 0 0 40)), (lb, kO 1 [.ref lb0, .ref lb1, .ref lb2, .int lb_size]), (lb0, kI k 40 lbf0), (lb1, kI k 40 lbf1), (lb2, kI k 40 lbf2)]) [0, 1, 2, 3, 4, 5, 6, 7] rfl
  have hD9 := hD.sub (ws' := [(la, kO 1 [.ref la0, .ref la1, .ref la2, .int lb_size]), (la0, kI k 40 (va_cpy lbf0 laf0 0 0 40)), (la1, kI k 40 (va_cpy lbf1 laf1 0 0 40)), (la2, kI k 40 (va_cpy lbf2 laf2 0 0 40)), (lb, kO 1 [.ref lb0, .ref lb1, .ref lb2, .int lb_size]), (lb0, kI k 40 lbf0), (lb1, kI k 40 lbf1), (lb2, kI k 40 lbf2)]) [0, 1, 2, 3, 4, 5, 6, 7] (by decide) rfl
  exact W.vret hx hb hr (fun zt ht hW => ⟨⟨(), rfl, trivial, by rw [ht]; exact hP9, hD9⟩, hS.F ht⟩) hS.2.2 dX1_copyFrom_53
theorem dX5_copyFrom_0 : decode cX5_copyFrom 0 = .ok (.aload_n 1, 1) := by decide +kernel
theorem dX5_copyFrom_1 : decode cX5_copyFrom 1 = .ok (.getfield 11, 3) := by decide +kernel
theorem dX5_copyFrom_4 : decode cX5_copyFrom 4 = .ok (.iconst 0, 1) := by decide +kernel
theorem dX5_copyFrom_5 : decode cX5_copyFrom 5 = .ok (.aload_n 0, 1) := by decide +kernel
theorem dX5_copyFrom_6 : decode cX5_copyFrom 6 = .ok (.getfield 11, 3) := by decide +kernel
theorem dX5_copyFrom_9 : decode cX5_copyFrom 9 = .ok (.iconst 0, 1) := by decide +kernel
theorem dX5_copyFrom_10 : decode cX5_copyFrom 10 = .ok (.bipush 8, 2) := by decide +kernel
theorem dX5_copyFrom_12 : decode cX5_copyFrom 12 = .ok (.invokestatic 26, 3) := by decide +kernel
theorem dX5_copyFrom_15 : decode cX5_copyFrom 15 = .ok (.aload_n 1, 1) := by decide +kernel
theorem dX5_copyFrom_16 : decode cX5_copyFrom 16 = .ok (.getfield 15, 3) := by decide +kernel
theorem dX5_copyFrom_19 : decode cX5_copyFrom 19 = .ok (.iconst 0, 1) := by decide +kernel
theorem dX5_copyFrom_20 : decode cX5_copyFrom 20 = .ok (.aload_n 0, 1) := by decide +kernel
theorem dX5_copyFrom_21 : decode cX5_copyFrom 21 = .ok (.getfield 15, 3) := by decide +kernel
theorem dX5_copyFrom_24 : decode cX5_copyFrom 24 = .ok (.iconst 0, 1) := by decide +kernel
theorem dX5_copyFrom_25 : decode cX5_copyFrom 25 = .ok (.bipush 8, 2) := by decide +kernel
theorem dX5_copyFrom_27 : decode cX5_copyFrom 27 = .ok (.invokestatic 26, 3) := by decide +kernel
theorem dX5_copyFrom_30 : decode cX5_copyFrom 30 = .ok (.aload_n 1, 1) := by decide +kernel
theorem dX5_copyFrom_31 : decode cX5_copyFrom 31 = .ok (.getfield 18, 3) := by decide +kernel
theorem dX5_copyFrom_34 : decode cX5_copyFrom 34 = .ok (.iconst 0, 1) := by decide +kernel
theorem dX5_copyFrom_35 : decode cX5_copyFrom 35 = .ok (.aload_n 0, 1) := by decide +kernel
theorem dX5_copyFrom_36 : decode cX5_copyFrom 36 = .ok (.getfield 18, 3) := by decide +kernel
theorem dX5_copyFrom_39 : decode cX5_copyFrom 39 = .ok (.iconst 0, 1) := by decide +kernel
theorem dX5_copyFrom_40 : decode cX5_copyFrom 40 = .ok (.bipush 8, 2) := by decide +kernel
theorem dX5_copyFrom_42 : decode cX5_copyFrom 42 = .ok (.invokestatic 26, 3) := by decide +kernel
theorem dX5_copyFrom_45 : decode cX5_copyFrom 45 = .ok (.aload_n 0, 1) := by decide +kernel
theorem dX5_copyFrom_46 : decode cX5_copyFrom 46 = .ok (.aload_n 1, 1) := by decide +kernel
theorem dX5_copyFrom_47 : decode cX5_copyFrom 47 = .ok (.getfield 22, 3) := by decide +kernel
theorem dX5_copyFrom_50 : decode cX5_copyFrom 50 = .ok (.putfield 22, 3) := by decide +kernel
theorem dX5_copyFrom_53 : decode cX5_copyFrom 53 = .ok (.return_, 1) := by decide +kernel
set_option maxHeartbeats 4000000 in
set_option maxRecDepth 100000 in
theorem mX5_copyFrom (l : Launch) (D : va_G) (k : Nat → ClassId) (sz : Nat) (sa : Nat) (sb : Nat) (sa0 : Nat) (sa1 : Nat) (sa2 : Nat) (sa_size : Int32) (saf0 : Nat → Int32) (saf1 : Nat → Int32) (saf2 : Nat → Int32) (sb0 : Nat) (sb1 : Nat) (sb2 : Nat) (sb_size : Int32) (sbf0 : Nat → Int32) (sbf1 : Nat → Int32) : Met l yX5_copyFrom wsX5_copyFrom ({ frames := 1, cells := 0, slots := 0, locals := 70 }) (va_Pc [.ref sa, .ref sb] (kz_Pre D k [(sa, kO 5 [.ref sa0, .ref sa1, .ref sa2, .int sa_size]), (sa0, kI k 8 saf0), (sa1, kI k 8 saf1), (sa2, kZ k 8 saf2), (sb, kO 5 [.ref sb0, .ref sb1, .ref sb2, .int sb_size]), (sb0, kI k 8 sbf0), (sb1, kI k 8 sbf1), (sb2, kZ k 8 (fun _ => 0))] sz)) (va_Qv (fun (uu : Unit) => True) (fun uu zt => kz_B D (va_A [(sa, kO 5 [.ref sa0, .ref sa1, .ref sa2, .int sa_size]), (sa0, kI k 8 saf0), (sa1, kI k 8 saf1), (sa2, kZ k 8 saf2), (sb, kO 5 [.ref sb0, .ref sb1, .ref sb2, .int sb_size]), (sb0, kI k 8 sbf0), (sb1, kI k 8 sbf1), (sb2, kZ k 8 (fun _ => 0))] sz) [(sa, kO 5 [.ref sa0, .ref sa1, .ref sa2, .int sb_size]), (sa0, kI k 8 (va_cpy sbf0 saf0 0 0 8)), (sa1, kI k 8 (va_cpy sbf1 saf1 0 0 8)), (sa2, kZ k 8 (va_cpy (fun _ => 0) saf2 0 0 8)), (sb, kO 5 [.ref sb0, .ref sb1, .ref sb2, .int sb_size]), (sb0, kI k 8 sbf0), (sb1, kI k 8 sbf1), (sb2, kZ k 8 (fun _ => 0))] zt) (va_A [(sa, kO 5 [.ref sa0, .ref sa1, .ref sa2, .int sa_size]), (sa0, kI k 8 saf0), (sa1, kI k 8 saf1), (sa2, kZ k 8 saf2), (sb, kO 5 [.ref sb0, .ref sb1, .ref sb2, .int sb_size]), (sb0, kI k 8 sbf0), (sb1, kI k 8 sbf1), (sb2, kZ k 8 (fun _ => 0))] sz)) 0 0 (va_A [(sa, kO 5 [.ref sa0, .ref sa1, .ref sa2, .int sa_size]), (sa0, kI k 8 saf0), (sa1, kI k 8 saf1), (sa2, kZ k 8 saf2), (sb, kO 5 [.ref sb0, .ref sb1, .ref sb2, .int sb_size]), (sb0, kI k 8 sbf0), (sb1, kI k 8 sbf1), (sb2, kZ k 8 (fun _ => 0))] sz) := by
  refine Met.ofW (cc := cX5_copyFrom) (maxL := 2) (ret := none) (by decide) rfl ?_
  intro p e s m args below meth c s₁ B hml hv
  obtain ⟨hav, hsz, hP, hK, hD0, hE⟩ := hv
  have hx := B.exec
  have hb := B.bytes
  have hr := B.returns
  have hts := atoms_spec (ws := wsX5_copyFrom) B.pre
  have hown : s.vm.findClass RX5 = some m.cls := findClass_of_methodNamed B.named
  have hlocks := B.notSynchronized
  have hi5 : ∀ w ∈ u_ws RX5 TX5 4, w ∈ wsX5_copyFrom := by decide +kernel
  have lf11 := hts (.fieldLink RX5 11 "LastCook$Sights" "minutes" "[I") (by decide +kernel)
  have lm26 := hts (.methodLink RX5 26 arraycopyName) (by decide +kernel)
  have lna := hts (.native arraycopyName) (by decide +kernel)
  have lsa := hts (.static arraycopyName) (by decide +kernel)
  have lia := hts (.initialized "java/lang/System") (by decide +kernel)
  have lf15 := hts (.fieldLink RX5 15 "LastCook$Sights" "yards" "[I") (by decide +kernel)
  have lf18 := hts (.fieldLink RX5 18 "LastCook$Sights" "near" "[Z") (by decide +kernel)
  have lf22 := hts (.fieldLink RX5 22 "LastCook$Sights" "size" "I") (by decide +kernel)
  subst hsz
  have hD := hD0.self (sz := s.heap.size)
  generalize hAe : va_A [(sa, kO 5 [.ref sa0, .ref sa1, .ref sa2, .int sa_size]), (sa0, kI k 8 saf0), (sa1, kI k 8 saf1), (sa2, kZ k 8 saf2), (sb, kO 5 [.ref sb0, .ref sb1, .ref sb2, .int sb_size]), (sb0, kI k 8 sbf0), (sb1, kI k 8 sbf1), (sb2, kZ k 8 (fun _ => 0))] s.heap.size = A at hD ⊢
  have hA : ∀ q : Nat, s.heap.size ≤ q → A q := fun q h => by rw [← hAe]; exact Or.inr h
  have hS : va_S A s.heap s.heap [] := va_S.rf
  have hl := lv_entry ([.ref sa, .ref sb]) (n := 2) (Nat.le_of_ble_eq_true rfl)
  rw [show entryFrame m args 2 = entryFrame m ([.ref sa, .ref sb] : List Value).toArray 2 by rw [hav], lg_entry_eq]
  generalize (lg_sl ([.ref sa, .ref sb]) ++ List.replicate (2 - (lg_sl ([.ref sa, .ref sb])).length) Slot.unset).toArray = ls at hl ⊢
  have hl : lv_has ls 2 [(0, .ref sa), (1, .ref sb)] := hl
  obtain ⟨R, hR⟩ : ∃ R, R = (headSpec wsX5_copyFrom ({ frames := 1, cells := 0, slots := 0, locals := 70 } : Room)).room := ⟨_, rfl⟩
  rw [← hR]
  generalize hQ : MQ below _ args s 0 0 A = Q
  replace hQ := hQ.symm
  obtain ⟨H, hH⟩ : ∃ H, H = s.heap := ⟨_, rfl⟩
  rw [← hH] at hP ⊢
  have hS : va_S A s.heap H [] := by rw [hH]; exact hS
  refine lv_aload_n hx hb dX5_copyFrom_0 rfl (lv_at hl 1 rfl) ?_
  refine va_get (D := D) (ci := 5) (v := .ref sb0) (C := RX5) (T := TX5) (N := 4) hx hb hts hi5 hown hK hP 4 rfl rfl 0 (by decide) lf11 (fun _ h9 => h9) rfl dX5_copyFrom_1 ?_
  refine lv_iconst (v := 0) hx hb dX5_copyFrom_4 (by decide) ?_
  refine lv_aload_n hx hb dX5_copyFrom_5 rfl (lv_at hl 0 rfl) ?_
  refine va_get (D := D) (ci := 5) (v := .ref sa0) (C := RX5) (T := TX5) (N := 4) hx hb hts hi5 hown hK hP 0 rfl rfl 0 (by decide) lf11 (fun _ h9 => h9) rfl dX5_copyFrom_6 ?_
  refine lv_iconst (v := 0) hx hb dX5_copyFrom_9 (by decide) ?_
  refine lv_bipush (v := 8) hx hb dX5_copyFrom_10 (by decide) ?_
  refine va_copyi (ty := .int) hx hb (hml.trans hl.1.symm) hown lm26 lna lsa lia hK hP hD hS 5 1 0 0 rfl rfl rfl rfl rfl (by decide) (by decide) (by decide) (by decide) (by decide) (fun _ _ => rfl) (by rw [hR]; exact Nat.le_of_ble_eq_true rfl) (by rw [hR]; decide +kernel) dX5_copyFrom_12 (fun H locs hP hD hS => ?_)
  have hP : va_P D vwCl [(sa, kO 5 [.ref sa0, .ref sa1, .ref sa2, .int sa_size]), (sa0, kI k 8 (va_cpy sbf0 saf0 0 0 8)), (sa1, kI k 8 saf1), (sa2, kZ k 8 saf2), (sb, kO 5 [.ref sb0, .ref sb1, .ref sb2, .int sb_size]), (sb0, kI k 8 sbf0), (sb1, kI k 8 sbf1), (sb2, kZ k 8 (fun _ => 0))] H := hP
  have hD : va_D A [(sa, kO 5 [.ref sa0, .ref sa1, .ref sa2, .int sa_size]), (sa0, kI k 8 (va_cpy sbf0 saf0 0 0 8)), (sa1, kI k 8 saf1), (sa2, kZ k 8 saf2), (sb, kO 5 [.ref sb0, .ref sb1, .ref sb2, .int sb_size]), (sb0, kI k 8 sbf0), (sb1, kI k 8 sbf1), (sb2, kZ k 8 (fun _ => 0))] := hD
  refine lv_aload_n hx hb dX5_copyFrom_15 rfl (lv_at hl 1 rfl) ?_
  refine va_get (D := D) (ci := 5) (v := .ref sb1) (C := RX5) (T := TX5) (N := 4) hx hb hts hi5 hown hK hP 4 rfl rfl 1 (by decide) lf15 (fun _ h9 => h9) rfl dX5_copyFrom_16 ?_
  refine lv_iconst (v := 0) hx hb dX5_copyFrom_19 (by decide) ?_
  refine lv_aload_n hx hb dX5_copyFrom_20 rfl (lv_at hl 0 rfl) ?_
  refine va_get (D := D) (ci := 5) (v := .ref sa1) (C := RX5) (T := TX5) (N := 4) hx hb hts hi5 hown hK hP 0 rfl rfl 1 (by decide) lf15 (fun _ h9 => h9) rfl dX5_copyFrom_21 ?_
  refine lv_iconst (v := 0) hx hb dX5_copyFrom_24 (by decide) ?_
  refine lv_bipush (v := 8) hx hb dX5_copyFrom_25 (by decide) ?_
  refine va_copyi (ty := .int) hx hb (hml.trans hl.1.symm) hown lm26 lna lsa lia hK hP hD hS 6 2 0 0 rfl rfl rfl rfl rfl (by decide) (by decide) (by decide) (by decide) (by decide) (fun _ _ => rfl) (by rw [hR]; exact Nat.le_of_ble_eq_true rfl) (by rw [hR]; decide +kernel) dX5_copyFrom_27 (fun H locs hP hD hS => ?_)
  have hP : va_P D vwCl [(sa, kO 5 [.ref sa0, .ref sa1, .ref sa2, .int sa_size]), (sa0, kI k 8 (va_cpy sbf0 saf0 0 0 8)), (sa1, kI k 8 (va_cpy sbf1 saf1 0 0 8)), (sa2, kZ k 8 saf2), (sb, kO 5 [.ref sb0, .ref sb1, .ref sb2, .int sb_size]), (sb0, kI k 8 sbf0), (sb1, kI k 8 sbf1), (sb2, kZ k 8 (fun _ => 0))] H := hP
  have hD : va_D A [(sa, kO 5 [.ref sa0, .ref sa1, .ref sa2, .int sa_size]), (sa0, kI k 8 (va_cpy sbf0 saf0 0 0 8)), (sa1, kI k 8 (va_cpy sbf1 saf1 0 0 8)), (sa2, kZ k 8 saf2), (sb, kO 5 [.ref sb0, .ref sb1, .ref sb2, .int sb_size]), (sb0, kI k 8 sbf0), (sb1, kI k 8 sbf1), (sb2, kZ k 8 (fun _ => 0))] := hD
  refine lv_aload_n hx hb dX5_copyFrom_30 rfl (lv_at hl 1 rfl) ?_
  refine va_get (D := D) (ci := 5) (v := .ref sb2) (C := RX5) (T := TX5) (N := 4) hx hb hts hi5 hown hK hP 4 rfl rfl 2 (by decide) lf18 (fun _ h9 => h9) rfl dX5_copyFrom_31 ?_
  refine lv_iconst (v := 0) hx hb dX5_copyFrom_34 (by decide) ?_
  refine lv_aload_n hx hb dX5_copyFrom_35 rfl (lv_at hl 0 rfl) ?_
  refine va_get (D := D) (ci := 5) (v := .ref sa2) (C := RX5) (T := TX5) (N := 4) hx hb hts hi5 hown hK hP 0 rfl rfl 2 (by decide) lf18 (fun _ h9 => h9) rfl dX5_copyFrom_36 ?_
  refine lv_iconst (v := 0) hx hb dX5_copyFrom_39 (by decide) ?_
  refine lv_bipush (v := 8) hx hb dX5_copyFrom_40 (by decide) ?_
  refine va_copyi (ty := .boolean) hx hb (hml.trans hl.1.symm) hown lm26 lna lsa lia hK hP hD hS 7 3 3 3 rfl rfl rfl rfl rfl (by decide) (by decide) (by decide) (by decide) (by decide) (fun _ _ => rfl) (by rw [hR]; exact Nat.le_of_ble_eq_true rfl) (by rw [hR]; decide +kernel) dX5_copyFrom_42 (fun H locs hP hD hS => ?_)
  have hP : va_P D vwCl [(sa, kO 5 [.ref sa0, .ref sa1, .ref sa2, .int sa_size]), (sa0, kI k 8 (va_cpy sbf0 saf0 0 0 8)), (sa1, kI k 8 (va_cpy sbf1 saf1 0 0 8)), (sa2, kZ k 8 (va_cpy (fun _ => 0) saf2 0 0 8)), (sb, kO 5 [.ref sb0, .ref sb1, .ref sb2, .int sb_size]), (sb0, kI k 8 sbf0), (sb1, kI k 8 sbf1), (sb2, kZ k 8 (fun _ => 0))] H := hP
  have hD : va_D A [(sa, kO 5 [.ref sa0, .ref sa1, .ref sa2, .int sa_size]), (sa0, kI k 8 (va_cpy sbf0 saf0 0 0 8)), (sa1, kI k 8 (va_cpy sbf1 saf1 0 0 8)), (sa2, kZ k 8 (va_cpy (fun _ => 0) saf2 0 0 8)), (sb, kO 5 [.ref sb0, .ref sb1, .ref sb2, .int sb_size]), (sb0, kI k 8 sbf0), (sb1, kI k 8 sbf1), (sb2, kZ k 8 (fun _ => 0))] := hD
  refine lv_aload_n hx hb dX5_copyFrom_45 rfl (lv_at hl 0 rfl) ?_
  refine lv_aload_n hx hb dX5_copyFrom_46 rfl (lv_at hl 1 rfl) ?_
  refine va_get (D := D) (ci := 5) (v := .int sb_size) (C := RX5) (T := TX5) (N := 4) hx hb hts hi5 hown hK hP 4 rfl rfl 3 (by decide) lf22 (fun _ h9 => h9) rfl dX5_copyFrom_47 ?_
  refine va_put (D := D) (ci := 5) (v := .int sb_size) (ty := .int) (C := RX5) (T := TX5) (N := 4) hx hb hts hi5 tyX5 tyX5_ok nmX5 hown hK hP hD hS 0 rfl rfl 3 (by decide) lf22 (fun _ h9 => h9) rfl (by decide +kernel) rfl rfl (Nat.le_of_ble_eq_true rfl) dX5_copyFrom_50 (fun H locs hP hD hS => ?_)
  have hP : va_P D vwCl [(sa, kO 5 [.ref sa0, .ref sa1, .ref sa2, .int sb_size]), (sa0, kI k 8 (va_cpy sbf0 saf0 0 0 8)), (sa1, kI k 8 (va_cpy sbf1 saf1 0 0 8)), (sa2, kZ k 8 (va_cpy (fun _ => 0) saf2 0 0 8)), (sb, kO 5 [.ref sb0, .ref sb1, .ref sb2, .int sb_size]), (sb0, kI k 8 sbf0), (sb1, kI k 8 sbf1), (sb2, kZ k 8 (fun _ => 0))] H := hP
  have hD : va_D A [(sa, kO 5 [.ref sa0, .ref sa1, .ref sa2, .int sb_size]), (sa0, kI k 8 (va_cpy sbf0 saf0 0 0 8)), (sa1, kI k 8 (va_cpy sbf1 saf1 0 0 8)), (sa2, kZ k 8 (va_cpy (fun _ => 0) saf2 0 0 8)), (sb, kO 5 [.ref sb0, .ref sb1, .ref sb2, .int sb_size]), (sb0, kI k 8 sbf0), (sb1, kI k 8 sbf1), (sb2, kZ k 8 (fun _ => 0))] := hD
  rw [hQ]
  have hP9 := hP.sub (ws' := [(sa, kO 5 [.ref sa0, .ref sa1, .ref sa2, .int sb_size]), (sa0, kI k 8 (va_cpy sbf0 saf0 0 0 8)), (sa1, kI k 8 (va_cpy sbf1 saf1 0 0 8)), (sa2, kZ k 8 (va_cpy (fun _ => 0) saf2 0 0 8)), (sb, kO 5 [.ref sb0, .ref sb1, .ref sb2, .int sb_size]), (sb0, kI k 8 sbf0), (sb1, kI k 8 sbf1), (sb2, kZ k 8 (fun _ => 0))]) [0, 1, 2, 3, 4, 5, 6, 7] rfl
  have hD9 := hD.sub (ws' := [(sa, kO 5 [.ref sa0, .ref sa1, .ref sa2, .int sb_size]), (sa0, kI k 8 (va_cpy sbf0 saf0 0 0 8)), (sa1, kI k 8 (va_cpy sbf1 saf1 0 0 8)), (sa2, kZ k 8 (va_cpy (fun _ => 0) saf2 0 0 8)), (sb, kO 5 [.ref sb0, .ref sb1, .ref sb2, .int sb_size]), (sb0, kI k 8 sbf0), (sb1, kI k 8 sbf1), (sb2, kZ k 8 (fun _ => 0))]) [0, 1, 2, 3, 4, 5, 6, 7] (by decide) rfl
  exact W.vret hx hb hr (fun zt ht hW => ⟨⟨(), rfl, trivial, by rw [ht]; exact hP9, hD9⟩, hS.F ht⟩) hS.2.2 dX5_copyFrom_53
theorem dX8_mark_0 : decode cX8_mark 0 = .ok (.iload_n 1, 1) := by decide +kernel
theorem dX8_mark_1 : decode cX8_mark 1 = .ok (.iconst 0, 1) := by decide +kernel
theorem dX8_mark_2 : decode cX8_mark 2 = .ok (.aload_n 0, 1) := by decide +kernel
theorem dX8_mark_3 : decode cX8_mark 3 = .ok (.getfield 62, 3) := by decide +kernel
theorem dX8_mark_6 : decode cX8_mark 6 = .ok (.arraylength, 1) := by decide +kernel
theorem dX8_mark_7 : decode cX8_mark 7 = .ok (.iconst 1, 1) := by decide +kernel
theorem dX8_mark_8 : decode cX8_mark 8 = .ok (.isub, 1) := by decide +kernel
theorem dX8_mark_9 : decode cX8_mark 9 = .ok (.invokestatic 137, 3) := by decide +kernel
theorem dX8_mark_12 : decode cX8_mark 12 = .ok (.ifCond .ne 5, 3) := by decide +kernel
theorem dX8_mark_17 : decode cX8_mark 17 = .ok (.aload_n 0, 1) := by decide +kernel
theorem dX8_mark_18 : decode cX8_mark 18 = .ok (.getfield 62, 3) := by decide +kernel
theorem dX8_mark_21 : decode cX8_mark 21 = .ok (.iload_n 1, 1) := by decide +kernel
theorem dX8_mark_22 : decode cX8_mark 22 = .ok (.aaload, 1) := by decide +kernel
theorem dX8_mark_23 : decode cX8_mark 23 = .ok (.astore_n 3, 1) := by decide +kernel
theorem dX8_mark_24 : decode cX8_mark 24 = .ok (.iload_n 2, 1) := by decide +kernel
theorem dX8_mark_25 : decode cX8_mark 25 = .ok (.ifCond .ne 43, 3) := by decide +kernel
theorem dX8_mark_28 : decode cX8_mark 28 = .ok (.aload_n 3, 1) := by decide +kernel
theorem dX8_mark_29 : decode cX8_mark 29 = .ok (.getfield 282, 3) := by decide +kernel
theorem dX8_mark_32 : decode cX8_mark 32 = .ok (.aload_n 0, 1) := by decide +kernel
theorem dX8_mark_33 : decode cX8_mark 33 = .ok (.getfield 39, 3) := by decide +kernel
theorem dX8_mark_36 : decode cX8_mark 36 = .ok (.invokevirtual 179, 3) := by decide +kernel
theorem dX8_mark_39 : decode cX8_mark 39 = .ok (.aload_n 3, 1) := by decide +kernel
theorem dX8_mark_40 : decode cX8_mark 40 = .ok (.getfield 285, 3) := by decide +kernel
theorem dX8_mark_43 : decode cX8_mark 43 = .ok (.aload_n 0, 1) := by decide +kernel
theorem dX8_mark_44 : decode cX8_mark 44 = .ok (.getfield 29, 3) := by decide +kernel
theorem dX8_mark_47 : decode cX8_mark 47 = .ok (.invokevirtual 286, 3) := by decide +kernel
theorem dX8_mark_50 : decode cX8_mark 50 = .ok (.aload_n 3, 1) := by decide +kernel
theorem dX8_mark_51 : decode cX8_mark 51 = .ok (.getfield 289, 3) := by decide +kernel
theorem dX8_mark_54 : decode cX8_mark 54 = .ok (.aload_n 0, 1) := by decide +kernel
theorem dX8_mark_55 : decode cX8_mark 55 = .ok (.getfield 49, 3) := by decide +kernel
theorem dX8_mark_58 : decode cX8_mark 58 = .ok (.invokevirtual 290, 3) := by decide +kernel
theorem dX8_mark_61 : decode cX8_mark 61 = .ok (.aload_n 3, 1) := by decide +kernel
theorem dX8_mark_62 : decode cX8_mark 62 = .ok (.iconst 1, 1) := by decide +kernel
theorem dX8_mark_63 : decode cX8_mark 63 = .ok (.putfield 98, 3) := by decide +kernel
theorem dX8_mark_66 : decode cX8_mark 66 = .ok (.iconst 1, 1) := by decide +kernel
theorem dX8_mark_67 : decode cX8_mark 67 = .ok (.ireturn, 1) := by decide +kernel
theorem dX8_mark_68 : decode cX8_mark 68 = .ok (.aload_n 3, 1) := by decide +kernel
theorem dX8_mark_69 : decode cX8_mark 69 = .ok (.getfield 98, 3) := by decide +kernel
theorem dX8_mark_72 : decode cX8_mark 72 = .ok (.ifCond .ne 5, 3) := by decide +kernel
theorem dX8_mark_75 : decode cX8_mark 75 = .ok (.iconst 0, 1) := by decide +kernel
theorem dX8_mark_76 : decode cX8_mark 76 = .ok (.ireturn, 1) := by decide +kernel
set_option maxRecDepth 20000 in
theorem ggX8_mark_X8_isWithin : GoodIn wsX8_mark wsX8_isWithin := goodIn_r _ [13] rfl (by decide +kernel)
set_option maxRecDepth 20000 in
theorem gX8_mark_X8_isWithin : GoodIn wsX8_mark (va_wsS RX8 137 yX8_isWithin wsX8_isWithin) := goodIn_app (goodIn_of _ (by decide +kernel)) ggX8_mark_X8_isWithin
set_option maxRecDepth 20000 in
theorem ggX8_mark_X4_copyFrom : GoodIn wsX8_mark wsX4_copyFrom := goodIn_r _ [18, 19, 20, 21, 22, 23, 24, 25, 26, 27, 28, 29, 30, 31, 32, 33, 34, 76, 77, 78, 79, 80, 81, 82, 83, 84, 85, 86, 87, 88] rfl (by decide +kernel)
set_option maxRecDepth 20000 in
theorem gX8_mark_X4_copyFrom : GoodIn wsX8_mark (wsV RX8 179 RX4 yX4_copyFrom wsX4_copyFrom) := goodIn_app (goodIn_of _ (by decide +kernel)) ggX8_mark_X4_copyFrom
set_option maxRecDepth 20000 in
theorem ggX8_mark_X1_copyFrom : GoodIn wsX8_mark wsX1_copyFrom := goodIn_r _ [39, 40, 41, 21, 22, 23, 42, 43, 44, 89, 90, 91, 92] rfl (by decide +kernel)
set_option maxRecDepth 20000 in
theorem gX8_mark_X1_copyFrom : GoodIn wsX8_mark (wsV RX8 286 RX1 yX1_copyFrom wsX1_copyFrom) := goodIn_app (goodIn_of _ (by decide +kernel)) ggX8_mark_X1_copyFrom
set_option maxRecDepth 20000 in
theorem ggX8_mark_X5_copyFrom : GoodIn wsX8_mark wsX5_copyFrom := goodIn_r _ [49, 50, 51, 21, 22, 23, 52, 53, 54, 93, 94, 95, 96] rfl (by decide +kernel)
set_option maxRecDepth 20000 in
theorem gX8_mark_X5_copyFrom : GoodIn wsX8_mark (wsV RX8 290 RX5 yX5_copyFrom wsX5_copyFrom) := goodIn_app (goodIn_of _ (by decide +kernel)) ggX8_mark_X5_copyFrom
set_option maxHeartbeats 4000000 in
set_option maxRecDepth 100000 in
theorem mX8_mark (l : Launch) (D : va_G) (k : Nat → ClassId) (sz : Nat) (x : Nat) (q1 : Int32) (q2 : Int32) (x_tape : Value) (x_told : Value) (x_draft : Value) (li : Nat) (x_draftLines : Value) (nw : Nat) (x_trial : Value) (sg : Nat) (x_past : Value) (mk : Nat) (x_drawn : Int64) (mf : Nat → Option Nat) (mm : Nat) (mr : Nat) (ml : Nat) (ms : Nat) (mr0 : Nat) (mr1 : Nat) (mr2 : Nat) (mr3 : Nat) (mr4 : Nat) (mr5 : Nat) (mr6 : Nat) (mr_inside : Int32) (mr_night : Int32) (mr_minute : Int32) (mr_tasted : Int32) (mr_lastCook : Int32) (mr_stirred : Int32) (mrf0 : Nat → Int32) (mrf1 : Nat → Int32) (mrf2 : Nat → Int32) (mrf3 : Nat → Int32) (mrf4 : Nat → Int32) (mrf5 : Nat → Int32) (mrf6 : Nat → Int32) (ml0 : Nat) (ml1 : Nat) (ml2 : Nat) (ml_size : Int32) (mlf0 : Nat → Int32) (mlf1 : Nat → Int32) (mlf2 : Nat → Int32) (ms0 : Nat) (ms1 : Nat) (ms2 : Nat) (ms_size : Int32) (msf0 : Nat → Int32) (msf1 : Nat → Int32) (msf2 : Nat → Int32) (nw0 : Nat) (nw1 : Nat) (nw2 : Nat) (nw3 : Nat) (nw4 : Nat) (nw5 : Nat) (nw6 : Nat) (nw_inside : Int32) (nw_night : Int32) (nw_minute : Int32) (nw_tasted : Int32) (nw_lastCook : Int32) (nw_stirred : Int32) (nwf0 : Nat → Int32) (nwf1 : Nat → Int32) (nwf2 : Nat → Int32) (nwf3 : Nat → Int32) (nwf4 : Nat → Int32) (nwf5 : Nat → Int32) (nwf6 : Nat → Int32) (li0 : Nat) (li1 : Nat) (li2 : Nat) (li_size : Int32) (lif0 : Nat → Int32) (lif1 : Nat → Int32) (lif2 : Nat → Int32) (sg0 : Nat) (sg1 : Nat) (sg2 : Nat) (sg_size : Int32) (sgf0 : Nat → Int32) (sgf1 : Nat → Int32) (hq : 0 ≤ q1 ∧ q1 ≤ 3) (hmf : mf (Int32.toNatClampNeg q1) = some mm) : Met l yX8_mark wsX8_mark ({ frames := 2, cells := 0, slots := 0, locals := 140 }) (va_Pc [.ref x, .int q1, .int q2] (kz_Pre D k [(x, kO 8 [x_tape, x_told, x_draft, .ref li, x_draftLines, .ref nw, x_trial, .ref sg, x_past, .ref mk, .long x_drawn]), (mk, kM k 4 mf), (mm, kO 2 [.ref mr, .ref ml, .ref ms, .int 0]), (mr, kO 4 [.ref mr0, .ref mr1, .ref mr2, .ref mr3, .ref mr4, .ref mr5, .ref mr6, .int mr_inside, .int mr_night, .int mr_minute, .int mr_tasted, .int mr_lastCook, .int mr_stirred]), (mr0, kI k 6 mrf0), (mr1, kI k 6 mrf1), (mr2, kI k 6 mrf2), (mr3, kI k 6 mrf3), (mr4, kI k 6 mrf4), (mr5, kI k 6 mrf5), (mr6, kI k 6 mrf6), (ml, kO 1 [.ref ml0, .ref ml1, .ref ml2, .int ml_size]), (ml0, kI k 40 mlf0), (ml1, kI k 40 mlf1), (ml2, kI k 40 mlf2), (ms, kO 5 [.ref ms0, .ref ms1, .ref ms2, .int ms_size]), (ms0, kI k 8 msf0), (ms1, kI k 8 msf1), (ms2, kZ k 8 msf2), (nw, kO 4 [.ref nw0, .ref nw1, .ref nw2, .ref nw3, .ref nw4, .ref nw5, .ref nw6, .int nw_inside, .int nw_night, .int nw_minute, .int nw_tasted, .int nw_lastCook, .int nw_stirred]), (nw0, kI k 6 nwf0), (nw1, kI k 6 nwf1), (nw2, kI k 6 nwf2), (nw3, kI k 6 nwf3), (nw4, kI k 6 nwf4), (nw5, kI k 6 nwf5), (nw6, kI k 6 nwf6), (li, kO 1 [.ref li0, .ref li1, .ref li2, .int li_size]), (li0, kI k 40 lif0), (li1, kI k 40 lif1), (li2, kI k 40 lif2), (sg, kO 5 [.ref sg0, .ref sg1, .ref sg2, .int sg_size]), (sg0, kI k 8 sgf0), (sg1, kI k 8 sgf1), (sg2, kZ k 8 (fun _ => 0))] sz)) (va_Qi (fun (rr : Int32) (uu : Unit) => rr = bz (q2 = 0)) (fun uu zt => kz_B D (va_A [(x, kO 8 [x_tape, x_told, x_draft, .ref li, x_draftLines, .ref nw, x_trial, .ref sg, x_past, .ref mk, .long x_drawn]), (mk, kM k 4 mf), (mm, kO 2 [.ref mr, .ref ml, .ref ms, .int 0]), (mr, kO 4 [.ref mr0, .ref mr1, .ref mr2, .ref mr3, .ref mr4, .ref mr5, .ref mr6, .int mr_inside, .int mr_night, .int mr_minute, .int mr_tasted, .int mr_lastCook, .int mr_stirred]), (mr0, kI k 6 mrf0), (mr1, kI k 6 mrf1), (mr2, kI k 6 mrf2), (mr3, kI k 6 mrf3), (mr4, kI k 6 mrf4), (mr5, kI k 6 mrf5), (mr6, kI k 6 mrf6), (ml, kO 1 [.ref ml0, .ref ml1, .ref ml2, .int ml_size]), (ml0, kI k 40 mlf0), (ml1, kI k 40 mlf1), (ml2, kI k 40 mlf2), (ms, kO 5 [.ref ms0, .ref ms1, .ref ms2, .int ms_size]), (ms0, kI k 8 msf0), (ms1, kI k 8 msf1), (ms2, kZ k 8 msf2), (nw, kO 4 [.ref nw0, .ref nw1, .ref nw2, .ref nw3, .ref nw4, .ref nw5, .ref nw6, .int nw_inside, .int nw_night, .int nw_minute, .int nw_tasted, .int nw_lastCook, .int nw_stirred]), (nw0, kI k 6 nwf0), (nw1, kI k 6 nwf1), (nw2, kI k 6 nwf2), (nw3, kI k 6 nwf3), (nw4, kI k 6 nwf4), (nw5, kI k 6 nwf5), (nw6, kI k 6 nwf6), (li, kO 1 [.ref li0, .ref li1, .ref li2, .int li_size]), (li0, kI k 40 lif0), (li1, kI k 40 lif1), (li2, kI k 40 lif2), (sg, kO 5 [.ref sg0, .ref sg1, .ref sg2, .int sg_size]), (sg0, kI k 8 sgf0), (sg1, kI k 8 sgf1), (sg2, kZ k 8 (fun _ => 0))] sz) [] zt) (va_A [(x, kO 8 [x_tape, x_told, x_draft, .ref li, x_draftLines, .ref nw, x_trial, .ref sg, x_past, .ref mk, .long x_drawn]), (mk, kM k 4 mf), (mm, kO 2 [.ref mr, .ref ml, .ref ms, .int 0]), (mr, kO 4 [.ref mr0, .ref mr1, .ref mr2, .ref mr3, .ref mr4, .ref mr5, .ref mr6, .int mr_inside, .int mr_night, .int mr_minute, .int mr_tasted, .int mr_lastCook, .int mr_stirred]), (mr0, kI k 6 mrf0), (mr1, kI k 6 mrf1), (mr2, kI k 6 mrf2), (mr3, kI k 6 mrf3), (mr4, kI k 6 mrf4), (mr5, kI k 6 mrf5), (mr6, kI k 6 mrf6), (ml, kO 1 [.ref ml0, .ref ml1, .ref ml2, .int ml_size]), (ml0, kI k 40 mlf0), (ml1, kI k 40 mlf1), (ml2, kI k 40 mlf2), (ms, kO 5 [.ref ms0, .ref ms1, .ref ms2, .int ms_size]), (ms0, kI k 8 msf0), (ms1, kI k 8 msf1), (ms2, kZ k 8 msf2), (nw, kO 4 [.ref nw0, .ref nw1, .ref nw2, .ref nw3, .ref nw4, .ref nw5, .ref nw6, .int nw_inside, .int nw_night, .int nw_minute, .int nw_tasted, .int nw_lastCook, .int nw_stirred]), (nw0, kI k 6 nwf0), (nw1, kI k 6 nwf1), (nw2, kI k 6 nwf2), (nw3, kI k 6 nwf3), (nw4, kI k 6 nwf4), (nw5, kI k 6 nwf5), (nw6, kI k 6 nwf6), (li, kO 1 [.ref li0, .ref li1, .ref li2, .int li_size]), (li0, kI k 40 lif0), (li1, kI k 40 lif1), (li2, kI k 40 lif2), (sg, kO 5 [.ref sg0, .ref sg1, .ref sg2, .int sg_size]), (sg0, kI k 8 sgf0), (sg1, kI k 8 sgf1), (sg2, kZ k 8 (fun _ => 0))] sz)) 0 0 (va_A [(x, kO 8 [x_tape, x_told, x_draft, .ref li, x_draftLines, .ref nw, x_trial, .ref sg, x_past, .ref mk, .long x_drawn]), (mk, kM k 4 mf), (mm, kO 2 [.ref mr, .ref ml, .ref ms, .int 0]), (mr, kO 4 [.ref mr0, .ref mr1, .ref mr2, .ref mr3, .ref mr4, .ref mr5, .ref mr6, .int mr_inside, .int mr_night, .int mr_minute, .int mr_tasted, .int mr_lastCook, .int mr_stirred]), (mr0, kI k 6 mrf0), (mr1, kI k 6 mrf1), (mr2, kI k 6 mrf2), (mr3, kI k 6 mrf3), (mr4, kI k 6 mrf4), (mr5, kI k 6 mrf5), (mr6, kI k 6 mrf6), (ml, kO 1 [.ref ml0, .ref ml1, .ref ml2, .int ml_size]), (ml0, kI k 40 mlf0), (ml1, kI k 40 mlf1), (ml2, kI k 40 mlf2), (ms, kO 5 [.ref ms0, .ref ms1, .ref ms2, .int ms_size]), (ms0, kI k 8 msf0), (ms1, kI k 8 msf1), (ms2, kZ k 8 msf2), (nw, kO 4 [.ref nw0, .ref nw1, .ref nw2, .ref nw3, .ref nw4, .ref nw5, .ref nw6, .int nw_inside, .int nw_night, .int nw_minute, .int nw_tasted, .int nw_lastCook, .int nw_stirred]), (nw0, kI k 6 nwf0), (nw1, kI k 6 nwf1), (nw2, kI k 6 nwf2), (nw3, kI k 6 nwf3), (nw4, kI k 6 nwf4), (nw5, kI k 6 nwf5), (nw6, kI k 6 nwf6), (li, kO 1 [.ref li0, .ref li1, .ref li2, .int li_size]), (li0, kI k 40 lif0), (li1, kI k 40 lif1), (li2, kI k 40 lif2), (sg, kO 5 [.ref sg0, .ref sg1, .ref sg2, .int sg_size]), (sg0, kI k 8 sgf0), (sg1, kI k 8 sgf1), (sg2, kZ k 8 (fun _ => 0))] sz) := by
  refine Met.ofW (cc := cX8_mark) (maxL := 4) (ret := (some .boolean)) (by decide) rfl ?_
  intro p e s m args below meth c s₁ B hml hv
  obtain ⟨hav, hsz, hP, hK, hD0, hE⟩ := hv
  have hx := B.exec
  have hb := B.bytes
  have hr := B.returns
  have hts := atoms_spec (ws := wsX8_mark) B.pre
  have hown : s.vm.findClass RX8 = some m.cls := findClass_of_methodNamed B.named
  have hlocks := B.notSynchronized
  have hi2 : ∀ w ∈ u_ws RX2 TX2 4, w ∈ wsX8_mark := by decide +kernel
  have hi8 : ∀ w ∈ u_ws RX8 TX8 11, w ∈ wsX8_mark := by decide +kernel
  have lf62 := hts (.fieldLink RX8 62 "LastCook" "marks" "[LLastCook$Mark;") (by decide +kernel)
  have lf98 := hts (.fieldLink RX8 98 "LastCook$Mark" "laid" "Z") (by decide +kernel)
  have lf282 := hts (.fieldLink RX8 282 "LastCook$Mark" "road" "LLastCook$Road;") (by decide +kernel)
  have lf39 := hts (.fieldLink RX8 39 "LastCook" "now" "LLastCook$Road;") (by decide +kernel)
  have lf285 := hts (.fieldLink RX8 285 "LastCook$Mark" "lines" "LLastCook$Lines;") (by decide +kernel)
  have lf29 := hts (.fieldLink RX8 29 "LastCook" "lines" "LLastCook$Lines;") (by decide +kernel)
  have lf289 := hts (.fieldLink RX8 289 "LastCook$Mark" "sights" "LLastCook$Sights;") (by decide +kernel)
  have lf49 := hts (.fieldLink RX8 49 "LastCook" "sights" "LLastCook$Sights;") (by decide +kernel)
  subst hsz
  have hD := hD0.self (sz := s.heap.size)
  generalize hAe : va_A [(x, kO 8 [x_tape, x_told, x_draft, .ref li, x_draftLines, .ref nw, x_trial, .ref sg, x_past, .ref mk, .long x_drawn]), (mk, kM k 4 mf), (mm, kO 2 [.ref mr, .ref ml, .ref ms, .int 0]), (mr, kO 4 [.ref mr0, .ref mr1, .ref mr2, .ref mr3, .ref mr4, .ref mr5, .ref mr6, .int mr_inside, .int mr_night, .int mr_minute, .int mr_tasted, .int mr_lastCook, .int mr_stirred]), (mr0, kI k 6 mrf0), (mr1, kI k 6 mrf1), (mr2, kI k 6 mrf2), (mr3, kI k 6 mrf3), (mr4, kI k 6 mrf4), (mr5, kI k 6 mrf5), (mr6, kI k 6 mrf6), (ml, kO 1 [.ref ml0, .ref ml1, .ref ml2, .int ml_size]), (ml0, kI k 40 mlf0), (ml1, kI k 40 mlf1), (ml2, kI k 40 mlf2), (ms, kO 5 [.ref ms0, .ref ms1, .ref ms2, .int ms_size]), (ms0, kI k 8 msf0), (ms1, kI k 8 msf1), (ms2, kZ k 8 msf2), (nw, kO 4 [.ref nw0, .ref nw1, .ref nw2, .ref nw3, .ref nw4, .ref nw5, .ref nw6, .int nw_inside, .int nw_night, .int nw_minute, .int nw_tasted, .int nw_lastCook, .int nw_stirred]), (nw0, kI k 6 nwf0), (nw1, kI k 6 nwf1), (nw2, kI k 6 nwf2), (nw3, kI k 6 nwf3), (nw4, kI k 6 nwf4), (nw5, kI k 6 nwf5), (nw6, kI k 6 nwf6), (li, kO 1 [.ref li0, .ref li1, .ref li2, .int li_size]), (li0, kI k 40 lif0), (li1, kI k 40 lif1), (li2, kI k 40 lif2), (sg, kO 5 [.ref sg0, .ref sg1, .ref sg2, .int sg_size]), (sg0, kI k 8 sgf0), (sg1, kI k 8 sgf1), (sg2, kZ k 8 (fun _ => 0))] s.heap.size = A at hD ⊢
  have hA : ∀ q : Nat, s.heap.size ≤ q → A q := fun q h => by rw [← hAe]; exact Or.inr h
  have hS : va_S A s.heap s.heap [] := va_S.rf
  have hl := lv_entry ([.ref x, .int q1, .int q2]) (n := 4) (Nat.le_of_ble_eq_true rfl)
  rw [show entryFrame m args 4 = entryFrame m ([.ref x, .int q1, .int q2] : List Value).toArray 4 by rw [hav], lg_entry_eq]
  generalize (lg_sl ([.ref x, .int q1, .int q2]) ++ List.replicate (4 - (lg_sl ([.ref x, .int q1, .int q2])).length) Slot.unset).toArray = ls at hl ⊢
  have hl : lv_has ls 4 [(0, .ref x), (1, .int q1), (2, .int q2)] := hl
  obtain ⟨R, hR⟩ : ∃ R, R = (headSpec wsX8_mark ({ frames := 2, cells := 0, slots := 0, locals := 140 } : Room)).room := ⟨_, rfl⟩
  rw [← hR]
  generalize hQ : MQ below _ args s 0 0 A = Q
  replace hQ := hQ.symm
  obtain ⟨H, hH⟩ : ∃ H, H = s.heap := ⟨_, rfl⟩
  rw [← hH] at hP ⊢
  have hS : va_S A s.heap H [] := by rw [hH]; exact hS
  refine lv_iload_n hx hb dX8_mark_0 rfl (lv_at hl 1 rfl) ?_
  refine lv_iconst (v := 0) hx hb dX8_mark_1 (by decide) ?_
  refine lv_aload_n hx hb dX8_mark_2 rfl (lv_at hl 0 rfl) ?_
  refine va_get (D := D) (ci := 8) (v := .ref mk) (C := RX8) (T := TX8) (N := 11) hx hb hts hi8 hown hK hP 0 rfl rfl 9 (by decide) lf62 (fun _ h9 => h9) rfl dX8_mark_3 ?_
  refine va_alen (v := 4) hx hb hK hP 1 4 rfl rfl rfl dX8_mark_6 ?_
  refine lv_iconst (v := 1) hx hb dX8_mark_7 (by decide) ?_
  refine lv_isub hx hb dX8_mark_8 ?_
  refine lv_topi (fun x1 ex1 => ?_)
  obtain rfl : x1 = 3 := ex1.trans (by decide)
  refine kz_Si (As := [.int q1, .int 0, .int 3]) (rest := []) (wc := []) (wr := [(x, kO 8 [x_tape, x_told, x_draft, .ref li, x_draftLines, .ref nw, x_trial, .ref sg, x_past, .ref mk, .long x_drawn]), (mk, kM k 4 mf), (mm, kO 2 [.ref mr, .ref ml, .ref ms, .int 0]), (mr, kO 4 [.ref mr0, .ref mr1, .ref mr2, .ref mr3, .ref mr4, .ref mr5, .ref mr6, .int mr_inside, .int mr_night, .int mr_minute, .int mr_tasted, .int mr_lastCook, .int mr_stirred]), (mr0, kI k 6 mrf0), (mr1, kI k 6 mrf1), (mr2, kI k 6 mrf2), (mr3, kI k 6 mrf3), (mr4, kI k 6 mrf4), (mr5, kI k 6 mrf5), (mr6, kI k 6 mrf6), (ml, kO 1 [.ref ml0, .ref ml1, .ref ml2, .int ml_size]), (ml0, kI k 40 mlf0), (ml1, kI k 40 mlf1), (ml2, kI k 40 mlf2), (ms, kO 5 [.ref ms0, .ref ms1, .ref ms2, .int ms_size]), (ms0, kI k 8 msf0), (ms1, kI k 8 msf1), (ms2, kZ k 8 msf2), (nw, kO 4 [.ref nw0, .ref nw1, .ref nw2, .ref nw3, .ref nw4, .ref nw5, .ref nw6, .int nw_inside, .int nw_night, .int nw_minute, .int nw_tasted, .int nw_lastCook, .int nw_stirred]), (nw0, kI k 6 nwf0), (nw1, kI k 6 nwf1), (nw2, kI k 6 nwf2), (nw3, kI k 6 nwf3), (nw4, kI k 6 nwf4), (nw5, kI k 6 nwf5), (nw6, kI k 6 nwf6), (li, kO 1 [.ref li0, .ref li1, .ref li2, .int li_size]), (li0, kI k 40 lif0), (li1, kI k 40 lif1), (li2, kI k 40 lif2), (sg, kO 5 [.ref sg0, .ref sg1, .ref sg2, .int sg_size]), (sg0, kI k 8 sgf0), (sg1, kI k 8 sgf1), (sg2, kZ k 8 (fun _ => 0))]) ⟨hx, hb, hml, hown, hts⟩ hK hE hP hD hS hA (mX8_isWithin l D k H.size q1 0 3) (va_cwS 3 hts gX8_mark_X8_isWithin rfl rfl rfl (by decide +kernel) (by rw [hR]; exact ⟨Nat.le_of_ble_eq_true rfl, Nat.le_of_ble_eq_true rfl⟩)) [] [0, 1, 2, 3, 4, 5, 6, 7, 8, 9, 10, 11, 12, 13, 14, 15, 16, 17, 18, 19, 20, 21, 22, 23, 24, 25, 26, 27, 28, 29, 30, 31, 32, 33, 34] rfl rfl (by decide) (by decide) (by decide) rfl hl.1 rfl (Nat.le_of_ble_eq_true rfl) dX8_mark_9 (by rw [hR]; exact ⟨Nat.le_of_ble_eq_true rfl, Nat.le_of_ble_eq_true rfl⟩) (fun r2 u2 H locs hw2 hP hD hS => ?_)
  try dsimp only at hw2
  obtain rfl : r2 = bz (0 ≤ q1 ∧ q1 ≤ 3) := hw2
  have hP : va_P D vwCl [(x, kO 8 [x_tape, x_told, x_draft, .ref li, x_draftLines, .ref nw, x_trial, .ref sg, x_past, .ref mk, .long x_drawn]), (mk, kM k 4 mf), (mm, kO 2 [.ref mr, .ref ml, .ref ms, .int 0]), (mr, kO 4 [.ref mr0, .ref mr1, .ref mr2, .ref mr3, .ref mr4, .ref mr5, .ref mr6, .int mr_inside, .int mr_night, .int mr_minute, .int mr_tasted, .int mr_lastCook, .int mr_stirred]), (mr0, kI k 6 mrf0), (mr1, kI k 6 mrf1), (mr2, kI k 6 mrf2), (mr3, kI k 6 mrf3), (mr4, kI k 6 mrf4), (mr5, kI k 6 mrf5), (mr6, kI k 6 mrf6), (ml, kO 1 [.ref ml0, .ref ml1, .ref ml2, .int ml_size]), (ml0, kI k 40 mlf0), (ml1, kI k 40 mlf1), (ml2, kI k 40 mlf2), (ms, kO 5 [.ref ms0, .ref ms1, .ref ms2, .int ms_size]), (ms0, kI k 8 msf0), (ms1, kI k 8 msf1), (ms2, kZ k 8 msf2), (nw, kO 4 [.ref nw0, .ref nw1, .ref nw2, .ref nw3, .ref nw4, .ref nw5, .ref nw6, .int nw_inside, .int nw_night, .int nw_minute, .int nw_tasted, .int nw_lastCook, .int nw_stirred]), (nw0, kI k 6 nwf0), (nw1, kI k 6 nwf1), (nw2, kI k 6 nwf2), (nw3, kI k 6 nwf3), (nw4, kI k 6 nwf4), (nw5, kI k 6 nwf5), (nw6, kI k 6 nwf6), (li, kO 1 [.ref li0, .ref li1, .ref li2, .int li_size]), (li0, kI k 40 lif0), (li1, kI k 40 lif1), (li2, kI k 40 lif2), (sg, kO 5 [.ref sg0, .ref sg1, .ref sg2, .int sg_size]), (sg0, kI k 8 sgf0), (sg1, kI k 8 sgf1), (sg2, kZ k 8 (fun _ => 0))] H := hP
  have hD : va_D A [(x, kO 8 [x_tape, x_told, x_draft, .ref li, x_draftLines, .ref nw, x_trial, .ref sg, x_past, .ref mk, .long x_drawn]), (mk, kM k 4 mf), (mm, kO 2 [.ref mr, .ref ml, .ref ms, .int 0]), (mr, kO 4 [.ref mr0, .ref mr1, .ref mr2, .ref mr3, .ref mr4, .ref mr5, .ref mr6, .int mr_inside, .int mr_night, .int mr_minute, .int mr_tasted, .int mr_lastCook, .int mr_stirred]), (mr0, kI k 6 mrf0), (mr1, kI k 6 mrf1), (mr2, kI k 6 mrf2), (mr3, kI k 6 mrf3), (mr4, kI k 6 mrf4), (mr5, kI k 6 mrf5), (mr6, kI k 6 mrf6), (ml, kO 1 [.ref ml0, .ref ml1, .ref ml2, .int ml_size]), (ml0, kI k 40 mlf0), (ml1, kI k 40 mlf1), (ml2, kI k 40 mlf2), (ms, kO 5 [.ref ms0, .ref ms1, .ref ms2, .int ms_size]), (ms0, kI k 8 msf0), (ms1, kI k 8 msf1), (ms2, kZ k 8 msf2), (nw, kO 4 [.ref nw0, .ref nw1, .ref nw2, .ref nw3, .ref nw4, .ref nw5, .ref nw6, .int nw_inside, .int nw_night, .int nw_minute, .int nw_tasted, .int nw_lastCook, .int nw_stirred]), (nw0, kI k 6 nwf0), (nw1, kI k 6 nwf1), (nw2, kI k 6 nwf2), (nw3, kI k 6 nwf3), (nw4, kI k 6 nwf4), (nw5, kI k 6 nwf5), (nw6, kI k 6 nwf6), (li, kO 1 [.ref li0, .ref li1, .ref li2, .int li_size]), (li0, kI k 40 lif0), (li1, kI k 40 lif1), (li2, kI k 40 lif2), (sg, kO 5 [.ref sg0, .ref sg1, .ref sg2, .int sg_size]), (sg0, kI k 8 sgf0), (sg1, kI k 8 sgf1), (sg2, kZ k 8 (fun _ => 0))] := hD
  refine lv_if_ne (tgt := 17) hx hb dX8_mark_12 (by decide) (fun c_3 => ?_) (fun c_3 => absurd c_3 (by rw [bz_t hq]; decide))
  refine lv_aload_n hx hb dX8_mark_17 rfl (lv_at hl 0 rfl) ?_
  refine va_get (D := D) (ci := 8) (v := .ref mk) (C := RX8) (T := TX8) (N := 11) hx hb hts hi8 hown hK hP 0 rfl rfl 9 (by decide) lf62 (fun _ h9 => h9) rfl dX8_mark_18 ?_
  refine lv_iload_n hx hb dX8_mark_21 rfl (lv_at hl 1 rfl) ?_
  refine va_aldq hx hb hK hP 1 4 rfl rfl (vp_bt hq (by decide)) dX8_mark_22 ?_
  refine kz_top (w := .ref mm) (by rw [hmf]; rfl) ?_
  refine lv_astore_n (lv' := [(3, .ref mm), (0, .ref x), (1, .int q1), (2, .int q2)]) hx hb dX8_mark_23 rfl hl (by decide) rfl (fun ls hl => ?_)
  refine lv_iload_n hx hb dX8_mark_24 rfl (lv_at hl 3 rfl) ?_
  refine lv_if_ne (tgt := 68) hx hb dX8_mark_25 (by decide) (fun c_5 => ?_) (fun c_5 => ?_)
  · skip
    refine lv_aload_n hx hb dX8_mark_68 rfl (lv_at hl 0 rfl) ?_
    refine va_get (D := D) (ci := 2) (v := .int 0) (C := RX2) (T := TX2) (N := 4) hx hb hts hi2 hown hK hP 2 rfl rfl 3 (by decide) lf98 (fun _ h9 => h9) rfl dX8_mark_69 ?_
    refine lv_if_ne (tgt := 77) hx hb dX8_mark_72 (by decide) (fun c_6 => absurd (by decide) c_6) (fun c_6 => ?_)
    refine lv_iconst (v := 0) hx hb dX8_mark_75 (by decide) ?_
    rw [hQ]
    have hP9 := hP.sub (ws' := []) [] rfl
    have hD9 := hD.sub (ws' := []) [] (by decide) rfl
    exact W.zret (v := 0) hx hb hr rfl (fun zt ht hW => ⟨⟨0, (), rfl, (bz_f c_5).symm, by rw [ht]; exact hP9, hD9⟩, hS.F ht⟩) hS.2.2 dX8_mark_76
  · skip
    refine lv_aload_n hx hb dX8_mark_28 rfl (lv_at hl 0 rfl) ?_
    refine va_get (D := D) (ci := 2) (v := .ref mr) (C := RX2) (T := TX2) (N := 4) hx hb hts hi2 hown hK hP 2 rfl rfl 0 (by decide) lf282 (fun _ h9 => h9) rfl dX8_mark_29 ?_
    refine lv_aload_n hx hb dX8_mark_32 rfl (lv_at hl 1 rfl) ?_
    refine va_get (D := D) (ci := 8) (v := .ref nw) (C := RX8) (T := TX8) (N := 11) hx hb hts hi8 hown hK hP 0 rfl rfl 5 (by decide) lf39 (fun _ h9 => h9) rfl dX8_mark_33 ?_
    refine kz_Vv (As := [.ref nw]) (rest := []) (wc := [(mr, kO 4 [.ref mr0, .ref mr1, .ref mr2, .ref mr3, .ref mr4, .ref mr5, .ref mr6, .int mr_inside, .int mr_night, .int mr_minute, .int mr_tasted, .int mr_lastCook, .int mr_stirred]), (mr0, kI k 6 mrf0), (mr1, kI k 6 mrf1), (mr2, kI k 6 mrf2), (mr3, kI k 6 mrf3), (mr4, kI k 6 mrf4), (mr5, kI k 6 mrf5), (mr6, kI k 6 mrf6), (nw, kO 4 [.ref nw0, .ref nw1, .ref nw2, .ref nw3, .ref nw4, .ref nw5, .ref nw6, .int nw_inside, .int nw_night, .int nw_minute, .int nw_tasted, .int nw_lastCook, .int nw_stirred]), (nw0, kI k 6 nwf0), (nw1, kI k 6 nwf1), (nw2, kI k 6 nwf2), (nw3, kI k 6 nwf3), (nw4, kI k 6 nwf4), (nw5, kI k 6 nwf5), (nw6, kI k 6 nwf6)]) (wr := [(x, kO 8 [x_tape, x_told, x_draft, .ref li, x_draftLines, .ref nw, x_trial, .ref sg, x_past, .ref mk, .long x_drawn]), (mk, kM k 4 mf), (mm, kO 2 [.ref mr, .ref ml, .ref ms, .int 0]), (ml, kO 1 [.ref ml0, .ref ml1, .ref ml2, .int ml_size]), (ml0, kI k 40 mlf0), (ml1, kI k 40 mlf1), (ml2, kI k 40 mlf2), (ms, kO 5 [.ref ms0, .ref ms1, .ref ms2, .int ms_size]), (ms0, kI k 8 msf0), (ms1, kI k 8 msf1), (ms2, kZ k 8 msf2), (li, kO 1 [.ref li0, .ref li1, .ref li2, .int li_size]), (li0, kI k 40 lif0), (li1, kI k 40 lif1), (li2, kI k 40 lif2), (sg, kO 5 [.ref sg0, .ref sg1, .ref sg2, .int sg_size]), (sg0, kI k 8 sgf0), (sg1, kI k 8 sgf1), (sg2, kZ k 8 (fun _ => 0))]) ⟨hx, hb, hml, hown, hts⟩ hK hE hP hD hS hA (mX4_copyFrom l D k H.size mr nw mr0 mr1 mr2 mr3 mr4 mr5 mr6 mr_inside mr_night mr_minute mr_tasted mr_lastCook mr_stirred mrf0 mrf1 mrf2 mrf3 mrf4 mrf5 mrf6 nw0 nw1 nw2 nw3 nw4 nw5 nw6 nw_inside nw_night nw_minute nw_tasted nw_lastCook nw_stirred nwf0 nwf1 nwf2 nwf3 nwf4 nwf5 nwf6) (cwV 1 hts gX8_mark_X4_copyFrom rfl rfl rfl (by decide +kernel) (by rw [hR]; exact ⟨Nat.le_of_ble_eq_true rfl, Nat.le_of_ble_eq_true rfl⟩)) [3, 4, 5, 6, 7, 8, 9, 10, 19, 20, 21, 22, 23, 24, 25, 26] [0, 1, 2, 11, 12, 13, 14, 15, 16, 17, 18, 27, 28, 29, 30, 31, 32, 33, 34] rfl rfl (by decide) (by decide) (by decide) 0 rfl rfl rfl hl.1 rfl (Nat.le_of_ble_eq_true rfl) dX8_mark_36 (by rw [hR]; exact ⟨Nat.le_of_ble_eq_true rfl, Nat.le_of_ble_eq_true rfl⟩) (fun u7 H locs hw7 hP hD hS => ?_)
    have hP : va_P D vwCl [(x, kO 8 [x_tape, x_told, x_draft, .ref li, x_draftLines, .ref nw, x_trial, .ref sg, x_past, .ref mk, .long x_drawn]), (mk, kM k 4 mf), (mm, kO 2 [.ref mr, .ref ml, .ref ms, .int 0]), (ml, kO 1 [.ref ml0, .ref ml1, .ref ml2, .int ml_size]), (ml0, kI k 40 mlf0), (ml1, kI k 40 mlf1), (ml2, kI k 40 mlf2), (ms, kO 5 [.ref ms0, .ref ms1, .ref ms2, .int ms_size]), (ms0, kI k 8 msf0), (ms1, kI k 8 msf1), (ms2, kZ k 8 msf2), (li, kO 1 [.ref li0, .ref li1, .ref li2, .int li_size]), (li0, kI k 40 lif0), (li1, kI k 40 lif1), (li2, kI k 40 lif2), (sg, kO 5 [.ref sg0, .ref sg1, .ref sg2, .int sg_size]), (sg0, kI k 8 sgf0), (sg1, kI k 8 sgf1), (sg2, kZ k 8 (fun _ => 0)), (mr, kO 4 [.ref mr0, .ref mr1, .ref mr2, .ref mr3, .ref mr4, .ref mr5, .ref mr6, .int nw_inside, .int nw_night, .int nw_minute, .int nw_tasted, .int nw_lastCook, .int mr_stirred]), (mr0, kI k 6 (va_cpy nwf0 mrf0 0 0 6)), (mr1, kI k 6 (va_cpy nwf1 mrf1 0 0 6)), (mr2, kI k 6 (va_cpy nwf2 mrf2 0 0 6)), (mr3, kI k 6 (va_cpy nwf3 mrf3 0 0 6)), (mr4, kI k 6 (va_cpy nwf4 mrf4 0 0 6)), (mr5, kI k 6 (va_cpy nwf5 mrf5 0 0 6)), (mr6, kI k 6 (va_cpy nwf6 mrf6 0 0 6)), (nw, kO 4 [.ref nw0, .ref nw1, .ref nw2, .ref nw3, .ref nw4, .ref nw5, .ref nw6, .int nw_inside, .int nw_night, .int nw_minute, .int nw_tasted, .int nw_lastCook, .int nw_stirred]), (nw0, kI k 6 nwf0), (nw1, kI k 6 nwf1), (nw2, kI k 6 nwf2), (nw3, kI k 6 nwf3), (nw4, kI k 6 nwf4), (nw5, kI k 6 nwf5), (nw6, kI k 6 nwf6)] H := hP
    have hD : va_D A [(x, kO 8 [x_tape, x_told, x_draft, .ref li, x_draftLines, .ref nw, x_trial, .ref sg, x_past, .ref mk, .long x_drawn]), (mk, kM k 4 mf), (mm, kO 2 [.ref mr, .ref ml, .ref ms, .int 0]), (ml, kO 1 [.ref ml0, .ref ml1, .ref ml2, .int ml_size]), (ml0, kI k 40 mlf0), (ml1, kI k 40 mlf1), (ml2, kI k 40 mlf2), (ms, kO 5 [.ref ms0, .ref ms1, .ref ms2, .int ms_size]), (ms0, kI k 8 msf0), (ms1, kI k 8 msf1), (ms2, kZ k 8 msf2), (li, kO 1 [.ref li0, .ref li1, .ref li2, .int li_size]), (li0, kI k 40 lif0), (li1, kI k 40 lif1), (li2, kI k 40 lif2), (sg, kO 5 [.ref sg0, .ref sg1, .ref sg2, .int sg_size]), (sg0, kI k 8 sgf0), (sg1, kI k 8 sgf1), (sg2, kZ k 8 (fun _ => 0)), (mr, kO 4 [.ref mr0, .ref mr1, .ref mr2, .ref mr3, .ref mr4, .ref mr5, .ref mr6, .int nw_inside, .int nw_night, .int nw_minute, .int nw_tasted, .int nw_lastCook, .int mr_stirred]), (mr0, kI k 6 (va_cpy nwf0 mrf0 0 0 6)), (mr1, kI k 6 (va_cpy nwf1 mrf1 0 0 6)), (mr2, kI k 6 (va_cpy nwf2 mrf2 0 0 6)), (mr3, kI k 6 (va_cpy nwf3 mrf3 0 0 6)), (mr4, kI k 6 (va_cpy nwf4 mrf4 0 0 6)), (mr5, kI k 6 (va_cpy nwf5 mrf5 0 0 6)), (mr6, kI k 6 (va_cpy nwf6 mrf6 0 0 6)), (nw, kO 4 [.ref nw0, .ref nw1, .ref nw2, .ref nw3, .ref nw4, .ref nw5, .ref nw6, .int nw_inside, .int nw_night, .int nw_minute, .int nw_tasted, .int nw_lastCook, .int nw_stirred]), (nw0, kI k 6 nwf0), (nw1, kI k 6 nwf1), (nw2, kI k 6 nwf2), (nw3, kI k 6 nwf3), (nw4, kI k 6 nwf4), (nw5, kI k 6 nwf5), (nw6, kI k 6 nwf6)] := hD
    refine lv_aload_n hx hb dX8_mark_39 rfl (lv_at hl 0 rfl) ?_
    refine va_get (D := D) (ci := 2) (v := .ref ml) (C := RX2) (T := TX2) (N := 4) hx hb hts hi2 hown hK hP 2 rfl rfl 1 (by decide) lf285 (fun _ h9 => h9) rfl dX8_mark_40 ?_
    refine lv_aload_n hx hb dX8_mark_43 rfl (lv_at hl 1 rfl) ?_
    refine va_get (D := D) (ci := 8) (v := .ref li) (C := RX8) (T := TX8) (N := 11) hx hb hts hi8 hown hK hP 0 rfl rfl 3 (by decide) lf29 (fun _ h9 => h9) rfl dX8_mark_44 ?_
    refine kz_Vv (As := [.ref li]) (rest := []) (wc := [(ml, kO 1 [.ref ml0, .ref ml1, .ref ml2, .int ml_size]), (ml0, kI k 40 mlf0), (ml1, kI k 40 mlf1), (ml2, kI k 40 mlf2), (li, kO 1 [.ref li0, .ref li1, .ref li2, .int li_size]), (li0, kI k 40 lif0), (li1, kI k 40 lif1), (li2, kI k 40 lif2)]) (wr := [(x, kO 8 [x_tape, x_told, x_draft, .ref li, x_draftLines, .ref nw, x_trial, .ref sg, x_past, .ref mk, .long x_drawn]), (mk, kM k 4 mf), (mm, kO 2 [.ref mr, .ref ml, .ref ms, .int 0]), (ms, kO 5 [.ref ms0, .ref ms1, .ref ms2, .int ms_size]), (ms0, kI k 8 msf0), (ms1, kI k 8 msf1), (ms2, kZ k 8 msf2), (sg, kO 5 [.ref sg0, .ref sg1, .ref sg2, .int sg_size]), (sg0, kI k 8 sgf0), (sg1, kI k 8 sgf1), (sg2, kZ k 8 (fun _ => 0)), (mr, kO 4 [.ref mr0, .ref mr1, .ref mr2, .ref mr3, .ref mr4, .ref mr5, .ref mr6, .int nw_inside, .int nw_night, .int nw_minute, .int nw_tasted, .int nw_lastCook, .int mr_stirred]), (mr0, kI k 6 (va_cpy nwf0 mrf0 0 0 6)), (mr1, kI k 6 (va_cpy nwf1 mrf1 0 0 6)), (mr2, kI k 6 (va_cpy nwf2 mrf2 0 0 6)), (mr3, kI k 6 (va_cpy nwf3 mrf3 0 0 6)), (mr4, kI k 6 (va_cpy nwf4 mrf4 0 0 6)), (mr5, kI k 6 (va_cpy nwf5 mrf5 0 0 6)), (mr6, kI k 6 (va_cpy nwf6 mrf6 0 0 6)), (nw, kO 4 [.ref nw0, .ref nw1, .ref nw2, .ref nw3, .ref nw4, .ref nw5, .ref nw6, .int nw_inside, .int nw_night, .int nw_minute, .int nw_tasted, .int nw_lastCook, .int nw_stirred]), (nw0, kI k 6 nwf0), (nw1, kI k 6 nwf1), (nw2, kI k 6 nwf2), (nw3, kI k 6 nwf3), (nw4, kI k 6 nwf4), (nw5, kI k 6 nwf5), (nw6, kI k 6 nwf6)]) ⟨hx, hb, hml, hown, hts⟩ hK hE hP hD hS hA (mX1_copyFrom l D k H.size ml li ml0 ml1 ml2 ml_size mlf0 mlf1 mlf2 li0 li1 li2 li_size lif0 lif1 lif2) (cwV 1 hts gX8_mark_X1_copyFrom rfl rfl rfl (by decide +kernel) (by rw [hR]; exact ⟨Nat.le_of_ble_eq_true rfl, Nat.le_of_ble_eq_true rfl⟩)) [3, 4, 5, 6, 11, 12, 13, 14] [0, 1, 2, 7, 8, 9, 10, 15, 16, 17, 18, 19, 20, 21, 22, 23, 24, 25, 26, 27, 28, 29, 30, 31, 32, 33, 34] rfl rfl (by decide) (by decide) (by decide) 0 rfl rfl rfl hl.1 rfl (Nat.le_of_ble_eq_true rfl) dX8_mark_47 (by rw [hR]; exact ⟨Nat.le_of_ble_eq_true rfl, Nat.le_of_ble_eq_true rfl⟩) (fun u8 H locs hw8 hP hD hS => ?_)
    have hP : va_P D vwCl [(x, kO 8 [x_tape, x_told, x_draft, .ref li, x_draftLines, .ref nw, x_trial, .ref sg, x_past, .ref mk, .long x_drawn]), (mk, kM k 4 mf), (mm, kO 2 [.ref mr, .ref ml, .ref ms, .int 0]), (ms, kO 5 [.ref ms0, .ref ms1, .ref ms2, .int ms_size]), (ms0, kI k 8 msf0), (ms1, kI k 8 msf1), (ms2, kZ k 8 msf2), (sg, kO 5 [.ref sg0, .ref sg1, .ref sg2, .int sg_size]), (sg0, kI k 8 sgf0), (sg1, kI k 8 sgf1), (sg2, kZ k 8 (fun _ => 0)), (mr, kO 4 [.ref mr0, .ref mr1, .ref mr2, .ref mr3, .ref mr4, .ref mr5, .ref mr6, .int nw_inside, .int nw_night, .int nw_minute, .int nw_tasted, .int nw_lastCook, .int mr_stirred]), (mr0, kI k 6 (va_cpy nwf0 mrf0 0 0 6)), (mr1, kI k 6 (va_cpy nwf1 mrf1 0 0 6)), (mr2, kI k 6 (va_cpy nwf2 mrf2 0 0 6)), (mr3, kI k 6 (va_cpy nwf3 mrf3 0 0 6)), (mr4, kI k 6 (va_cpy nwf4 mrf4 0 0 6)), (mr5, kI k 6 (va_cpy nwf5 mrf5 0 0 6)), (mr6, kI k 6 (va_cpy nwf6 mrf6 0 0 6)), (nw, kO 4 [.ref nw0, .ref nw1, .ref nw2, .ref nw3, .ref nw4, .ref nw5, .ref nw6, .int nw_inside, .int nw_night, .int nw_minute, .int nw_tasted, .int nw_lastCook, .int nw_stirred]), (nw0, kI k 6 nwf0), (nw1, kI k 6 nwf1), (nw2, kI k 6 nwf2), (nw3, kI k 6 nwf3), (nw4, kI k 6 nwf4), (nw5, kI k 6 nwf5), (nw6, kI k 6 nwf6), (ml, kO 1 [.ref ml0, .ref ml1, .ref ml2, .int li_size]), (ml0, kI k 40 (va_cpy lif0 mlf0 0 0 40)), (ml1, kI k 40 (va_cpy lif1 mlf1 0 0 40)), (ml2, kI k 40 (va_cpy lif2 mlf2 0 0 40)), (li, kO 1 [.ref li0, .ref li1, .ref li2, .int li_size]), (li0, kI k 40 lif0), (li1, kI k 40 lif1), (li2, kI k 40 lif2)] H := hP
    have hD : va_D A [(x, kO 8 [x_tape, x_told, x_draft, .ref li, x_draftLines, .ref nw, x_trial, .ref sg, x_past, .ref mk, .long x_drawn]), (mk, kM k 4 mf), (mm, kO 2 [.ref mr, .ref ml, .ref ms, .int 0]), (ms, kO 5 [.ref ms0, .ref ms1, .ref ms2, .int ms_size]), (ms0, kI k 8 msf0), (ms1, kI k 8 msf1), (ms2, kZ k 8 msf2), (sg, kO 5 [.ref sg0, .ref sg1, .ref sg2, .int sg_size]), (sg0, kI k 8 sgf0), (sg1, kI k 8 sgf1), (sg2, kZ k 8 (fun _ => 0)), (mr, kO 4 [.ref mr0, .ref mr1, .ref mr2, .ref mr3, .ref mr4, .ref mr5, .ref mr6, .int nw_inside, .int nw_night, .int nw_minute, .int nw_tasted, .int nw_lastCook, .int mr_stirred]), (mr0, kI k 6 (va_cpy nwf0 mrf0 0 0 6)), (mr1, kI k 6 (va_cpy nwf1 mrf1 0 0 6)), (mr2, kI k 6 (va_cpy nwf2 mrf2 0 0 6)), (mr3, kI k 6 (va_cpy nwf3 mrf3 0 0 6)), (mr4, kI k 6 (va_cpy nwf4 mrf4 0 0 6)), (mr5, kI k 6 (va_cpy nwf5 mrf5 0 0 6)), (mr6, kI k 6 (va_cpy nwf6 mrf6 0 0 6)), (nw, kO 4 [.ref nw0, .ref nw1, .ref nw2, .ref nw3, .ref nw4, .ref nw5, .ref nw6, .int nw_inside, .int nw_night, .int nw_minute, .int nw_tasted, .int nw_lastCook, .int nw_stirred]), (nw0, kI k 6 nwf0), (nw1, kI k 6 nwf1), (nw2, kI k 6 nwf2), (nw3, kI k 6 nwf3), (nw4, kI k 6 nwf4), (nw5, kI k 6 nwf5), (nw6, kI k 6 nwf6), (ml, kO 1 [.ref ml0, .ref ml1, .ref ml2, .int li_size]), (ml0, kI k 40 (va_cpy lif0 mlf0 0 0 40)), (ml1, kI k 40 (va_cpy lif1 mlf1 0 0 40)), (ml2, kI k 40 (va_cpy lif2 mlf2 0 0 40)), (li, kO 1 [.ref li0, .ref li1, .ref li2, .int li_size]), (li0, kI k 40 lif0), (li1, kI k 40 lif1), (li2, kI k 40 lif2)] := hD
    refine lv_aload_n hx hb dX8_mark_50 rfl (lv_at hl 0 rfl) ?_
    refine va_get (D := D) (ci := 2) (v := .ref ms) (C := RX2) (T := TX2) (N := 4) hx hb hts hi2 hown hK hP 2 rfl rfl 2 (by decide) lf289 (fun _ h9 => h9) rfl dX8_mark_51 ?_
    refine lv_aload_n hx hb dX8_mark_54 rfl (lv_at hl 1 rfl) ?_
    refine va_get (D := D) (ci := 8) (v := .ref sg) (C := RX8) (T := TX8) (N := 11) hx hb hts hi8 hown hK hP 0 rfl rfl 7 (by decide) lf49 (fun _ h9 => h9) rfl dX8_mark_55 ?_
    refine kz_Vv (As := [.ref sg]) (rest := []) (wc := [(ms, kO 5 [.ref ms0, .ref ms1, .ref ms2, .int ms_size]), (ms0, kI k 8 msf0), (ms1, kI k 8 msf1), (ms2, kZ k 8 msf2), (sg, kO 5 [.ref sg0, .ref sg1, .ref sg2, .int sg_size]), (sg0, kI k 8 sgf0), (sg1, kI k 8 sgf1), (sg2, kZ k 8 (fun _ => 0))]) (wr := [(x, kO 8 [x_tape, x_told, x_draft, .ref li, x_draftLines, .ref nw, x_trial, .ref sg, x_past, .ref mk, .long x_drawn]), (mk, kM k 4 mf), (mm, kO 2 [.ref mr, .ref ml, .ref ms, .int 0]), (mr, kO 4 [.ref mr0, .ref mr1, .ref mr2, .ref mr3, .ref mr4, .ref mr5, .ref mr6, .int nw_inside, .int nw_night, .int nw_minute, .int nw_tasted, .int nw_lastCook, .int mr_stirred]), (mr0, kI k 6 (va_cpy nwf0 mrf0 0 0 6)), (mr1, kI k 6 (va_cpy nwf1 mrf1 0 0 6)), (mr2, kI k 6 (va_cpy nwf2 mrf2 0 0 6)), (mr3, kI k 6 (va_cpy nwf3 mrf3 0 0 6)), (mr4, kI k 6 (va_cpy nwf4 mrf4 0 0 6)), (mr5, kI k 6 (va_cpy nwf5 mrf5 0 0 6)), (mr6, kI k 6 (va_cpy nwf6 mrf6 0 0 6)), (nw, kO 4 [.ref nw0, .ref nw1, .ref nw2, .ref nw3, .ref nw4, .ref nw5, .ref nw6, .int nw_inside, .int nw_night, .int nw_minute, .int nw_tasted, .int nw_lastCook, .int nw_stirred]), (nw0, kI k 6 nwf0), (nw1, kI k 6 nwf1), (nw2, kI k 6 nwf2), (nw3, kI k 6 nwf3), (nw4, kI k 6 nwf4), (nw5, kI k 6 nwf5), (nw6, kI k 6 nwf6), (ml, kO 1 [.ref ml0, .ref ml1, .ref ml2, .int li_size]), (ml0, kI k 40 (va_cpy lif0 mlf0 0 0 40)), (ml1, kI k 40 (va_cpy lif1 mlf1 0 0 40)), (ml2, kI k 40 (va_cpy lif2 mlf2 0 0 40)), (li, kO 1 [.ref li0, .ref li1, .ref li2, .int li_size]), (li0, kI k 40 lif0), (li1, kI k 40 lif1), (li2, kI k 40 lif2)]) ⟨hx, hb, hml, hown, hts⟩ hK hE hP hD hS hA (mX5_copyFrom l D k H.size ms sg ms0 ms1 ms2 ms_size msf0 msf1 msf2 sg0 sg1 sg2 sg_size sgf0 sgf1) (cwV 1 hts gX8_mark_X5_copyFrom rfl rfl rfl (by decide +kernel) (by rw [hR]; exact ⟨Nat.le_of_ble_eq_true rfl, Nat.le_of_ble_eq_true rfl⟩)) [3, 4, 5, 6, 7, 8, 9, 10] [0, 1, 2, 11, 12, 13, 14, 15, 16, 17, 18, 19, 20, 21, 22, 23, 24, 25, 26, 27, 28, 29, 30, 31, 32, 33, 34] rfl rfl (by decide) (by decide) (by decide) 0 rfl rfl rfl hl.1 rfl (Nat.le_of_ble_eq_true rfl) dX8_mark_58 (by rw [hR]; exact ⟨Nat.le_of_ble_eq_true rfl, Nat.le_of_ble_eq_true rfl⟩) (fun u9 H locs hw9 hP hD hS => ?_)
    have hP : va_P D vwCl [(x, kO 8 [x_tape, x_told, x_draft, .ref li, x_draftLines, .ref nw, x_trial, .ref sg, x_past, .ref mk, .long x_drawn]), (mk, kM k 4 mf), (mm, kO 2 [.ref mr, .ref ml, .ref ms, .int 0]), (mr, kO 4 [.ref mr0, .ref mr1, .ref mr2, .ref mr3, .ref mr4, .ref mr5, .ref mr6, .int nw_inside, .int nw_night, .int nw_minute, .int nw_tasted, .int nw_lastCook, .int mr_stirred]), (mr0, kI k 6 (va_cpy nwf0 mrf0 0 0 6)), (mr1, kI k 6 (va_cpy nwf1 mrf1 0 0 6)), (mr2, kI k 6 (va_cpy nwf2 mrf2 0 0 6)), (mr3, kI k 6 (va_cpy nwf3 mrf3 0 0 6)), (mr4, kI k 6 (va_cpy nwf4 mrf4 0 0 6)), (mr5, kI k 6 (va_cpy nwf5 mrf5 0 0 6)), (mr6, kI k 6 (va_cpy nwf6 mrf6 0 0 6)), (nw, kO 4 [.ref nw0, .ref nw1, .ref nw2, .ref nw3, .ref nw4, .ref nw5, .ref nw6, .int nw_inside, .int nw_night, .int nw_minute, .int nw_tasted, .int nw_lastCook, .int nw_stirred]), (nw0, kI k 6 nwf0), (nw1, kI k 6 nwf1), (nw2, kI k 6 nwf2), (nw3, kI k 6 nwf3), (nw4, kI k 6 nwf4), (nw5, kI k 6 nwf5), (nw6, kI k 6 nwf6), (ml, kO 1 [.ref ml0, .ref ml1, .ref ml2, .int li_size]), (ml0, kI k 40 (va_cpy lif0 mlf0 0 0 40)), (ml1, kI k 40 (va_cpy lif1 mlf1 0 0 40)), (ml2, kI k 40 (va_cpy lif2 mlf2 0 0 40)), (li, kO 1 [.ref li0, .ref li1, .ref li2, .int li_size]), (li0, kI k 40 lif0), (li1, kI k 40 lif1), (li2, kI k 40 lif2), (ms, kO 5 [.ref ms0, .ref ms1, .ref ms2, .int sg_size]), (ms0, kI k 8 (va_cpy sgf0 msf0 0 0 8)), (ms1, kI k 8 (va_cpy sgf1 msf1 0 0 8)), (ms2, kZ k 8 (va_cpy (fun _ => 0) msf2 0 0 8)), (sg, kO 5 [.ref sg0, .ref sg1, .ref sg2, .int sg_size]), (sg0, kI k 8 sgf0), (sg1, kI k 8 sgf1), (sg2, kZ k 8 (fun _ => 0))] H := hP
    have hD : va_D A [(x, kO 8 [x_tape, x_told, x_draft, .ref li, x_draftLines, .ref nw, x_trial, .ref sg, x_past, .ref mk, .long x_drawn]), (mk, kM k 4 mf), (mm, kO 2 [.ref mr, .ref ml, .ref ms, .int 0]), (mr, kO 4 [.ref mr0, .ref mr1, .ref mr2, .ref mr3, .ref mr4, .ref mr5, .ref mr6, .int nw_inside, .int nw_night, .int nw_minute, .int nw_tasted, .int nw_lastCook, .int mr_stirred]), (mr0, kI k 6 (va_cpy nwf0 mrf0 0 0 6)), (mr1, kI k 6 (va_cpy nwf1 mrf1 0 0 6)), (mr2, kI k 6 (va_cpy nwf2 mrf2 0 0 6)), (mr3, kI k 6 (va_cpy nwf3 mrf3 0 0 6)), (mr4, kI k 6 (va_cpy nwf4 mrf4 0 0 6)), (mr5, kI k 6 (va_cpy nwf5 mrf5 0 0 6)), (mr6, kI k 6 (va_cpy nwf6 mrf6 0 0 6)), (nw, kO 4 [.ref nw0, .ref nw1, .ref nw2, .ref nw3, .ref nw4, .ref nw5, .ref nw6, .int nw_inside, .int nw_night, .int nw_minute, .int nw_tasted, .int nw_lastCook, .int nw_stirred]), (nw0, kI k 6 nwf0), (nw1, kI k 6 nwf1), (nw2, kI k 6 nwf2), (nw3, kI k 6 nwf3), (nw4, kI k 6 nwf4), (nw5, kI k 6 nwf5), (nw6, kI k 6 nwf6), (ml, kO 1 [.ref ml0, .ref ml1, .ref ml2, .int li_size]), (ml0, kI k 40 (va_cpy lif0 mlf0 0 0 40)), (ml1, kI k 40 (va_cpy lif1 mlf1 0 0 40)), (ml2, kI k 40 (va_cpy lif2 mlf2 0 0 40)), (li, kO 1 [.ref li0, .ref li1, .ref li2, .int li_size]), (li0, kI k 40 lif0), (li1, kI k 40 lif1), (li2, kI k 40 lif2), (ms, kO 5 [.ref ms0, .ref ms1, .ref ms2, .int sg_size]), (ms0, kI k 8 (va_cpy sgf0 msf0 0 0 8)), (ms1, kI k 8 (va_cpy sgf1 msf1 0 0 8)), (ms2, kZ k 8 (va_cpy (fun _ => 0) msf2 0 0 8)), (sg, kO 5 [.ref sg0, .ref sg1, .ref sg2, .int sg_size]), (sg0, kI k 8 sgf0), (sg1, kI k 8 sgf1), (sg2, kZ k 8 (fun _ => 0))] := hD
    refine lv_aload_n hx hb dX8_mark_61 rfl (lv_at hl 0 rfl) ?_
    refine lv_iconst (v := 1) hx hb dX8_mark_62 (by decide) ?_
    refine va_put (D := D) (ci := 2) (v := .int 1) (ty := .boolean) (C := RX2) (T := TX2) (N := 4) hx hb hts hi2 tyX2 tyX2_ok nmX2 hown hK hP hD hS 2 rfl rfl 3 (by decide) lf98 (fun _ h9 => h9) rfl (by decide +kernel) rfl rfl (Nat.le_of_ble_eq_true rfl) dX8_mark_63 (fun H locs hP hD hS => ?_)
    have hP : va_P D vwCl [(x, kO 8 [x_tape, x_told, x_draft, .ref li, x_draftLines, .ref nw, x_trial, .ref sg, x_past, .ref mk, .long x_drawn]), (mk, kM k 4 mf), (mm, kO 2 [.ref mr, .ref ml, .ref ms, .int 1]), (mr, kO 4 [.ref mr0, .ref mr1, .ref mr2, .ref mr3, .ref mr4, .ref mr5, .ref mr6, .int nw_inside, .int nw_night, .int nw_minute, .int nw_tasted, .int nw_lastCook, .int mr_stirred]), (mr0, kI k 6 (va_cpy nwf0 mrf0 0 0 6)), (mr1, kI k 6 (va_cpy nwf1 mrf1 0 0 6)), (mr2, kI k 6 (va_cpy nwf2 mrf2 0 0 6)), (mr3, kI k 6 (va_cpy nwf3 mrf3 0 0 6)), (mr4, kI k 6 (va_cpy nwf4 mrf4 0 0 6)), (mr5, kI k 6 (va_cpy nwf5 mrf5 0 0 6)), (mr6, kI k 6 (va_cpy nwf6 mrf6 0 0 6)), (nw, kO 4 [.ref nw0, .ref nw1, .ref nw2, .ref nw3, .ref nw4, .ref nw5, .ref nw6, .int nw_inside, .int nw_night, .int nw_minute, .int nw_tasted, .int nw_lastCook, .int nw_stirred]), (nw0, kI k 6 nwf0), (nw1, kI k 6 nwf1), (nw2, kI k 6 nwf2), (nw3, kI k 6 nwf3), (nw4, kI k 6 nwf4), (nw5, kI k 6 nwf5), (nw6, kI k 6 nwf6), (ml, kO 1 [.ref ml0, .ref ml1, .ref ml2, .int li_size]), (ml0, kI k 40 (va_cpy lif0 mlf0 0 0 40)), (ml1, kI k 40 (va_cpy lif1 mlf1 0 0 40)), (ml2, kI k 40 (va_cpy lif2 mlf2 0 0 40)), (li, kO 1 [.ref li0, .ref li1, .ref li2, .int li_size]), (li0, kI k 40 lif0), (li1, kI k 40 lif1), (li2, kI k 40 lif2), (ms, kO 5 [.ref ms0, .ref ms1, .ref ms2, .int sg_size]), (ms0, kI k 8 (va_cpy sgf0 msf0 0 0 8)), (ms1, kI k 8 (va_cpy sgf1 msf1 0 0 8)), (ms2, kZ k 8 (va_cpy (fun _ => 0) msf2 0 0 8)), (sg, kO 5 [.ref sg0, .ref sg1, .ref sg2, .int sg_size]), (sg0, kI k 8 sgf0), (sg1, kI k 8 sgf1), (sg2, kZ k 8 (fun _ => 0))] H := hP
    have hD : va_D A [(x, kO 8 [x_tape, x_told, x_draft, .ref li, x_draftLines, .ref nw, x_trial, .ref sg, x_past, .ref mk, .long x_drawn]), (mk, kM k 4 mf), (mm, kO 2 [.ref mr, .ref ml, .ref ms, .int 1]), (mr, kO 4 [.ref mr0, .ref mr1, .ref mr2, .ref mr3, .ref mr4, .ref mr5, .ref mr6, .int nw_inside, .int nw_night, .int nw_minute, .int nw_tasted, .int nw_lastCook, .int mr_stirred]), (mr0, kI k 6 (va_cpy nwf0 mrf0 0 0 6)), (mr1, kI k 6 (va_cpy nwf1 mrf1 0 0 6)), (mr2, kI k 6 (va_cpy nwf2 mrf2 0 0 6)), (mr3, kI k 6 (va_cpy nwf3 mrf3 0 0 6)), (mr4, kI k 6 (va_cpy nwf4 mrf4 0 0 6)), (mr5, kI k 6 (va_cpy nwf5 mrf5 0 0 6)), (mr6, kI k 6 (va_cpy nwf6 mrf6 0 0 6)), (nw, kO 4 [.ref nw0, .ref nw1, .ref nw2, .ref nw3, .ref nw4, .ref nw5, .ref nw6, .int nw_inside, .int nw_night, .int nw_minute, .int nw_tasted, .int nw_lastCook, .int nw_stirred]), (nw0, kI k 6 nwf0), (nw1, kI k 6 nwf1), (nw2, kI k 6 nwf2), (nw3, kI k 6 nwf3), (nw4, kI k 6 nwf4), (nw5, kI k 6 nwf5), (nw6, kI k 6 nwf6), (ml, kO 1 [.ref ml0, .ref ml1, .ref ml2, .int li_size]), (ml0, kI k 40 (va_cpy lif0 mlf0 0 0 40)), (ml1, kI k 40 (va_cpy lif1 mlf1 0 0 40)), (ml2, kI k 40 (va_cpy lif2 mlf2 0 0 40)), (li, kO 1 [.ref li0, .ref li1, .ref li2, .int li_size]), (li0, kI k 40 lif0), (li1, kI k 40 lif1), (li2, kI k 40 lif2), (ms, kO 5 [.ref ms0, .ref ms1, .ref ms2, .int sg_size]), (ms0, kI k 8 (va_cpy sgf0 msf0 0 0 8)), (ms1, kI k 8 (va_cpy sgf1 msf1 0 0 8)), (ms2, kZ k 8 (va_cpy (fun _ => 0) msf2 0 0 8)), (sg, kO 5 [.ref sg0, .ref sg1, .ref sg2, .int sg_size]), (sg0, kI k 8 sgf0), (sg1, kI k 8 sgf1), (sg2, kZ k 8 (fun _ => 0))] := hD
    refine lv_iconst (v := 1) hx hb dX8_mark_66 (by decide) ?_
    rw [hQ]
    have hP9 := hP.sub (ws' := []) [] rfl
    have hD9 := hD.sub (ws' := []) [] (by decide) rfl
    exact W.zret (v := 1) hx hb hr rfl (fun zt ht hW => ⟨⟨1, (), rfl, (bz_t c_5).symm, by rw [ht]; exact hP9, hD9⟩, hS.F ht⟩) hS.2.2 dX8_mark_67
theorem dX8_mark_15 : decode cX8_mark 15 = .ok (.iconst 0, 1) := by decide +kernel
theorem dX8_mark_16 : decode cX8_mark 16 = .ok (.ireturn, 1) := by decide +kernel
set_option maxHeartbeats 4000000 in
set_option maxRecDepth 100000 in
theorem mX8_markOut (l : Launch) (D : va_G) (k : Nat → ClassId) (sz : Nat) (x : Nat) (q1 : Int32) (q2 : Int32) (x_tape : Value) (x_told : Value) (x_draft : Value) (x_lines : Value) (x_draftLines : Value) (x_now : Value) (x_trial : Value) (x_sights : Value) (x_past : Value) (mk : Nat) (x_drawn : Int64) (mf : Nat → Option Nat) (hq : ¬ (0 ≤ q1 ∧ q1 ≤ 3)) : Met l yX8_mark wsX8_mark ({ frames := 1, cells := 0, slots := 0, locals := 70 }) (va_Pc [.ref x, .int q1, .int q2] (kz_Pre D k [(x, kO 8 [x_tape, x_told, x_draft, x_lines, x_draftLines, x_now, x_trial, x_sights, x_past, .ref mk, .long x_drawn]), (mk, kM k 4 mf)] sz)) (va_Qi (fun (rr : Int32) (uu : Unit) => rr = 0) (fun uu zt => kz_B D (va_A [(x, kO 8 [x_tape, x_told, x_draft, x_lines, x_draftLines, x_now, x_trial, x_sights, x_past, .ref mk, .long x_drawn]), (mk, kM k 4 mf)] sz) [] zt) (va_A [(x, kO 8 [x_tape, x_told, x_draft, x_lines, x_draftLines, x_now, x_trial, x_sights, x_past, .ref mk, .long x_drawn]), (mk, kM k 4 mf)] sz)) 0 0 (va_A [(x, kO 8 [x_tape, x_told, x_draft, x_lines, x_draftLines, x_now, x_trial, x_sights, x_past, .ref mk, .long x_drawn]), (mk, kM k 4 mf)] sz) := by
  refine Met.ofW (cc := cX8_mark) (maxL := 4) (ret := (some .boolean)) (by decide) rfl ?_
  intro p e s m args below meth c s₁ B hml hv
  obtain ⟨hav, hsz, hP, hK, hD0, hE⟩ := hv
  have hx := B.exec
  have hb := B.bytes
  have hr := B.returns
  have hts := atoms_spec (ws := wsX8_mark) B.pre
  have hown : s.vm.findClass RX8 = some m.cls := findClass_of_methodNamed B.named
  have hlocks := B.notSynchronized
  have hi8 : ∀ w ∈ u_ws RX8 TX8 11, w ∈ wsX8_mark := by decide +kernel
  have lf62 := hts (.fieldLink RX8 62 "LastCook" "marks" "[LLastCook$Mark;") (by decide +kernel)
  subst hsz
  have hD := hD0.self (sz := s.heap.size)
  generalize hAe : va_A [(x, kO 8 [x_tape, x_told, x_draft, x_lines, x_draftLines, x_now, x_trial, x_sights, x_past, .ref mk, .long x_drawn]), (mk, kM k 4 mf)] s.heap.size = A at hD ⊢
  have hA : ∀ q : Nat, s.heap.size ≤ q → A q := fun q h => by rw [← hAe]; exact Or.inr h
  have hS : va_S A s.heap s.heap [] := va_S.rf
  have hl := lv_entry ([.ref x, .int q1, .int q2]) (n := 4) (Nat.le_of_ble_eq_true rfl)
  rw [show entryFrame m args 4 = entryFrame m ([.ref x, .int q1, .int q2] : List Value).toArray 4 by rw [hav], lg_entry_eq]
  generalize (lg_sl ([.ref x, .int q1, .int q2]) ++ List.replicate (4 - (lg_sl ([.ref x, .int q1, .int q2])).length) Slot.unset).toArray = ls at hl ⊢
  have hl : lv_has ls 4 [(0, .ref x), (1, .int q1), (2, .int q2)] := hl
  obtain ⟨R, hR⟩ : ∃ R, R = (headSpec wsX8_mark ({ frames := 1, cells := 0, slots := 0, locals := 70 } : Room)).room := ⟨_, rfl⟩
  rw [← hR]
  generalize hQ : MQ below _ args s 0 0 A = Q
  replace hQ := hQ.symm
  obtain ⟨H, hH⟩ : ∃ H, H = s.heap := ⟨_, rfl⟩
  rw [← hH] at hP ⊢
  have hS : va_S A s.heap H [] := by rw [hH]; exact hS
  refine lv_iload_n hx hb dX8_mark_0 rfl (lv_at hl 1 rfl) ?_
  refine lv_iconst (v := 0) hx hb dX8_mark_1 (by decide) ?_
  refine lv_aload_n hx hb dX8_mark_2 rfl (lv_at hl 0 rfl) ?_
  refine va_get (D := D) (ci := 8) (v := .ref mk) (C := RX8) (T := TX8) (N := 11) hx hb hts hi8 hown hK hP 0 rfl rfl 9 (by decide) lf62 (fun _ h9 => h9) rfl dX8_mark_3 ?_
  refine va_alen (v := 4) hx hb hK hP 1 4 rfl rfl rfl dX8_mark_6 ?_
  refine lv_iconst (v := 1) hx hb dX8_mark_7 (by decide) ?_
  refine lv_isub hx hb dX8_mark_8 ?_
  refine lv_topi (fun x1 ex1 => ?_)
  obtain rfl : x1 = 3 := ex1.trans (by decide)
  refine kz_Si (As := [.int q1, .int 0, .int 3]) (rest := []) (wc := []) (wr := [(x, kO 8 [x_tape, x_told, x_draft, x_lines, x_draftLines, x_now, x_trial, x_sights, x_past, .ref mk, .long x_drawn]), (mk, kM k 4 mf)]) ⟨hx, hb, hml, hown, hts⟩ hK hE hP hD hS hA (mX8_isWithin l D k H.size q1 0 3) (va_cwS 3 hts gX8_mark_X8_isWithin rfl rfl rfl (by decide +kernel) (by rw [hR]; exact ⟨Nat.le_of_ble_eq_true rfl, Nat.le_of_ble_eq_true rfl⟩)) [] [0, 1] rfl rfl (by decide) (by decide) (by decide) rfl hl.1 rfl (Nat.le_of_ble_eq_true rfl) dX8_mark_9 (by rw [hR]; exact ⟨Nat.le_of_ble_eq_true rfl, Nat.le_of_ble_eq_true rfl⟩) (fun r2 u2 H locs hw2 hP hD hS => ?_)
  try dsimp only at hw2
  obtain rfl : r2 = bz (0 ≤ q1 ∧ q1 ≤ 3) := hw2
  have hP : va_P D vwCl [(x, kO 8 [x_tape, x_told, x_draft, x_lines, x_draftLines, x_now, x_trial, x_sights, x_past, .ref mk, .long x_drawn]), (mk, kM k 4 mf)] H := hP
  have hD : va_D A [(x, kO 8 [x_tape, x_told, x_draft, x_lines, x_draftLines, x_now, x_trial, x_sights, x_past, .ref mk, .long x_drawn]), (mk, kM k 4 mf)] := hD
  refine lv_if_ne (tgt := 17) hx hb dX8_mark_12 (by decide) (fun c_3 => absurd (bz_f hq) c_3) (fun c_3 => ?_)
  refine lv_iconst (v := 0) hx hb dX8_mark_15 (by decide) ?_
  rw [hQ]
  have hP9 := hP.sub (ws' := []) [] rfl
  have hD9 := hD.sub (ws' := []) [] (by decide) rfl
  exact W.zret (v := 0) hx hb hr rfl (fun zt ht hW => ⟨⟨0, (), rfl, rfl, by rw [ht]; exact hP9, hD9⟩, hS.F ht⟩) hS.2.2 dX8_mark_16
theorem dX8_count_0 : decode cX8_count 0 = .ok (.iload_n 1, 1) := by decide +kernel
theorem dX8_count_1 : decode cX8_count 1 = .ok (.tableswitch 188 0 12 #[67, 75, 83, 91, 99, 107, 122, 140, 148, 156, 164, 172, 180], 67) := by decide +kernel
theorem dX8_count_68 : decode cX8_count 68 = .ok (.aload_n 0, 1) := by decide +kernel
theorem dX8_count_69 : decode cX8_count 69 = .ok (.getfield 19, 3) := by decide +kernel
theorem dX8_count_72 : decode cX8_count 72 = .ok (.getfield 210, 3) := by decide +kernel
theorem dX8_count_75 : decode cX8_count 75 = .ok (.ireturn, 1) := by decide +kernel
theorem dX8_count_76 : decode cX8_count 76 = .ok (.aload_n 0, 1) := by decide +kernel
theorem dX8_count_77 : decode cX8_count 77 = .ok (.getfield 19, 3) := by decide +kernel
theorem dX8_count_80 : decode cX8_count 80 = .ok (.getfield 229, 3) := by decide +kernel
theorem dX8_count_83 : decode cX8_count 83 = .ok (.ireturn, 1) := by decide +kernel
theorem dX8_count_84 : decode cX8_count 84 = .ok (.aload_n 0, 1) := by decide +kernel
theorem dX8_count_85 : decode cX8_count 85 = .ok (.getfield 19, 3) := by decide +kernel
theorem dX8_count_88 : decode cX8_count 88 = .ok (.getfield 293, 3) := by decide +kernel
theorem dX8_count_91 : decode cX8_count 91 = .ok (.ireturn, 1) := by decide +kernel
theorem dX8_count_92 : decode cX8_count 92 = .ok (.aload_n 0, 1) := by decide +kernel
theorem dX8_count_93 : decode cX8_count 93 = .ok (.getfield 39, 3) := by decide +kernel
theorem dX8_count_96 : decode cX8_count 96 = .ok (.getfield 173, 3) := by decide +kernel
theorem dX8_count_99 : decode cX8_count 99 = .ok (.ireturn, 1) := by decide +kernel
theorem dX8_count_100 : decode cX8_count 100 = .ok (.aload_n 0, 1) := by decide +kernel
theorem dX8_count_101 : decode cX8_count 101 = .ok (.getfield 39, 3) := by decide +kernel
theorem dX8_count_104 : decode cX8_count 104 = .ok (.getfield 296, 3) := by decide +kernel
theorem dX8_count_107 : decode cX8_count 107 = .ok (.ireturn, 1) := by decide +kernel
theorem dX8_count_108 : decode cX8_count 108 = .ok (.aload_n 0, 1) := by decide +kernel
theorem dX8_count_109 : decode cX8_count 109 = .ok (.getfield 19, 3) := by decide +kernel
theorem dX8_count_112 : decode cX8_count 112 = .ok (.aload_n 0, 1) := by decide +kernel
theorem dX8_count_113 : decode cX8_count 113 = .ok (.getfield 39, 3) := by decide +kernel
theorem dX8_count_116 : decode cX8_count 116 = .ok (.getfield 296, 3) := by decide +kernel
theorem dX8_count_119 : decode cX8_count 119 = .ok (.invokevirtual 299, 3) := by decide +kernel
theorem dX8_count_122 : decode cX8_count 122 = .ok (.ireturn, 1) := by decide +kernel
theorem dX8_count_123 : decode cX8_count 123 = .ok (.aload_n 0, 1) := by decide +kernel
theorem dX8_count_124 : decode cX8_count 124 = .ok (.getfield 39, 3) := by decide +kernel
theorem dX8_count_127 : decode cX8_count 127 = .ok (.aload_n 0, 1) := by decide +kernel
theorem dX8_count_128 : decode cX8_count 128 = .ok (.getfield 19, 3) := by decide +kernel
theorem dX8_count_131 : decode cX8_count 131 = .ok (.getfield 210, 3) := by decide +kernel
theorem dX8_count_134 : decode cX8_count 134 = .ok (.sipush 300, 3) := by decide +kernel
theorem dX8_count_137 : decode cX8_count 137 = .ok (.invokevirtual 216, 3) := by decide +kernel
theorem dX8_count_140 : decode cX8_count 140 = .ok (.ireturn, 1) := by decide +kernel
theorem dX8_count_141 : decode cX8_count 141 = .ok (.aload_n 0, 1) := by decide +kernel
theorem dX8_count_142 : decode cX8_count 142 = .ok (.getfield 39, 3) := by decide +kernel
theorem dX8_count_145 : decode cX8_count 145 = .ok (.getfield 176, 3) := by decide +kernel
theorem dX8_count_148 : decode cX8_count 148 = .ok (.ireturn, 1) := by decide +kernel
theorem dX8_count_149 : decode cX8_count 149 = .ok (.aload_n 0, 1) := by decide +kernel
theorem dX8_count_150 : decode cX8_count 150 = .ok (.getfield 39, 3) := by decide +kernel
theorem dX8_count_153 : decode cX8_count 153 = .ok (.getfield 173, 3) := by decide +kernel
theorem dX8_count_156 : decode cX8_count 156 = .ok (.ireturn, 1) := by decide +kernel
theorem dX8_count_157 : decode cX8_count 157 = .ok (.aload_n 0, 1) := by decide +kernel
theorem dX8_count_158 : decode cX8_count 158 = .ok (.getfield 29, 3) := by decide +kernel
theorem dX8_count_161 : decode cX8_count 161 = .ok (.getfield 166, 3) := by decide +kernel
theorem dX8_count_164 : decode cX8_count 164 = .ok (.ireturn, 1) := by decide +kernel
theorem dX8_count_165 : decode cX8_count 165 = .ok (.aload_n 0, 1) := by decide +kernel
theorem dX8_count_166 : decode cX8_count 166 = .ok (.getfield 49, 3) := by decide +kernel
theorem dX8_count_169 : decode cX8_count 169 = .ok (.getfield 302, 3) := by decide +kernel
theorem dX8_count_172 : decode cX8_count 172 = .ok (.ireturn, 1) := by decide +kernel
theorem dX8_count_173 : decode cX8_count 173 = .ok (.aload_n 0, 1) := by decide +kernel
theorem dX8_count_174 : decode cX8_count 174 = .ok (.getfield 56, 3) := by decide +kernel
theorem dX8_count_177 : decode cX8_count 177 = .ok (.getfield 303, 3) := by decide +kernel
theorem dX8_count_180 : decode cX8_count 180 = .ok (.ireturn, 1) := by decide +kernel
theorem dX8_count_181 : decode cX8_count 181 = .ok (.aload_n 0, 1) := by decide +kernel
theorem dX8_count_182 : decode cX8_count 182 = .ok (.getfield 10, 3) := by decide +kernel
theorem dX8_count_185 : decode cX8_count 185 = .ok (.getfield 71, 3) := by decide +kernel
theorem dX8_count_188 : decode cX8_count 188 = .ok (.ireturn, 1) := by decide +kernel
theorem dX8_count_189 : decode cX8_count 189 = .ok (.sipush (-1000), 3) := by decide +kernel
theorem dX8_count_192 : decode cX8_count 192 = .ok (.ireturn, 1) := by decide +kernel
set_option maxRecDepth 20000 in
theorem ggX8_count_X7_snowAt : GoodIn wsX8_count wsX7_snowAt := goodIn_r _ [21, 22, 23, 45, 46, 47, 48, 49, 50, 51, 52, 53, 54, 55, 56, 57] rfl (by decide +kernel)
set_option maxRecDepth 20000 in
theorem gX8_count_X7_snowAt : GoodIn wsX8_count (wsV RX8 299 RX7 yX7_snowAt wsX7_snowAt) := goodIn_app (goodIn_of _ (by decide +kernel)) ggX8_count_X7_snowAt
set_option maxRecDepth 20000 in
theorem ggX8_count_X4_onRoadWithin : GoodIn wsX8_count wsX4_onRoadWithin := goodIn_r _ [28, 29, 30, 31, 32, 27, 33, 58, 59, 60, 61, 62, 63, 64, 65, 66, 67, 68, 69, 70] rfl (by decide +kernel)
set_option maxRecDepth 20000 in
theorem gX8_count_X4_onRoadWithin : GoodIn wsX8_count (wsV RX8 216 RX4 yX4_onRoadWithin wsX4_onRoadWithin) := goodIn_app (goodIn_of _ (by decide +kernel)) ggX8_count_X4_onRoadWithin
set_option maxHeartbeats 4000000 in
set_option maxRecDepth 100000 in
theorem mX8_count (l : Launch) (D : va_G) (k : Nat → ClassId) (sz : Nat) (x : Nat) (q : Int32) (tp : Nat) (td : Nat) (x_draft : Value) (li : Nat) (x_draftLines : Value) (nw : Nat) (x_trial : Value) (sg : Nat) (pa : Nat) (x_marks : Value) (x_drawn : Int64) (tp_signs : Value) (tp_words : Value) (tp_next : Int32) (tp_place : Int32) (tp_kind : Int32) (tp_value : Int32) (tp_letters : Int64) (tp_fault : Int32) (td_names : Value) (td_kinds : Value) (td_yards : Value) (td_paces : Value) (td_skills : Value) (td_snow : Value) (td_law : Value) (td_bendTold : Int32) (td_hourTold : Int32) (li_deeds : Value) (li_guests : Value) (li_wholes : Value) (nw_yards : Value) (nw_paces : Value) (nw_stuck : Value) (nw_hirers : Value) (nw_places : Value) (nw_cameAt : Value) (nw_cooked : Value) (nw_inside : Int32) (nw_lastCook : Int32) (nw_stirred : Int32) (sg_minutes : Value) (sg_yards : Value) (sg_near : Value) (pa_kept : Value) (pa_first : Int32) : Met l yX8_count wsX8_count ({ frames := 1, cells := 0, slots := 0, locals := 70 }) (va_Pc [.ref x, .int q] (kz_Pre D k [(x, kO 8 [.ref tp, .ref td, x_draft, .ref li, x_draftLines, .ref nw, x_trial, .ref sg, .ref pa, x_marks, .long x_drawn]), (tp, kO 6 [tp_signs, tp_words, .int 0, .int tp_next, .int tp_place, .int tp_kind, .int tp_value, .long tp_letters, .int tp_fault]), (td, kO 7 [td_names, td_kinds, td_yards, td_paces, td_skills, td_snow, td_law, .int 0, .int 0, .int 10, .int 30, .int td_bendTold, .int td_hourTold]), (li, kO 1 [li_deeds, li_guests, li_wholes, .int 0]), (nw, kO 4 [nw_yards, nw_paces, nw_stuck, nw_hirers, nw_places, nw_cameAt, nw_cooked, .int nw_inside, .int 0, .int 0, .int 0, .int nw_lastCook, .int nw_stirred]), (sg, kO 5 [sg_minutes, sg_yards, sg_near, .int 0]), (pa, kO 3 [pa_kept, .int pa_first, .int 0])] sz)) (va_Qi (fun (rr : Int32) (uu : Unit) => rr = aC q) (fun uu zt => kz_B D (va_A [(x, kO 8 [.ref tp, .ref td, x_draft, .ref li, x_draftLines, .ref nw, x_trial, .ref sg, .ref pa, x_marks, .long x_drawn]), (tp, kO 6 [tp_signs, tp_words, .int 0, .int tp_next, .int tp_place, .int tp_kind, .int tp_value, .long tp_letters, .int tp_fault]), (td, kO 7 [td_names, td_kinds, td_yards, td_paces, td_skills, td_snow, td_law, .int 0, .int 0, .int 10, .int 30, .int td_bendTold, .int td_hourTold]), (li, kO 1 [li_deeds, li_guests, li_wholes, .int 0]), (nw, kO 4 [nw_yards, nw_paces, nw_stuck, nw_hirers, nw_places, nw_cameAt, nw_cooked, .int nw_inside, .int 0, .int 0, .int 0, .int nw_lastCook, .int nw_stirred]), (sg, kO 5 [sg_minutes, sg_yards, sg_near, .int 0]), (pa, kO 3 [pa_kept, .int pa_first, .int 0])] sz) [] zt) (va_A [(x, kO 8 [.ref tp, .ref td, x_draft, .ref li, x_draftLines, .ref nw, x_trial, .ref sg, .ref pa, x_marks, .long x_drawn]), (tp, kO 6 [tp_signs, tp_words, .int 0, .int tp_next, .int tp_place, .int tp_kind, .int tp_value, .long tp_letters, .int tp_fault]), (td, kO 7 [td_names, td_kinds, td_yards, td_paces, td_skills, td_snow, td_law, .int 0, .int 0, .int 10, .int 30, .int td_bendTold, .int td_hourTold]), (li, kO 1 [li_deeds, li_guests, li_wholes, .int 0]), (nw, kO 4 [nw_yards, nw_paces, nw_stuck, nw_hirers, nw_places, nw_cameAt, nw_cooked, .int nw_inside, .int 0, .int 0, .int 0, .int nw_lastCook, .int nw_stirred]), (sg, kO 5 [sg_minutes, sg_yards, sg_near, .int 0]), (pa, kO 3 [pa_kept, .int pa_first, .int 0])] sz)) 0 0 (va_A [(x, kO 8 [.ref tp, .ref td, x_draft, .ref li, x_draftLines, .ref nw, x_trial, .ref sg, .ref pa, x_marks, .long x_drawn]), (tp, kO 6 [tp_signs, tp_words, .int 0, .int tp_next, .int tp_place, .int tp_kind, .int tp_value, .long tp_letters, .int tp_fault]), (td, kO 7 [td_names, td_kinds, td_yards, td_paces, td_skills, td_snow, td_law, .int 0, .int 0, .int 10, .int 30, .int td_bendTold, .int td_hourTold]), (li, kO 1 [li_deeds, li_guests, li_wholes, .int 0]), (nw, kO 4 [nw_yards, nw_paces, nw_stuck, nw_hirers, nw_places, nw_cameAt, nw_cooked, .int nw_inside, .int 0, .int 0, .int 0, .int nw_lastCook, .int nw_stirred]), (sg, kO 5 [sg_minutes, sg_yards, sg_near, .int 0]), (pa, kO 3 [pa_kept, .int pa_first, .int 0])] sz) := by
  refine Met.ofW (cc := cX8_count) (maxL := 2) (ret := (some .int)) (by decide) rfl ?_
  intro p e s m args below meth c s₁ B hml hv
  obtain ⟨hav, hsz, hP, hK, hD0, hE⟩ := hv
  have hx := B.exec
  have hb := B.bytes
  have hr := B.returns
  have hts := atoms_spec (ws := wsX8_count) B.pre
  have hown : s.vm.findClass RX8 = some m.cls := findClass_of_methodNamed B.named
  have hlocks := B.notSynchronized
  have hi1 : ∀ w ∈ u_ws RX1 TX1 4, w ∈ wsX8_count := by decide +kernel
  have hi3 : ∀ w ∈ u_ws RX3 TX3 3, w ∈ wsX8_count := by decide +kernel
  have hi4 : ∀ w ∈ u_ws RX4 TX4 13, w ∈ wsX8_count := by decide +kernel
  have hi5 : ∀ w ∈ u_ws RX5 TX5 4, w ∈ wsX8_count := by decide +kernel
  have hi6 : ∀ w ∈ u_ws RX6 TX6 9, w ∈ wsX8_count := by decide +kernel
  have hi7 : ∀ w ∈ u_ws RX7 TX7 13, w ∈ wsX8_count := by decide +kernel
  have hi8 : ∀ w ∈ u_ws RX8 TX8 11, w ∈ wsX8_count := by decide +kernel
  have lf19 := hts (.fieldLink RX8 19 "LastCook" "told" "LLastCook$Told;") (by decide +kernel)
  have lf210 := hts (.fieldLink RX8 210 "LastCook$Told" "guests" "I") (by decide +kernel)
  have lf229 := hts (.fieldLink RX8 229 "LastCook$Told" "bend" "I") (by decide +kernel)
  have lf293 := hts (.fieldLink RX8 293 "LastCook$Told" "hour" "I") (by decide +kernel)
  have lf39 := hts (.fieldLink RX8 39 "LastCook" "now" "LLastCook$Road;") (by decide +kernel)
  have lf173 := hts (.fieldLink RX8 173 "LastCook$Road" "night" "I") (by decide +kernel)
  have lf296 := hts (.fieldLink RX8 296 "LastCook$Road" "minute" "I") (by decide +kernel)
  have lf176 := hts (.fieldLink RX8 176 "LastCook$Road" "tasted" "I") (by decide +kernel)
  have lf29 := hts (.fieldLink RX8 29 "LastCook" "lines" "LLastCook$Lines;") (by decide +kernel)
  have lf166 := hts (.fieldLink RX8 166 "LastCook$Lines" "size" "I") (by decide +kernel)
  have lf49 := hts (.fieldLink RX8 49 "LastCook" "sights" "LLastCook$Sights;") (by decide +kernel)
  have lf302 := hts (.fieldLink RX8 302 "LastCook$Sights" "size" "I") (by decide +kernel)
  have lf56 := hts (.fieldLink RX8 56 "LastCook" "past" "LLastCook$Past;") (by decide +kernel)
  have lf303 := hts (.fieldLink RX8 303 "LastCook$Past" "size" "I") (by decide +kernel)
  have lf10 := hts (.fieldLink RX8 10 "LastCook" "tape" "LLastCook$Tape;") (by decide +kernel)
  have lf71 := hts (.fieldLink RX8 71 "LastCook$Tape" "length" "I") (by decide +kernel)
  subst hsz
  have hD := hD0.self (sz := s.heap.size)
  generalize hAe : va_A [(x, kO 8 [.ref tp, .ref td, x_draft, .ref li, x_draftLines, .ref nw, x_trial, .ref sg, .ref pa, x_marks, .long x_drawn]), (tp, kO 6 [tp_signs, tp_words, .int 0, .int tp_next, .int tp_place, .int tp_kind, .int tp_value, .long tp_letters, .int tp_fault]), (td, kO 7 [td_names, td_kinds, td_yards, td_paces, td_skills, td_snow, td_law, .int 0, .int 0, .int 10, .int 30, .int td_bendTold, .int td_hourTold]), (li, kO 1 [li_deeds, li_guests, li_wholes, .int 0]), (nw, kO 4 [nw_yards, nw_paces, nw_stuck, nw_hirers, nw_places, nw_cameAt, nw_cooked, .int nw_inside, .int 0, .int 0, .int 0, .int nw_lastCook, .int nw_stirred]), (sg, kO 5 [sg_minutes, sg_yards, sg_near, .int 0]), (pa, kO 3 [pa_kept, .int pa_first, .int 0])] s.heap.size = A at hD ⊢
  have hA : ∀ q : Nat, s.heap.size ≤ q → A q := fun q h => by rw [← hAe]; exact Or.inr h
  have hS : va_S A s.heap s.heap [] := va_S.rf
  have hl := lv_entry ([.ref x, .int q]) (n := 2) (Nat.le_of_ble_eq_true rfl)
  rw [show entryFrame m args 2 = entryFrame m ([.ref x, .int q] : List Value).toArray 2 by rw [hav], lg_entry_eq]
  generalize (lg_sl ([.ref x, .int q]) ++ List.replicate (2 - (lg_sl ([.ref x, .int q])).length) Slot.unset).toArray = ls at hl ⊢
  have hl : lv_has ls 2 [(0, .ref x), (1, .int q)] := hl
  obtain ⟨R, hR⟩ : ∃ R, R = (headSpec wsX8_count ({ frames := 1, cells := 0, slots := 0, locals := 70 } : Room)).room := ⟨_, rfl⟩
  rw [← hR]
  generalize hQ : MQ below _ args s 0 0 A = Q
  replace hQ := hQ.symm
  obtain ⟨H, hH⟩ : ∃ H, H = s.heap := ⟨_, rfl⟩
  rw [← hH] at hP ⊢
  have hS : va_S A s.heap H [] := by rw [hH]; exact hS
  refine lv_iload_n hx hb dX8_count_0 rfl (lv_at hl 1 rfl) ?_
  by_cases w1_0 : q = 0
  · subst w1_0
    refine lv_tableIn (off := 67) (tgt := 68) hx hb dX8_count_1 (by decide) (by decide) (by decide) (by decide) ?_
    refine lv_aload_n hx hb dX8_count_68 rfl (lv_at hl 0 rfl) ?_
    refine va_get (D := D) (ci := 8) (v := .ref td) (C := RX8) (T := TX8) (N := 11) hx hb hts hi8 hown hK hP 0 rfl rfl 1 (by decide) lf19 (fun _ h9 => h9) rfl dX8_count_69 ?_
    refine va_get (D := D) (ci := 7) (v := .int 0) (C := RX7) (T := TX7) (N := 13) hx hb hts hi7 hown hK hP 2 rfl rfl 7 (by decide) lf210 (fun _ h9 => h9) rfl dX8_count_72 ?_
    rw [hQ]
    have hP9 := hP.sub (ws' := []) [] rfl
    have hD9 := hD.sub (ws' := []) [] (by decide) rfl
    exact W.iret (v := 0) hx hb hr (fun zt ht hW => ⟨⟨0, (), rfl, (by decide), by rw [ht]; exact hP9, hD9⟩, hS.F ht⟩) hS.2.2 dX8_count_75
  by_cases w1_1 : q = 1
  · subst w1_1
    refine lv_tableIn (off := 75) (tgt := 76) hx hb dX8_count_1 (by decide) (by decide) (by decide) (by decide) ?_
    refine lv_aload_n hx hb dX8_count_76 rfl (lv_at hl 0 rfl) ?_
    refine va_get (D := D) (ci := 8) (v := .ref td) (C := RX8) (T := TX8) (N := 11) hx hb hts hi8 hown hK hP 0 rfl rfl 1 (by decide) lf19 (fun _ h9 => h9) rfl dX8_count_77 ?_
    refine va_get (D := D) (ci := 7) (v := .int 10) (C := RX7) (T := TX7) (N := 13) hx hb hts hi7 hown hK hP 2 rfl rfl 9 (by decide) lf229 (fun _ h9 => h9) rfl dX8_count_80 ?_
    rw [hQ]
    have hP9 := hP.sub (ws' := []) [] rfl
    have hD9 := hD.sub (ws' := []) [] (by decide) rfl
    exact W.iret (v := 10) hx hb hr (fun zt ht hW => ⟨⟨10, (), rfl, (by decide), by rw [ht]; exact hP9, hD9⟩, hS.F ht⟩) hS.2.2 dX8_count_83
  by_cases w1_2 : q = 2
  · subst w1_2
    refine lv_tableIn (off := 83) (tgt := 84) hx hb dX8_count_1 (by decide) (by decide) (by decide) (by decide) ?_
    refine lv_aload_n hx hb dX8_count_84 rfl (lv_at hl 0 rfl) ?_
    refine va_get (D := D) (ci := 8) (v := .ref td) (C := RX8) (T := TX8) (N := 11) hx hb hts hi8 hown hK hP 0 rfl rfl 1 (by decide) lf19 (fun _ h9 => h9) rfl dX8_count_85 ?_
    refine va_get (D := D) (ci := 7) (v := .int 30) (C := RX7) (T := TX7) (N := 13) hx hb hts hi7 hown hK hP 2 rfl rfl 10 (by decide) lf293 (fun _ h9 => h9) rfl dX8_count_88 ?_
    rw [hQ]
    have hP9 := hP.sub (ws' := []) [] rfl
    have hD9 := hD.sub (ws' := []) [] (by decide) rfl
    exact W.iret (v := 30) hx hb hr (fun zt ht hW => ⟨⟨30, (), rfl, (by decide), by rw [ht]; exact hP9, hD9⟩, hS.F ht⟩) hS.2.2 dX8_count_91
  by_cases w1_3 : q = 3
  · subst w1_3
    refine lv_tableIn (off := 91) (tgt := 92) hx hb dX8_count_1 (by decide) (by decide) (by decide) (by decide) ?_
    refine lv_aload_n hx hb dX8_count_92 rfl (lv_at hl 0 rfl) ?_
    refine va_get (D := D) (ci := 8) (v := .ref nw) (C := RX8) (T := TX8) (N := 11) hx hb hts hi8 hown hK hP 0 rfl rfl 5 (by decide) lf39 (fun _ h9 => h9) rfl dX8_count_93 ?_
    refine va_get (D := D) (ci := 4) (v := .int 0) (C := RX4) (T := TX4) (N := 13) hx hb hts hi4 hown hK hP 4 rfl rfl 8 (by decide) lf173 (fun _ h9 => h9) rfl dX8_count_96 ?_
    rw [hQ]
    have hP9 := hP.sub (ws' := []) [] rfl
    have hD9 := hD.sub (ws' := []) [] (by decide) rfl
    exact W.iret (v := 0) hx hb hr (fun zt ht hW => ⟨⟨0, (), rfl, (by decide), by rw [ht]; exact hP9, hD9⟩, hS.F ht⟩) hS.2.2 dX8_count_99
  by_cases w1_4 : q = 4
  · subst w1_4
    refine lv_tableIn (off := 99) (tgt := 100) hx hb dX8_count_1 (by decide) (by decide) (by decide) (by decide) ?_
    refine lv_aload_n hx hb dX8_count_100 rfl (lv_at hl 0 rfl) ?_
    refine va_get (D := D) (ci := 8) (v := .ref nw) (C := RX8) (T := TX8) (N := 11) hx hb hts hi8 hown hK hP 0 rfl rfl 5 (by decide) lf39 (fun _ h9 => h9) rfl dX8_count_101 ?_
    refine va_get (D := D) (ci := 4) (v := .int 0) (C := RX4) (T := TX4) (N := 13) hx hb hts hi4 hown hK hP 4 rfl rfl 9 (by decide) lf296 (fun _ h9 => h9) rfl dX8_count_104 ?_
    rw [hQ]
    have hP9 := hP.sub (ws' := []) [] rfl
    have hD9 := hD.sub (ws' := []) [] (by decide) rfl
    exact W.iret (v := 0) hx hb hr (fun zt ht hW => ⟨⟨0, (), rfl, (by decide), by rw [ht]; exact hP9, hD9⟩, hS.F ht⟩) hS.2.2 dX8_count_107
  by_cases w1_5 : q = 5
  · subst w1_5
    refine lv_tableIn (off := 107) (tgt := 108) hx hb dX8_count_1 (by decide) (by decide) (by decide) (by decide) ?_
    refine lv_aload_n hx hb dX8_count_108 rfl (lv_at hl 0 rfl) ?_
    refine va_get (D := D) (ci := 8) (v := .ref td) (C := RX8) (T := TX8) (N := 11) hx hb hts hi8 hown hK hP 0 rfl rfl 1 (by decide) lf19 (fun _ h9 => h9) rfl dX8_count_109 ?_
    refine lv_aload_n hx hb dX8_count_112 rfl (lv_at hl 0 rfl) ?_
    refine va_get (D := D) (ci := 8) (v := .ref nw) (C := RX8) (T := TX8) (N := 11) hx hb hts hi8 hown hK hP 0 rfl rfl 5 (by decide) lf39 (fun _ h9 => h9) rfl dX8_count_113 ?_
    refine va_get (D := D) (ci := 4) (v := .int 0) (C := RX4) (T := TX4) (N := 13) hx hb hts hi4 hown hK hP 4 rfl rfl 9 (by decide) lf296 (fun _ h9 => h9) rfl dX8_count_116 ?_
    refine kz_Vi (As := [.int 0]) (rest := []) (wc := [(td, kO 7 [td_names, td_kinds, td_yards, td_paces, td_skills, td_snow, td_law, .int 0, .int 0, .int 10, .int 30, .int td_bendTold, .int td_hourTold])]) (wr := [(x, kO 8 [.ref tp, .ref td, x_draft, .ref li, x_draftLines, .ref nw, x_trial, .ref sg, .ref pa, x_marks, .long x_drawn]), (tp, kO 6 [tp_signs, tp_words, .int 0, .int tp_next, .int tp_place, .int tp_kind, .int tp_value, .long tp_letters, .int tp_fault]), (li, kO 1 [li_deeds, li_guests, li_wholes, .int 0]), (nw, kO 4 [nw_yards, nw_paces, nw_stuck, nw_hirers, nw_places, nw_cameAt, nw_cooked, .int nw_inside, .int 0, .int 0, .int 0, .int nw_lastCook, .int nw_stirred]), (sg, kO 5 [sg_minutes, sg_yards, sg_near, .int 0]), (pa, kO 3 [pa_kept, .int pa_first, .int 0])]) ⟨hx, hb, hml, hown, hts⟩ hK hE hP hD hS hA (mX7_snowAt l D k H.size td 0 td_names td_kinds td_yards td_paces td_skills td_snow td_law 0 10 30 td_bendTold td_hourTold) (cwV 1 hts gX8_count_X7_snowAt rfl rfl rfl (by decide +kernel) (by rw [hR]; exact ⟨Nat.le_of_ble_eq_true rfl, Nat.le_of_ble_eq_true rfl⟩)) [2] [0, 1, 3, 4, 5, 6] rfl rfl (by decide) (by decide) (by decide) 0 rfl rfl rfl hl.1 rfl (Nat.le_of_ble_eq_true rfl) dX8_count_119 (by rw [hR]; exact ⟨Nat.le_of_ble_eq_true rfl, Nat.le_of_ble_eq_true rfl⟩) (fun r2 u2 H locs hw2 hP hD hS => ?_)
    try dsimp only at hw2
    obtain rfl : r2 = 0 := hw2
    have hP : va_P D vwCl [(x, kO 8 [.ref tp, .ref td, x_draft, .ref li, x_draftLines, .ref nw, x_trial, .ref sg, .ref pa, x_marks, .long x_drawn]), (tp, kO 6 [tp_signs, tp_words, .int 0, .int tp_next, .int tp_place, .int tp_kind, .int tp_value, .long tp_letters, .int tp_fault]), (li, kO 1 [li_deeds, li_guests, li_wholes, .int 0]), (nw, kO 4 [nw_yards, nw_paces, nw_stuck, nw_hirers, nw_places, nw_cameAt, nw_cooked, .int nw_inside, .int 0, .int 0, .int 0, .int nw_lastCook, .int nw_stirred]), (sg, kO 5 [sg_minutes, sg_yards, sg_near, .int 0]), (pa, kO 3 [pa_kept, .int pa_first, .int 0]), (td, kO 7 [td_names, td_kinds, td_yards, td_paces, td_skills, td_snow, td_law, .int 0, .int 0, .int 10, .int 30, .int td_bendTold, .int td_hourTold])] H := hP
    have hD : va_D A [(x, kO 8 [.ref tp, .ref td, x_draft, .ref li, x_draftLines, .ref nw, x_trial, .ref sg, .ref pa, x_marks, .long x_drawn]), (tp, kO 6 [tp_signs, tp_words, .int 0, .int tp_next, .int tp_place, .int tp_kind, .int tp_value, .long tp_letters, .int tp_fault]), (li, kO 1 [li_deeds, li_guests, li_wholes, .int 0]), (nw, kO 4 [nw_yards, nw_paces, nw_stuck, nw_hirers, nw_places, nw_cameAt, nw_cooked, .int nw_inside, .int 0, .int 0, .int 0, .int nw_lastCook, .int nw_stirred]), (sg, kO 5 [sg_minutes, sg_yards, sg_near, .int 0]), (pa, kO 3 [pa_kept, .int pa_first, .int 0]), (td, kO 7 [td_names, td_kinds, td_yards, td_paces, td_skills, td_snow, td_law, .int 0, .int 0, .int 10, .int 30, .int td_bendTold, .int td_hourTold])] := hD
    rw [hQ]
    have hP9 := hP.sub (ws' := []) [] rfl
    have hD9 := hD.sub (ws' := []) [] (by decide) rfl
    exact W.iret (v := 0) hx hb hr (fun zt ht hW => ⟨⟨0, (), rfl, (by decide), by rw [ht]; exact hP9, hD9⟩, hS.F ht⟩) hS.2.2 dX8_count_122
  by_cases w1_6 : q = 6
  · subst w1_6
    refine lv_tableIn (off := 122) (tgt := 123) hx hb dX8_count_1 (by decide) (by decide) (by decide) (by decide) ?_
    refine lv_aload_n hx hb dX8_count_123 rfl (lv_at hl 0 rfl) ?_
    refine va_get (D := D) (ci := 8) (v := .ref nw) (C := RX8) (T := TX8) (N := 11) hx hb hts hi8 hown hK hP 0 rfl rfl 5 (by decide) lf39 (fun _ h9 => h9) rfl dX8_count_124 ?_
    refine lv_aload_n hx hb dX8_count_127 rfl (lv_at hl 0 rfl) ?_
    refine va_get (D := D) (ci := 8) (v := .ref td) (C := RX8) (T := TX8) (N := 11) hx hb hts hi8 hown hK hP 0 rfl rfl 1 (by decide) lf19 (fun _ h9 => h9) rfl dX8_count_128 ?_
    refine va_get (D := D) (ci := 7) (v := .int 0) (C := RX7) (T := TX7) (N := 13) hx hb hts hi7 hown hK hP 2 rfl rfl 7 (by decide) lf210 (fun _ h9 => h9) rfl dX8_count_131 ?_
    refine lv_sipush (v := 300) hx hb dX8_count_134 (by decide) ?_
    refine kz_Vi (As := [.int 0, .int 300]) (rest := []) (wc := [(nw, kO 4 [nw_yards, nw_paces, nw_stuck, nw_hirers, nw_places, nw_cameAt, nw_cooked, .int nw_inside, .int 0, .int 0, .int 0, .int nw_lastCook, .int nw_stirred])]) (wr := [(x, kO 8 [.ref tp, .ref td, x_draft, .ref li, x_draftLines, .ref nw, x_trial, .ref sg, .ref pa, x_marks, .long x_drawn]), (tp, kO 6 [tp_signs, tp_words, .int 0, .int tp_next, .int tp_place, .int tp_kind, .int tp_value, .long tp_letters, .int tp_fault]), (td, kO 7 [td_names, td_kinds, td_yards, td_paces, td_skills, td_snow, td_law, .int 0, .int 0, .int 10, .int 30, .int td_bendTold, .int td_hourTold]), (li, kO 1 [li_deeds, li_guests, li_wholes, .int 0]), (sg, kO 5 [sg_minutes, sg_yards, sg_near, .int 0]), (pa, kO 3 [pa_kept, .int pa_first, .int 0])]) ⟨hx, hb, hml, hown, hts⟩ hK hE hP hD hS hA (mX4_onRoadWithin l D k H.size nw 300 nw_yards nw_paces nw_stuck nw_hirers nw_places nw_cameAt nw_cooked nw_inside 0 0 0 nw_lastCook nw_stirred) (cwV 2 hts gX8_count_X4_onRoadWithin rfl rfl rfl (by decide +kernel) (by rw [hR]; exact ⟨Nat.le_of_ble_eq_true rfl, Nat.le_of_ble_eq_true rfl⟩)) [4] [0, 1, 2, 3, 5, 6] rfl rfl (by decide) (by decide) (by decide) 0 rfl rfl rfl hl.1 rfl (Nat.le_of_ble_eq_true rfl) dX8_count_137 (by rw [hR]; exact ⟨Nat.le_of_ble_eq_true rfl, Nat.le_of_ble_eq_true rfl⟩) (fun r3 u3 H locs hw3 hP hD hS => ?_)
    try dsimp only at hw3
    obtain rfl : r3 = 0 := hw3
    have hP : va_P D vwCl [(x, kO 8 [.ref tp, .ref td, x_draft, .ref li, x_draftLines, .ref nw, x_trial, .ref sg, .ref pa, x_marks, .long x_drawn]), (tp, kO 6 [tp_signs, tp_words, .int 0, .int tp_next, .int tp_place, .int tp_kind, .int tp_value, .long tp_letters, .int tp_fault]), (td, kO 7 [td_names, td_kinds, td_yards, td_paces, td_skills, td_snow, td_law, .int 0, .int 0, .int 10, .int 30, .int td_bendTold, .int td_hourTold]), (li, kO 1 [li_deeds, li_guests, li_wholes, .int 0]), (sg, kO 5 [sg_minutes, sg_yards, sg_near, .int 0]), (pa, kO 3 [pa_kept, .int pa_first, .int 0]), (nw, kO 4 [nw_yards, nw_paces, nw_stuck, nw_hirers, nw_places, nw_cameAt, nw_cooked, .int nw_inside, .int 0, .int 0, .int 0, .int nw_lastCook, .int nw_stirred])] H := hP
    have hD : va_D A [(x, kO 8 [.ref tp, .ref td, x_draft, .ref li, x_draftLines, .ref nw, x_trial, .ref sg, .ref pa, x_marks, .long x_drawn]), (tp, kO 6 [tp_signs, tp_words, .int 0, .int tp_next, .int tp_place, .int tp_kind, .int tp_value, .long tp_letters, .int tp_fault]), (td, kO 7 [td_names, td_kinds, td_yards, td_paces, td_skills, td_snow, td_law, .int 0, .int 0, .int 10, .int 30, .int td_bendTold, .int td_hourTold]), (li, kO 1 [li_deeds, li_guests, li_wholes, .int 0]), (sg, kO 5 [sg_minutes, sg_yards, sg_near, .int 0]), (pa, kO 3 [pa_kept, .int pa_first, .int 0]), (nw, kO 4 [nw_yards, nw_paces, nw_stuck, nw_hirers, nw_places, nw_cameAt, nw_cooked, .int nw_inside, .int 0, .int 0, .int 0, .int nw_lastCook, .int nw_stirred])] := hD
    rw [hQ]
    have hP9 := hP.sub (ws' := []) [] rfl
    have hD9 := hD.sub (ws' := []) [] (by decide) rfl
    exact W.iret (v := 0) hx hb hr (fun zt ht hW => ⟨⟨0, (), rfl, (by decide), by rw [ht]; exact hP9, hD9⟩, hS.F ht⟩) hS.2.2 dX8_count_140
  by_cases w1_7 : q = 7
  · subst w1_7
    refine lv_tableIn (off := 140) (tgt := 141) hx hb dX8_count_1 (by decide) (by decide) (by decide) (by decide) ?_
    refine lv_aload_n hx hb dX8_count_141 rfl (lv_at hl 0 rfl) ?_
    refine va_get (D := D) (ci := 8) (v := .ref nw) (C := RX8) (T := TX8) (N := 11) hx hb hts hi8 hown hK hP 0 rfl rfl 5 (by decide) lf39 (fun _ h9 => h9) rfl dX8_count_142 ?_
    refine va_get (D := D) (ci := 4) (v := .int 0) (C := RX4) (T := TX4) (N := 13) hx hb hts hi4 hown hK hP 4 rfl rfl 10 (by decide) lf176 (fun _ h9 => h9) rfl dX8_count_145 ?_
    rw [hQ]
    have hP9 := hP.sub (ws' := []) [] rfl
    have hD9 := hD.sub (ws' := []) [] (by decide) rfl
    exact W.iret (v := 0) hx hb hr (fun zt ht hW => ⟨⟨0, (), rfl, (by decide), by rw [ht]; exact hP9, hD9⟩, hS.F ht⟩) hS.2.2 dX8_count_148
  by_cases w1_8 : q = 8
  · subst w1_8
    refine lv_tableIn (off := 148) (tgt := 149) hx hb dX8_count_1 (by decide) (by decide) (by decide) (by decide) ?_
    refine lv_aload_n hx hb dX8_count_149 rfl (lv_at hl 0 rfl) ?_
    refine va_get (D := D) (ci := 8) (v := .ref nw) (C := RX8) (T := TX8) (N := 11) hx hb hts hi8 hown hK hP 0 rfl rfl 5 (by decide) lf39 (fun _ h9 => h9) rfl dX8_count_150 ?_
    refine va_get (D := D) (ci := 4) (v := .int 0) (C := RX4) (T := TX4) (N := 13) hx hb hts hi4 hown hK hP 4 rfl rfl 8 (by decide) lf173 (fun _ h9 => h9) rfl dX8_count_153 ?_
    rw [hQ]
    have hP9 := hP.sub (ws' := []) [] rfl
    have hD9 := hD.sub (ws' := []) [] (by decide) rfl
    exact W.iret (v := 0) hx hb hr (fun zt ht hW => ⟨⟨0, (), rfl, (by decide), by rw [ht]; exact hP9, hD9⟩, hS.F ht⟩) hS.2.2 dX8_count_156
  by_cases w1_9 : q = 9
  · subst w1_9
    refine lv_tableIn (off := 156) (tgt := 157) hx hb dX8_count_1 (by decide) (by decide) (by decide) (by decide) ?_
    refine lv_aload_n hx hb dX8_count_157 rfl (lv_at hl 0 rfl) ?_
    refine va_get (D := D) (ci := 8) (v := .ref li) (C := RX8) (T := TX8) (N := 11) hx hb hts hi8 hown hK hP 0 rfl rfl 3 (by decide) lf29 (fun _ h9 => h9) rfl dX8_count_158 ?_
    refine va_get (D := D) (ci := 1) (v := .int 0) (C := RX1) (T := TX1) (N := 4) hx hb hts hi1 hown hK hP 3 rfl rfl 3 (by decide) lf166 (fun _ h9 => h9) rfl dX8_count_161 ?_
    rw [hQ]
    have hP9 := hP.sub (ws' := []) [] rfl
    have hD9 := hD.sub (ws' := []) [] (by decide) rfl
    exact W.iret (v := 0) hx hb hr (fun zt ht hW => ⟨⟨0, (), rfl, (by decide), by rw [ht]; exact hP9, hD9⟩, hS.F ht⟩) hS.2.2 dX8_count_164
  by_cases w1_10 : q = 10
  · subst w1_10
    refine lv_tableIn (off := 164) (tgt := 165) hx hb dX8_count_1 (by decide) (by decide) (by decide) (by decide) ?_
    refine lv_aload_n hx hb dX8_count_165 rfl (lv_at hl 0 rfl) ?_
    refine va_get (D := D) (ci := 8) (v := .ref sg) (C := RX8) (T := TX8) (N := 11) hx hb hts hi8 hown hK hP 0 rfl rfl 7 (by decide) lf49 (fun _ h9 => h9) rfl dX8_count_166 ?_
    refine va_get (D := D) (ci := 5) (v := .int 0) (C := RX5) (T := TX5) (N := 4) hx hb hts hi5 hown hK hP 5 rfl rfl 3 (by decide) lf302 (fun _ h9 => h9) rfl dX8_count_169 ?_
    rw [hQ]
    have hP9 := hP.sub (ws' := []) [] rfl
    have hD9 := hD.sub (ws' := []) [] (by decide) rfl
    exact W.iret (v := 0) hx hb hr (fun zt ht hW => ⟨⟨0, (), rfl, (by decide), by rw [ht]; exact hP9, hD9⟩, hS.F ht⟩) hS.2.2 dX8_count_172
  by_cases w1_11 : q = 11
  · subst w1_11
    refine lv_tableIn (off := 172) (tgt := 173) hx hb dX8_count_1 (by decide) (by decide) (by decide) (by decide) ?_
    refine lv_aload_n hx hb dX8_count_173 rfl (lv_at hl 0 rfl) ?_
    refine va_get (D := D) (ci := 8) (v := .ref pa) (C := RX8) (T := TX8) (N := 11) hx hb hts hi8 hown hK hP 0 rfl rfl 8 (by decide) lf56 (fun _ h9 => h9) rfl dX8_count_174 ?_
    refine va_get (D := D) (ci := 3) (v := .int 0) (C := RX3) (T := TX3) (N := 3) hx hb hts hi3 hown hK hP 6 rfl rfl 2 (by decide) lf303 (fun _ h9 => h9) rfl dX8_count_177 ?_
    rw [hQ]
    have hP9 := hP.sub (ws' := []) [] rfl
    have hD9 := hD.sub (ws' := []) [] (by decide) rfl
    exact W.iret (v := 0) hx hb hr (fun zt ht hW => ⟨⟨0, (), rfl, (by decide), by rw [ht]; exact hP9, hD9⟩, hS.F ht⟩) hS.2.2 dX8_count_180
  by_cases w1_12 : q = 12
  · subst w1_12
    refine lv_tableIn (off := 180) (tgt := 181) hx hb dX8_count_1 (by decide) (by decide) (by decide) (by decide) ?_
    refine lv_aload_n hx hb dX8_count_181 rfl (lv_at hl 0 rfl) ?_
    refine va_get (D := D) (ci := 8) (v := .ref tp) (C := RX8) (T := TX8) (N := 11) hx hb hts hi8 hown hK hP 0 rfl rfl 0 (by decide) lf10 (fun _ h9 => h9) rfl dX8_count_182 ?_
    refine va_get (D := D) (ci := 6) (v := .int 0) (C := RX6) (T := TX6) (N := 9) hx hb hts hi6 hown hK hP 1 rfl rfl 2 (by decide) lf71 (fun _ h9 => h9) rfl dX8_count_185 ?_
    rw [hQ]
    have hP9 := hP.sub (ws' := []) [] rfl
    have hD9 := hD.sub (ws' := []) [] (by decide) rfl
    exact W.iret (v := 0) hx hb hr (fun zt ht hW => ⟨⟨0, (), rfl, (by decide), by rw [ht]; exact hP9, hD9⟩, hS.F ht⟩) hS.2.2 dX8_count_188
  have z1_0 := lv_neT w1_0 (a := 0) (by decide)
  have z1_1 := lv_neT w1_1 (a := 1) (by decide)
  have z1_2 := lv_neT w1_2 (a := 2) (by decide)
  have z1_3 := lv_neT w1_3 (a := 3) (by decide)
  have z1_4 := lv_neT w1_4 (a := 4) (by decide)
  have z1_5 := lv_neT w1_5 (a := 5) (by decide)
  have z1_6 := lv_neT w1_6 (a := 6) (by decide)
  have z1_7 := lv_neT w1_7 (a := 7) (by decide)
  have z1_8 := lv_neT w1_8 (a := 8) (by decide)
  have z1_9 := lv_neT w1_9 (a := 9) (by decide)
  have z1_10 := lv_neT w1_10 (a := 10) (by decide)
  have z1_11 := lv_neT w1_11 (a := 11) (by decide)
  have z1_12 := lv_neT w1_12 (a := 12) (by decide)
  refine lv_tableOut (tgt := 189) hx hb dX8_count_1 (by omega) (by decide) ?_
  refine lv_sipush (v := (-1000)) hx hb dX8_count_189 (by decide) ?_
  rw [hQ]
  have hP9 := hP.sub (ws' := []) [] rfl
  have hD9 := hD.sub (ws' := []) [] (by decide) rfl
  exact W.iret (v := (-1000)) hx hb hr (fun zt ht hW => ⟨⟨(-1000), (), rfl, (by unfold aC; rw [if_neg w1_1, if_neg w1_2, if_neg (fun h => by have h1 : (0 : Int) ≤ q.toInt := Int32.le_iff_toInt_le.mp h.1; have h2 : q.toInt ≤ 12 := Int32.le_iff_toInt_le.mp h.2; omega)]), by rw [ht]; exact hP9, hD9⟩, hS.F ht⟩) hS.2.2 dX8_count_192
