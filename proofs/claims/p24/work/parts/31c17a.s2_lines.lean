theorem dX1_clear_0 : decode cX1_clear 0 = .ok (.aload_n 0, 1) := dk_aload_n_0 (by decide +kernel)
theorem dX1_clear_1 : decode cX1_clear 1 = .ok (.iconst 0, 1) := dk_iconst_0 (by decide +kernel)
theorem dX1_clear_2 : decode cX1_clear 2 = .ok (.putfield 21, 3) := dk_putfield (by decide +kernel)
theorem dX1_clear_5 : decode cX1_clear 5 = .ok (.return_, 1) := dk_return_ (by decide +kernel)
set_option maxHeartbeats 4000000 in
set_option maxRecDepth 100000 in
theorem sX1_clear (l : Launch) (D : va_G) (k : Nat → ClassId) (sz : Nat) (n : Nat) (n_deeds : Nat) (n_guests : Nat) (n_wholes : Nat) (n_size : Nat) (h_n_size : n_size ≤ 40) : Met l yX1_clear wsX1_clear ({ frames := 0, cells := 0, slots := 0, locals := 0 }) (va_Pc [.ref n] (kz_Pre D k [(n, kO 1 [.ref n_deeds, .ref n_guests, .ref n_wholes, .int (nI n_size)])] sz)) (va_Qv (fun (uu : Nat) => (uu ≤ 40) ∧ ((uu) = fX1_clear)) (fun uu zt => kz_B D (va_A [(n, kO 1 [.ref n_deeds, .ref n_guests, .ref n_wholes, .int (nI n_size)])] sz) [(n, kO 1 [.ref n_deeds, .ref n_guests, .ref n_wholes, .int (nI uu)])] zt) (va_A [(n, kO 1 [.ref n_deeds, .ref n_guests, .ref n_wholes, .int (nI n_size)])] sz)) 0 0 (va_A [(n, kO 1 [.ref n_deeds, .ref n_guests, .ref n_wholes, .int (nI n_size)])] sz) := by
  refine Met.ofW (cc := cX1_clear) (maxL := 1) (ret := none) (by decide) rfl ?_
  intro p e s m args below meth c s₁ B hml hv
  obtain ⟨hav, hsz, hP, hK, hD0, hE⟩ := hv
  have hx := B.exec
  have hb := B.bytes
  have hr := B.returns
  have hts := atoms_spec (ws := wsX1_clear) B.pre
  have hown : s.vm.findClass RX1 = some m.cls := findClass_of_methodNamed B.named
  have hlocks := B.notSynchronized
  have hi1 : ∀ w ∈ u_ws RX1 TX1 4, w ∈ wsX1_clear := fun w h9 => List.mem_cons_of_mem _ (List.mem_append_right _ h9)
  have lf21 := hts (.fieldLink RX1 21 "LastCook$Lines" "size" "I") (List.mem_cons_of_mem _ (List.mem_append_left _ (List.mem_of_getElem? (i := 0) rfl)))
  subst hsz
  have hD := hD0.self (sz := s.heap.size)
  generalize hAe : va_A [(n, kO 1 [.ref n_deeds, .ref n_guests, .ref n_wholes, .int (nI n_size)])] s.heap.size = A at hD ⊢
  have hA : ∀ q : Nat, s.heap.size ≤ q → A q := fun q h => by rw [← hAe]; exact Or.inr h
  have hS : va_S A s.heap s.heap [] := va_S.rf
  have hl := lv_entry ([.ref n]) (n := 1) (Nat.le_of_ble_eq_true rfl)
  rw [show entryFrame m args 1 = entryFrame m ([.ref n] : List Value).toArray 1 by rw [hav], lg_entry_eq]
  generalize (lg_sl ([.ref n]) ++ List.replicate (1 - (lg_sl ([.ref n])).length) Slot.unset).toArray = ls at hl ⊢
  have hl : lv_has ls 1 [(0, .ref n)] := hl
  obtain ⟨R, hR⟩ : ∃ R, R = (headSpec wsX1_clear ({ frames := 0, cells := 0, slots := 0, locals := 0 } : Room)).room := ⟨_, rfl⟩
  rw [← hR]
  generalize hQ : MQ below _ args s 0 0 A = Q
  replace hQ := hQ.symm
  obtain ⟨H, hH⟩ : ∃ H, H = s.heap := ⟨_, rfl⟩
  rw [← hH] at hP ⊢
  have hS : va_S A s.heap H [] := by rw [hH]; exact hS
  obtain ⟨E0, hE0⟩ : ∃ E0 : Nat, E0 = fX1_clear := ⟨_, rfl⟩
  have hZ : fX1_clear = E0 := hE0.symm
  refine lv_aload_n hx hb dX1_clear_0 rfl (lv_at hl 0 rfl) ?_
  refine lv_iconst (v := 0) hx hb dX1_clear_1 (by decide) ?_
  refine va_put (D := D) (ci := 1) (v := .int 0) (ty := .int) (C := RX1) (T := TX1) (N := 4) hx hb hts hi1 tyX1 tyX1_ok nmX1 hown hK hP hD hS 0 rfl rfl 3 (by decide) lf21 (fun _ h9 => h9) rfl (by decide +kernel) rfl rfl (Nat.le_of_ble_eq_true rfl) dX1_clear_2 (fun H locs hP hD hS => ?_)
  exact by
   have hP : va_P D vwCl [(n, kO 1 [.ref n_deeds, .ref n_guests, .ref n_wholes, .int 0])] H := hP
   have hD : va_D A [(n, kO 1 [.ref n_deeds, .ref n_guests, .ref n_wholes, .int 0])] := hD
   rw [hQ]
   have hP9 := hP.sub (ws' := [(n, kO 1 [.ref n_deeds, .ref n_guests, .ref n_wholes, .int (nI 0)])]) [0] rfl
   have hD9 := hD.sub (ws' := [(n, kO 1 [.ref n_deeds, .ref n_guests, .ref n_wholes, .int (nI 0)])]) [0] (by decide +kernel) rfl
   exact W.vret hx hb hr (fun zt ht hW => ⟨⟨0, rfl, ⟨(by first | omega | (dsimp only; omega) | assumption), (hZ.trans hE0)⟩, by rw [ht]; exact hP9, hD9⟩, hS.F ht⟩) hS.2.2 dX1_clear_5
theorem dX1_copyFrom_0 : decode cX1_copyFrom 0 = .ok (.aload_n 1, 1) := dk_aload_n_1 (by decide +kernel)
theorem dX1_copyFrom_1 : decode cX1_copyFrom 1 = .ok (.getfield 11, 3) := dk_getfield (by decide +kernel)
theorem dX1_copyFrom_4 : decode cX1_copyFrom 4 = .ok (.iconst 0, 1) := dk_iconst_0 (by decide +kernel)
theorem dX1_copyFrom_5 : decode cX1_copyFrom 5 = .ok (.aload_n 0, 1) := dk_aload_n_0 (by decide +kernel)
theorem dX1_copyFrom_6 : decode cX1_copyFrom 6 = .ok (.getfield 11, 3) := dk_getfield (by decide +kernel)
theorem dX1_copyFrom_9 : decode cX1_copyFrom 9 = .ok (.iconst 0, 1) := dk_iconst_0 (by decide +kernel)
theorem dX1_copyFrom_10 : decode cX1_copyFrom 10 = .ok (.bipush 40, 2) := dk_bipush (by decide +kernel)
theorem dX1_copyFrom_12 : decode cX1_copyFrom 12 = .ok (.invokestatic 25, 3) := dk_invokestatic (by decide +kernel)
theorem dX1_copyFrom_15 : decode cX1_copyFrom 15 = .ok (.aload_n 1, 1) := dk_aload_n_1 (by decide +kernel)
theorem dX1_copyFrom_16 : decode cX1_copyFrom 16 = .ok (.getfield 15, 3) := dk_getfield (by decide +kernel)
theorem dX1_copyFrom_19 : decode cX1_copyFrom 19 = .ok (.iconst 0, 1) := dk_iconst_0 (by decide +kernel)
theorem dX1_copyFrom_20 : decode cX1_copyFrom 20 = .ok (.aload_n 0, 1) := dk_aload_n_0 (by decide +kernel)
theorem dX1_copyFrom_21 : decode cX1_copyFrom 21 = .ok (.getfield 15, 3) := dk_getfield (by decide +kernel)
theorem dX1_copyFrom_24 : decode cX1_copyFrom 24 = .ok (.iconst 0, 1) := dk_iconst_0 (by decide +kernel)
theorem dX1_copyFrom_25 : decode cX1_copyFrom 25 = .ok (.bipush 40, 2) := dk_bipush (by decide +kernel)
theorem dX1_copyFrom_27 : decode cX1_copyFrom 27 = .ok (.invokestatic 25, 3) := dk_invokestatic (by decide +kernel)
theorem dX1_copyFrom_30 : decode cX1_copyFrom 30 = .ok (.aload_n 1, 1) := dk_aload_n_1 (by decide +kernel)
theorem dX1_copyFrom_31 : decode cX1_copyFrom 31 = .ok (.getfield 18, 3) := dk_getfield (by decide +kernel)
theorem dX1_copyFrom_34 : decode cX1_copyFrom 34 = .ok (.iconst 0, 1) := dk_iconst_0 (by decide +kernel)
theorem dX1_copyFrom_35 : decode cX1_copyFrom 35 = .ok (.aload_n 0, 1) := dk_aload_n_0 (by decide +kernel)
theorem dX1_copyFrom_36 : decode cX1_copyFrom 36 = .ok (.getfield 18, 3) := dk_getfield (by decide +kernel)
theorem dX1_copyFrom_39 : decode cX1_copyFrom 39 = .ok (.iconst 0, 1) := dk_iconst_0 (by decide +kernel)
theorem dX1_copyFrom_40 : decode cX1_copyFrom 40 = .ok (.bipush 40, 2) := dk_bipush (by decide +kernel)
theorem dX1_copyFrom_42 : decode cX1_copyFrom 42 = .ok (.invokestatic 25, 3) := dk_invokestatic (by decide +kernel)
theorem dX1_copyFrom_45 : decode cX1_copyFrom 45 = .ok (.aload_n 0, 1) := dk_aload_n_0 (by decide +kernel)
theorem dX1_copyFrom_46 : decode cX1_copyFrom 46 = .ok (.aload_n 1, 1) := dk_aload_n_1 (by decide +kernel)
theorem dX1_copyFrom_47 : decode cX1_copyFrom 47 = .ok (.getfield 21, 3) := dk_getfield (by decide +kernel)
theorem dX1_copyFrom_50 : decode cX1_copyFrom 50 = .ok (.putfield 21, 3) := dk_putfield (by decide +kernel)
theorem dX1_copyFrom_53 : decode cX1_copyFrom 53 = .ok (.return_, 1) := dk_return_ (by decide +kernel)
set_option maxHeartbeats 4000000 in
set_option maxRecDepth 100000 in
theorem sX1_copyFrom (l : Launch) (D : va_G) (k : Nat → ClassId) (sz : Nat) (n : Nat) (nn : Nat) (n_deeds : Nat) (n_guests : Nat) (n_wholes : Nat) (n_size : Nat) (n_deedsF : Nat → Int32) (n_guestsF : Nat → Int32) (n_wholesF : Nat → Int32) (nn_deeds : Nat) (nn_guests : Nat) (nn_wholes : Nat) (nn_size : Nat) (nn_deedsF : Nat → Int32) (nn_guestsF : Nat → Int32) (nn_wholesF : Nat → Int32) (h_n_size : n_size ≤ 40) (h_nn_size : nn_size ≤ 40) : Met l yX1_copyFrom wsX1_copyFrom ({ frames := 1, cells := 0, slots := 0, locals := 70 }) (va_Pc [.ref n, .ref nn] (kz_Pre D k [(n, kO 1 [.ref n_deeds, .ref n_guests, .ref n_wholes, .int (nI n_size)]), (n_deeds, kI k 40 n_deedsF), (n_guests, kI k 40 n_guestsF), (n_wholes, kI k 40 n_wholesF), (nn, kO 1 [.ref nn_deeds, .ref nn_guests, .ref nn_wholes, .int (nI nn_size)]), (nn_deeds, kI k 40 nn_deedsF), (nn_guests, kI k 40 nn_guestsF), (nn_wholes, kI k 40 nn_wholesF)] sz)) (va_Qv (fun (uu : Nat × (Nat → Int32) × (Nat → Int32) × (Nat → Int32)) => (uu.1 ≤ 40) ∧ ((uu.1, uu.2.1, uu.2.2.1, uu.2.2.2) = (fX1_copyFrom n_deedsF n_guestsF n_wholesF nn_size nn_deedsF nn_guestsF nn_wholesF))) (fun uu zt => kz_B D (va_A [(n, kO 1 [.ref n_deeds, .ref n_guests, .ref n_wholes, .int (nI n_size)]), (n_deeds, kI k 40 n_deedsF), (n_guests, kI k 40 n_guestsF), (n_wholes, kI k 40 n_wholesF), (nn, kO 1 [.ref nn_deeds, .ref nn_guests, .ref nn_wholes, .int (nI nn_size)]), (nn_deeds, kI k 40 nn_deedsF), (nn_guests, kI k 40 nn_guestsF), (nn_wholes, kI k 40 nn_wholesF)] sz) [(n, kO 1 [.ref n_deeds, .ref n_guests, .ref n_wholes, .int (nI uu.1)]), (n_deeds, kI k 40 uu.2.1), (n_guests, kI k 40 uu.2.2.1), (n_wholes, kI k 40 uu.2.2.2), (nn, kO 1 [.ref nn_deeds, .ref nn_guests, .ref nn_wholes, .int (nI nn_size)]), (nn_deeds, kI k 40 nn_deedsF), (nn_guests, kI k 40 nn_guestsF), (nn_wholes, kI k 40 nn_wholesF)] zt) (va_A [(n, kO 1 [.ref n_deeds, .ref n_guests, .ref n_wholes, .int (nI n_size)]), (n_deeds, kI k 40 n_deedsF), (n_guests, kI k 40 n_guestsF), (n_wholes, kI k 40 n_wholesF), (nn, kO 1 [.ref nn_deeds, .ref nn_guests, .ref nn_wholes, .int (nI nn_size)]), (nn_deeds, kI k 40 nn_deedsF), (nn_guests, kI k 40 nn_guestsF), (nn_wholes, kI k 40 nn_wholesF)] sz)) 0 0 (va_A [(n, kO 1 [.ref n_deeds, .ref n_guests, .ref n_wholes, .int (nI n_size)]), (n_deeds, kI k 40 n_deedsF), (n_guests, kI k 40 n_guestsF), (n_wholes, kI k 40 n_wholesF), (nn, kO 1 [.ref nn_deeds, .ref nn_guests, .ref nn_wholes, .int (nI nn_size)]), (nn_deeds, kI k 40 nn_deedsF), (nn_guests, kI k 40 nn_guestsF), (nn_wholes, kI k 40 nn_wholesF)] sz) := by
  refine Met.ofW (cc := cX1_copyFrom) (maxL := 2) (ret := none) (by decide) rfl ?_
  intro p e s m args below meth c s₁ B hml hv
  obtain ⟨hav, hsz, hP, hK, hD0, hE⟩ := hv
  have hx := B.exec
  have hb := B.bytes
  have hr := B.returns
  have hts := atoms_spec (ws := wsX1_copyFrom) B.pre
  have hown : s.vm.findClass RX1 = some m.cls := findClass_of_methodNamed B.named
  have hlocks := B.notSynchronized
  have hi1 : ∀ w ∈ u_ws RX1 TX1 4, w ∈ wsX1_copyFrom := fun w h9 => List.mem_cons_of_mem _ (List.mem_append_right _ h9)
  have lf11 := hts (.fieldLink RX1 11 "LastCook$Lines" "deeds" "[I") (List.mem_cons_of_mem _ (List.mem_append_left _ (List.mem_of_getElem? (i := 0) rfl)))
  have lm25 := hts (.methodLink RX1 25 arraycopyName) (List.mem_cons_of_mem _ (List.mem_append_left _ (List.mem_of_getElem? (i := 1) rfl)))
  have lna := hts (.native arraycopyName) (List.mem_cons_of_mem _ (List.mem_append_left _ (List.mem_of_getElem? (i := 2) rfl)))
  have lsa := hts (.static arraycopyName) (List.mem_cons_of_mem _ (List.mem_append_left _ (List.mem_of_getElem? (i := 3) rfl)))
  have lia := hts (.initialized "java/lang/System") (List.mem_cons_of_mem _ (List.mem_append_left _ (List.mem_of_getElem? (i := 4) rfl)))
  have lf15 := hts (.fieldLink RX1 15 "LastCook$Lines" "guests" "[I") (List.mem_cons_of_mem _ (List.mem_append_left _ (List.mem_of_getElem? (i := 5) rfl)))
  have lf18 := hts (.fieldLink RX1 18 "LastCook$Lines" "wholes" "[I") (List.mem_cons_of_mem _ (List.mem_append_left _ (List.mem_of_getElem? (i := 6) rfl)))
  have lf21 := hts (.fieldLink RX1 21 "LastCook$Lines" "size" "I") (List.mem_cons_of_mem _ (List.mem_append_left _ (List.mem_of_getElem? (i := 7) rfl)))
  subst hsz
  have hD := hD0.self (sz := s.heap.size)
  generalize hAe : va_A [(n, kO 1 [.ref n_deeds, .ref n_guests, .ref n_wholes, .int (nI n_size)]), (n_deeds, kI k 40 n_deedsF), (n_guests, kI k 40 n_guestsF), (n_wholes, kI k 40 n_wholesF), (nn, kO 1 [.ref nn_deeds, .ref nn_guests, .ref nn_wholes, .int (nI nn_size)]), (nn_deeds, kI k 40 nn_deedsF), (nn_guests, kI k 40 nn_guestsF), (nn_wholes, kI k 40 nn_wholesF)] s.heap.size = A at hD ⊢
  have hA : ∀ q : Nat, s.heap.size ≤ q → A q := fun q h => by rw [← hAe]; exact Or.inr h
  have hS : va_S A s.heap s.heap [] := va_S.rf
  have hl := lv_entry ([.ref n, .ref nn]) (n := 2) (Nat.le_of_ble_eq_true rfl)
  rw [show entryFrame m args 2 = entryFrame m ([.ref n, .ref nn] : List Value).toArray 2 by rw [hav], lg_entry_eq]
  generalize (lg_sl ([.ref n, .ref nn]) ++ List.replicate (2 - (lg_sl ([.ref n, .ref nn])).length) Slot.unset).toArray = ls at hl ⊢
  have hl : lv_has ls 2 [(0, .ref n), (1, .ref nn)] := hl
  obtain ⟨R, hR⟩ : ∃ R, R = (headSpec wsX1_copyFrom ({ frames := 1, cells := 0, slots := 0, locals := 70 } : Room)).room := ⟨_, rfl⟩
  rw [← hR]
  generalize hQ : MQ below _ args s 0 0 A = Q
  replace hQ := hQ.symm
  obtain ⟨H, hH⟩ : ∃ H, H = s.heap := ⟨_, rfl⟩
  rw [← hH] at hP ⊢
  have hS : va_S A s.heap H [] := by rw [hH]; exact hS
  obtain ⟨E0, hE0⟩ : ∃ E0 : Nat × (Nat → Int32) × (Nat → Int32) × (Nat → Int32), E0 = (fX1_copyFrom n_deedsF n_guestsF n_wholesF nn_size nn_deedsF nn_guestsF nn_wholesF) := ⟨_, rfl⟩
  have hZ : (fX1_copyFrom n_deedsF n_guestsF n_wholesF nn_size nn_deedsF nn_guestsF nn_wholesF) = E0 := hE0.symm
  refine lv_aload_n hx hb dX1_copyFrom_0 rfl (lv_at hl 1 rfl) ?_
  refine va_get (D := D) (ci := 1) (v := .ref nn_deeds) (C := RX1) (T := TX1) (N := 4) hx hb hts hi1 hown hK hP 4 rfl rfl 0 (by decide) lf11 (fun _ h9 => h9) rfl dX1_copyFrom_1 ?_
  refine lv_iconst (v := 0) hx hb dX1_copyFrom_4 (by decide) ?_
  refine lv_aload_n hx hb dX1_copyFrom_5 rfl (lv_at hl 0 rfl) ?_
  refine va_get (D := D) (ci := 1) (v := .ref n_deeds) (C := RX1) (T := TX1) (N := 4) hx hb hts hi1 hown hK hP 0 rfl rfl 0 (by decide) lf11 (fun _ h9 => h9) rfl dX1_copyFrom_6 ?_
  refine lv_iconst (v := 0) hx hb dX1_copyFrom_9 (by decide) ?_
  refine lv_bipush (v := 40) hx hb dX1_copyFrom_10 (by decide) ?_
  refine va_copyi (ty := .int) hx hb (hml.trans hl.1.symm) hown lm25 lna lsa lia hK hP hD hS 5 1 0 0 rfl rfl rfl rfl rfl (by decide +kernel) (by decide +kernel) (by decide +kernel) (by decide +kernel) (by decide +kernel) (fun _ _ => rfl) (by rw [hR]; exact Nat.le_of_ble_eq_true rfl) (by rw [hR]; decide +kernel) dX1_copyFrom_12 (fun H locs hP hD hS => ?_)
  exact by
   have hP : va_P D vwCl [(n, kO 1 [.ref n_deeds, .ref n_guests, .ref n_wholes, .int (nI n_size)]), (n_deeds, kI k 40 (va_cpy nn_deedsF n_deedsF 0 0 40)), (n_guests, kI k 40 n_guestsF), (n_wholes, kI k 40 n_wholesF), (nn, kO 1 [.ref nn_deeds, .ref nn_guests, .ref nn_wholes, .int (nI nn_size)]), (nn_deeds, kI k 40 nn_deedsF), (nn_guests, kI k 40 nn_guestsF), (nn_wholes, kI k 40 nn_wholesF)] H := hP
   have hD : va_D A [(n, kO 1 [.ref n_deeds, .ref n_guests, .ref n_wholes, .int (nI n_size)]), (n_deeds, kI k 40 (va_cpy nn_deedsF n_deedsF 0 0 40)), (n_guests, kI k 40 n_guestsF), (n_wholes, kI k 40 n_wholesF), (nn, kO 1 [.ref nn_deeds, .ref nn_guests, .ref nn_wholes, .int (nI nn_size)]), (nn_deeds, kI k 40 nn_deedsF), (nn_guests, kI k 40 nn_guestsF), (nn_wholes, kI k 40 nn_wholesF)] := hD
   refine lv_aload_n hx hb dX1_copyFrom_15 rfl (lv_at hl 1 rfl) ?_
   refine va_get (D := D) (ci := 1) (v := .ref nn_guests) (C := RX1) (T := TX1) (N := 4) hx hb hts hi1 hown hK hP 4 rfl rfl 1 (by decide) lf15 (fun _ h9 => h9) rfl dX1_copyFrom_16 ?_
   refine lv_iconst (v := 0) hx hb dX1_copyFrom_19 (by decide) ?_
   refine lv_aload_n hx hb dX1_copyFrom_20 rfl (lv_at hl 0 rfl) ?_
   refine va_get (D := D) (ci := 1) (v := .ref n_guests) (C := RX1) (T := TX1) (N := 4) hx hb hts hi1 hown hK hP 0 rfl rfl 1 (by decide) lf15 (fun _ h9 => h9) rfl dX1_copyFrom_21 ?_
   refine lv_iconst (v := 0) hx hb dX1_copyFrom_24 (by decide) ?_
   refine lv_bipush (v := 40) hx hb dX1_copyFrom_25 (by decide) ?_
   refine va_copyi (ty := .int) hx hb (hml.trans hl.1.symm) hown lm25 lna lsa lia hK hP hD hS 6 2 0 0 rfl rfl rfl rfl rfl (by decide +kernel) (by decide +kernel) (by decide +kernel) (by decide +kernel) (by decide +kernel) (fun _ _ => rfl) (by rw [hR]; exact Nat.le_of_ble_eq_true rfl) (by rw [hR]; decide +kernel) dX1_copyFrom_27 (fun H locs hP hD hS => ?_)
   exact by
    have hP : va_P D vwCl [(n, kO 1 [.ref n_deeds, .ref n_guests, .ref n_wholes, .int (nI n_size)]), (n_deeds, kI k 40 (va_cpy nn_deedsF n_deedsF 0 0 40)), (n_guests, kI k 40 (va_cpy nn_guestsF n_guestsF 0 0 40)), (n_wholes, kI k 40 n_wholesF), (nn, kO 1 [.ref nn_deeds, .ref nn_guests, .ref nn_wholes, .int (nI nn_size)]), (nn_deeds, kI k 40 nn_deedsF), (nn_guests, kI k 40 nn_guestsF), (nn_wholes, kI k 40 nn_wholesF)] H := hP
    have hD : va_D A [(n, kO 1 [.ref n_deeds, .ref n_guests, .ref n_wholes, .int (nI n_size)]), (n_deeds, kI k 40 (va_cpy nn_deedsF n_deedsF 0 0 40)), (n_guests, kI k 40 (va_cpy nn_guestsF n_guestsF 0 0 40)), (n_wholes, kI k 40 n_wholesF), (nn, kO 1 [.ref nn_deeds, .ref nn_guests, .ref nn_wholes, .int (nI nn_size)]), (nn_deeds, kI k 40 nn_deedsF), (nn_guests, kI k 40 nn_guestsF), (nn_wholes, kI k 40 nn_wholesF)] := hD
    refine lv_aload_n hx hb dX1_copyFrom_30 rfl (lv_at hl 1 rfl) ?_
    refine va_get (D := D) (ci := 1) (v := .ref nn_wholes) (C := RX1) (T := TX1) (N := 4) hx hb hts hi1 hown hK hP 4 rfl rfl 2 (by decide) lf18 (fun _ h9 => h9) rfl dX1_copyFrom_31 ?_
    refine lv_iconst (v := 0) hx hb dX1_copyFrom_34 (by decide) ?_
    refine lv_aload_n hx hb dX1_copyFrom_35 rfl (lv_at hl 0 rfl) ?_
    refine va_get (D := D) (ci := 1) (v := .ref n_wholes) (C := RX1) (T := TX1) (N := 4) hx hb hts hi1 hown hK hP 0 rfl rfl 2 (by decide) lf18 (fun _ h9 => h9) rfl dX1_copyFrom_36 ?_
    refine lv_iconst (v := 0) hx hb dX1_copyFrom_39 (by decide) ?_
    refine lv_bipush (v := 40) hx hb dX1_copyFrom_40 (by decide) ?_
    refine va_copyi (ty := .int) hx hb (hml.trans hl.1.symm) hown lm25 lna lsa lia hK hP hD hS 7 3 0 0 rfl rfl rfl rfl rfl (by decide +kernel) (by decide +kernel) (by decide +kernel) (by decide +kernel) (by decide +kernel) (fun _ _ => rfl) (by rw [hR]; exact Nat.le_of_ble_eq_true rfl) (by rw [hR]; decide +kernel) dX1_copyFrom_42 (fun H locs hP hD hS => ?_)
    exact by
     have hP : va_P D vwCl [(n, kO 1 [.ref n_deeds, .ref n_guests, .ref n_wholes, .int (nI n_size)]), (n_deeds, kI k 40 (va_cpy nn_deedsF n_deedsF 0 0 40)), (n_guests, kI k 40 (va_cpy nn_guestsF n_guestsF 0 0 40)), (n_wholes, kI k 40 (va_cpy nn_wholesF n_wholesF 0 0 40)), (nn, kO 1 [.ref nn_deeds, .ref nn_guests, .ref nn_wholes, .int (nI nn_size)]), (nn_deeds, kI k 40 nn_deedsF), (nn_guests, kI k 40 nn_guestsF), (nn_wholes, kI k 40 nn_wholesF)] H := hP
     have hD : va_D A [(n, kO 1 [.ref n_deeds, .ref n_guests, .ref n_wholes, .int (nI n_size)]), (n_deeds, kI k 40 (va_cpy nn_deedsF n_deedsF 0 0 40)), (n_guests, kI k 40 (va_cpy nn_guestsF n_guestsF 0 0 40)), (n_wholes, kI k 40 (va_cpy nn_wholesF n_wholesF 0 0 40)), (nn, kO 1 [.ref nn_deeds, .ref nn_guests, .ref nn_wholes, .int (nI nn_size)]), (nn_deeds, kI k 40 nn_deedsF), (nn_guests, kI k 40 nn_guestsF), (nn_wholes, kI k 40 nn_wholesF)] := hD
     refine lv_aload_n hx hb dX1_copyFrom_45 rfl (lv_at hl 0 rfl) ?_
     refine lv_aload_n hx hb dX1_copyFrom_46 rfl (lv_at hl 1 rfl) ?_
     refine va_get (D := D) (ci := 1) (v := .int (nI nn_size)) (C := RX1) (T := TX1) (N := 4) hx hb hts hi1 hown hK hP 4 rfl rfl 3 (by decide) lf21 (fun _ h9 => h9) rfl dX1_copyFrom_47 ?_
     refine va_put (D := D) (ci := 1) (v := .int (nI nn_size)) (ty := .int) (C := RX1) (T := TX1) (N := 4) hx hb hts hi1 tyX1 tyX1_ok nmX1 hown hK hP hD hS 0 rfl rfl 3 (by decide) lf21 (fun _ h9 => h9) rfl (by decide +kernel) rfl rfl (Nat.le_of_ble_eq_true rfl) dX1_copyFrom_50 (fun H locs hP hD hS => ?_)
     exact by
      have hP : va_P D vwCl [(n, kO 1 [.ref n_deeds, .ref n_guests, .ref n_wholes, .int (nI nn_size)]), (n_deeds, kI k 40 (va_cpy nn_deedsF n_deedsF 0 0 40)), (n_guests, kI k 40 (va_cpy nn_guestsF n_guestsF 0 0 40)), (n_wholes, kI k 40 (va_cpy nn_wholesF n_wholesF 0 0 40)), (nn, kO 1 [.ref nn_deeds, .ref nn_guests, .ref nn_wholes, .int (nI nn_size)]), (nn_deeds, kI k 40 nn_deedsF), (nn_guests, kI k 40 nn_guestsF), (nn_wholes, kI k 40 nn_wholesF)] H := hP
      have hD : va_D A [(n, kO 1 [.ref n_deeds, .ref n_guests, .ref n_wholes, .int (nI nn_size)]), (n_deeds, kI k 40 (va_cpy nn_deedsF n_deedsF 0 0 40)), (n_guests, kI k 40 (va_cpy nn_guestsF n_guestsF 0 0 40)), (n_wholes, kI k 40 (va_cpy nn_wholesF n_wholesF 0 0 40)), (nn, kO 1 [.ref nn_deeds, .ref nn_guests, .ref nn_wholes, .int (nI nn_size)]), (nn_deeds, kI k 40 nn_deedsF), (nn_guests, kI k 40 nn_guestsF), (nn_wholes, kI k 40 nn_wholesF)] := hD
      rw [hQ]
      have hP9 := hP.sub (ws' := [(n, kO 1 [.ref n_deeds, .ref n_guests, .ref n_wholes, .int (nI nn_size)]), (n_deeds, kI k 40 (va_cpy nn_deedsF n_deedsF 0 0 40)), (n_guests, kI k 40 (va_cpy nn_guestsF n_guestsF 0 0 40)), (n_wholes, kI k 40 (va_cpy nn_wholesF n_wholesF 0 0 40)), (nn, kO 1 [.ref nn_deeds, .ref nn_guests, .ref nn_wholes, .int (nI nn_size)]), (nn_deeds, kI k 40 nn_deedsF), (nn_guests, kI k 40 nn_guestsF), (nn_wholes, kI k 40 nn_wholesF)]) [0, 1, 2, 3, 4, 5, 6, 7] rfl
      have hD9 := hD.sub (ws' := [(n, kO 1 [.ref n_deeds, .ref n_guests, .ref n_wholes, .int (nI nn_size)]), (n_deeds, kI k 40 (va_cpy nn_deedsF n_deedsF 0 0 40)), (n_guests, kI k 40 (va_cpy nn_guestsF n_guestsF 0 0 40)), (n_wholes, kI k 40 (va_cpy nn_wholesF n_wholesF 0 0 40)), (nn, kO 1 [.ref nn_deeds, .ref nn_guests, .ref nn_wholes, .int (nI nn_size)]), (nn_deeds, kI k 40 nn_deedsF), (nn_guests, kI k 40 nn_guestsF), (nn_wholes, kI k 40 nn_wholesF)]) [0, 1, 2, 3, 4, 5, 6, 7] (by decide +kernel) rfl
      exact W.vret hx hb hr (fun zt ht hW => ⟨⟨⟨nn_size, (va_cpy nn_deedsF n_deedsF 0 0 40), (va_cpy nn_guestsF n_guestsF 0 0 40), (va_cpy nn_wholesF n_wholesF 0 0 40)⟩, rfl, ⟨(by first | omega | (dsimp only; omega) | assumption), (hZ.trans hE0)⟩, by rw [ht]; exact hP9, hD9⟩, hS.F ht⟩) hS.2.2 dX1_copyFrom_53
theorem dX1_play_0 : decode cX1_play 0 = .ok (.iload_n 1, 1) := dk_iload_n_1 (by decide +kernel)
theorem dX1_play_1 : decode cX1_play 1 = .ok (.ifCond .lt 11, 3) := dk_ifCond_lt (by decide +kernel)
theorem dX1_play_4 : decode cX1_play 4 = .ok (.iload_n 1, 1) := dk_iload_n_1 (by decide +kernel)
theorem dX1_play_5 : decode cX1_play 5 = .ok (.aload_n 0, 1) := dk_aload_n_0 (by decide +kernel)
theorem dX1_play_6 : decode cX1_play 6 = .ok (.getfield 21, 3) := dk_getfield (by decide +kernel)
theorem dX1_play_9 : decode cX1_play 9 = .ok (.if_icmp .lt 5, 3) := dk_if_icmp_lt (by decide +kernel)
theorem dX1_play_12 : decode cX1_play 12 = .ok (.iconst 0, 1) := dk_iconst_0 (by decide +kernel)
theorem dX1_play_13 : decode cX1_play 13 = .ok (.ireturn, 1) := dk_ireturn (by decide +kernel)
theorem dX1_play_14 : decode cX1_play 14 = .ok (.aload_n 0, 1) := dk_aload_n_0 (by decide +kernel)
theorem dX1_play_15 : decode cX1_play 15 = .ok (.getfield 15, 3) := dk_getfield (by decide +kernel)
theorem dX1_play_18 : decode cX1_play 18 = .ok (.iload_n 1, 1) := dk_iload_n_1 (by decide +kernel)
theorem dX1_play_19 : decode cX1_play 19 = .ok (.iaload, 1) := dk_iaload (by decide +kernel)
theorem dX1_play_20 : decode cX1_play 20 = .ok (.istore 4, 2) := dk_istore (by decide +kernel)
theorem dX1_play_22 : decode cX1_play 22 = .ok (.aload_n 0, 1) := dk_aload_n_0 (by decide +kernel)
theorem dX1_play_23 : decode cX1_play 23 = .ok (.getfield 11, 3) := dk_getfield (by decide +kernel)
theorem dX1_play_26 : decode cX1_play 26 = .ok (.iload_n 1, 1) := dk_iload_n_1 (by decide +kernel)
theorem dX1_play_27 : decode cX1_play 27 = .ok (.iaload, 1) := dk_iaload (by decide +kernel)
theorem dX1_play_28 : decode cX1_play 28 = .ok (.tableswitch 67 8 10 #[28, 41, 54], 28) := by decide +kernel
theorem dX1_play_56 : decode cX1_play 56 = .ok (.aload_n 2, 1) := dk_aload_n_2 (by decide +kernel)
theorem dX1_play_57 : decode cX1_play 57 = .ok (.iload 4, 2) := dk_iload (by decide +kernel)
theorem dX1_play_59 : decode cX1_play 59 = .ok (.aload_n 0, 1) := dk_aload_n_0 (by decide +kernel)
theorem dX1_play_60 : decode cX1_play 60 = .ok (.getfield 18, 3) := dk_getfield (by decide +kernel)
theorem dX1_play_63 : decode cX1_play 63 = .ok (.iload_n 1, 1) := dk_iload_n_1 (by decide +kernel)
theorem dX1_play_64 : decode cX1_play 64 = .ok (.iaload, 1) := dk_iaload (by decide +kernel)
theorem dX1_play_65 : decode cX1_play 65 = .ok (.invokevirtual 84, 3) := dk_invokevirtual (by decide +kernel)
theorem dX1_play_68 : decode cX1_play 68 = .ok (.ireturn, 1) := dk_ireturn (by decide +kernel)
theorem dX1_play_69 : decode cX1_play 69 = .ok (.aload_n 2, 1) := dk_aload_n_2 (by decide +kernel)
theorem dX1_play_70 : decode cX1_play 70 = .ok (.iload 4, 2) := dk_iload (by decide +kernel)
theorem dX1_play_72 : decode cX1_play 72 = .ok (.aload_n 0, 1) := dk_aload_n_0 (by decide +kernel)
theorem dX1_play_73 : decode cX1_play 73 = .ok (.getfield 18, 3) := dk_getfield (by decide +kernel)
theorem dX1_play_76 : decode cX1_play 76 = .ok (.iload_n 1, 1) := dk_iload_n_1 (by decide +kernel)
theorem dX1_play_77 : decode cX1_play 77 = .ok (.iaload, 1) := dk_iaload (by decide +kernel)
theorem dX1_play_78 : decode cX1_play 78 = .ok (.invokevirtual 90, 3) := dk_invokevirtual (by decide +kernel)
theorem dX1_play_81 : decode cX1_play 81 = .ok (.ireturn, 1) := dk_ireturn (by decide +kernel)
theorem dX1_play_82 : decode cX1_play 82 = .ok (.aload_n 2, 1) := dk_aload_n_2 (by decide +kernel)
theorem dX1_play_83 : decode cX1_play 83 = .ok (.iload 4, 2) := dk_iload (by decide +kernel)
theorem dX1_play_85 : decode cX1_play 85 = .ok (.aload_n 0, 1) := dk_aload_n_0 (by decide +kernel)
theorem dX1_play_86 : decode cX1_play 86 = .ok (.getfield 18, 3) := dk_getfield (by decide +kernel)
theorem dX1_play_89 : decode cX1_play 89 = .ok (.iload_n 1, 1) := dk_iload_n_1 (by decide +kernel)
theorem dX1_play_90 : decode cX1_play 90 = .ok (.iaload, 1) := dk_iaload (by decide +kernel)
theorem dX1_play_91 : decode cX1_play 91 = .ok (.invokevirtual 93, 3) := dk_invokevirtual (by decide +kernel)
theorem dX1_play_94 : decode cX1_play 94 = .ok (.ireturn, 1) := dk_ireturn (by decide +kernel)
theorem dX1_play_95 : decode cX1_play 95 = .ok (.aload_n 2, 1) := dk_aload_n_2 (by decide +kernel)
theorem dX1_play_96 : decode cX1_play 96 = .ok (.aload_n 3, 1) := dk_aload_n_3 (by decide +kernel)
theorem dX1_play_97 : decode cX1_play 97 = .ok (.invokevirtual 96, 3) := dk_invokevirtual (by decide +kernel)
theorem dX1_play_100 : decode cX1_play 100 = .ok (.pop, 1) := dk_pop (by decide +kernel)
theorem dX1_play_101 : decode cX1_play 101 = .ok (.iconst 1, 1) := dk_iconst_1 (by decide +kernel)
theorem dX1_play_102 : decode cX1_play 102 = .ok (.ireturn, 1) := dk_ireturn (by decide +kernel)
set_option maxRecDepth 20000 in
theorem ggX1_play_X4_loseWheel : GoodIn wsX1_play wsX4_loseWheel := goodIn_sub (sub_cons (List.mem_cons_of_mem _ (List.mem_append_left _ (List.mem_append_left _ (List.mem_append_left _ (List.mem_append_left _ (List.mem_append_left _ (List.mem_of_getElem? (i := 8) rfl))))))) (sub_app (sub_cons (List.mem_cons_of_mem _ (List.mem_append_left _ (List.mem_append_left _ (List.mem_append_left _ (List.mem_append_left _ (List.mem_append_left _ (List.mem_of_getElem? (i := 9) rfl))))))) (sub_cons (List.mem_cons_of_mem _ (List.mem_append_left _ (List.mem_append_left _ (List.mem_append_left _ (List.mem_append_left _ (List.mem_append_left _ (List.mem_of_getElem? (i := 10) rfl))))))) (sub_cons (List.mem_cons_of_mem _ (List.mem_append_left _ (List.mem_append_left _ (List.mem_append_left _ (List.mem_append_left _ (List.mem_append_left _ (List.mem_of_getElem? (i := 11) rfl))))))) (sub_cons (List.mem_cons_of_mem _ (List.mem_append_left _ (List.mem_append_left _ (List.mem_append_left _ (List.mem_append_left _ (List.mem_append_left _ (List.mem_of_getElem? (i := 12) rfl))))))) (sub_cons (List.mem_cons_of_mem _ (List.mem_append_left _ (List.mem_append_left _ (List.mem_append_left _ (List.mem_append_left _ (List.mem_append_left _ (List.mem_of_getElem? (i := 13) rfl))))))) (sub_cons (List.mem_cons_of_mem _ (List.mem_append_left _ (List.mem_append_left _ (List.mem_append_left _ (List.mem_append_left _ (List.mem_append_left _ (List.mem_of_getElem? (i := 14) rfl))))))) (sub_cons (List.mem_cons_of_mem _ (List.mem_append_left _ (List.mem_append_left _ (List.mem_append_left _ (List.mem_append_left _ (List.mem_append_left _ (List.mem_of_getElem? (i := 15) rfl))))))) (sub_cons (List.mem_cons_of_mem _ (List.mem_append_left _ (List.mem_append_left _ (List.mem_append_left _ (List.mem_append_left _ (List.mem_append_left _ (List.mem_of_getElem? (i := 16) rfl))))))) (sub_cons (List.mem_cons_of_mem _ (List.mem_append_left _ (List.mem_append_left _ (List.mem_append_left _ (List.mem_append_left _ (List.mem_append_left _ (List.mem_of_getElem? (i := 7) rfl))))))) (sub_cons (List.mem_cons_of_mem _ (List.mem_append_left _ (List.mem_append_left _ (List.mem_append_left _ (List.mem_append_left _ (List.mem_append_left _ (List.mem_of_getElem? (i := 17) rfl))))))) (sub_cons (List.mem_cons_of_mem _ (List.mem_append_left _ (List.mem_append_left _ (List.mem_append_left _ (List.mem_append_left _ (List.mem_append_left _ (List.mem_of_getElem? (i := 18) rfl))))))) sub_nil))))))))))) (fun w h9 => (List.mem_cons_of_mem _ (List.mem_append_left _ (List.mem_append_left _ (List.mem_append_right _ h9))))))) gw_X4_loseWheel
set_option maxRecDepth 20000 in
theorem gX1_play_X4_loseWheel : GoodIn wsX1_play (wsV RX1 84 RX4 yX4_loseWheel wsX4_loseWheel) := goodIn_app (goodIn_sub (sub_cons (List.mem_cons_of_mem _ (List.mem_append_left _ (List.mem_append_left _ (List.mem_append_left _ (List.mem_append_left _ (List.mem_append_left _ (List.mem_of_getElem? (i := 4) rfl))))))) (sub_cons (List.mem_cons_of_mem _ (List.mem_append_left _ (List.mem_append_left _ (List.mem_append_left _ (List.mem_append_left _ (List.mem_append_left _ (List.mem_of_getElem? (i := 5) rfl))))))) (sub_cons (List.mem_cons_of_mem _ (List.mem_append_left _ (List.mem_append_left _ (List.mem_append_left _ (List.mem_append_left _ (List.mem_append_left _ (List.mem_of_getElem? (i := 6) rfl))))))) (sub_cons (List.mem_cons_of_mem _ (List.mem_append_left _ (List.mem_append_left _ (List.mem_append_left _ (List.mem_append_left _ (List.mem_append_left _ (List.mem_of_getElem? (i := 7) rfl))))))) sub_nil)))) (by decide +kernel)) ggX1_play_X4_loseWheel
set_option maxRecDepth 20000 in
theorem ggX1_play_X4_quicken : GoodIn wsX1_play wsX4_quicken := goodIn_sub (sub_cons (List.mem_cons_of_mem _ (List.mem_append_left _ (List.mem_append_left _ (List.mem_append_left _ (List.mem_append_left _ (List.mem_append_left _ (List.mem_of_getElem? (i := 22) rfl))))))) (sub_app (sub_cons (List.mem_cons_of_mem _ (List.mem_append_left _ (List.mem_append_left _ (List.mem_append_left _ (List.mem_append_left _ (List.mem_append_left _ (List.mem_of_getElem? (i := 23) rfl))))))) (sub_cons (List.mem_cons_of_mem _ (List.mem_append_left _ (List.mem_append_left _ (List.mem_append_left _ (List.mem_append_left _ (List.mem_append_left _ (List.mem_of_getElem? (i := 10) rfl))))))) (sub_cons (List.mem_cons_of_mem _ (List.mem_append_left _ (List.mem_append_left _ (List.mem_append_left _ (List.mem_append_left _ (List.mem_append_left _ (List.mem_of_getElem? (i := 11) rfl))))))) (sub_cons (List.mem_cons_of_mem _ (List.mem_append_left _ (List.mem_append_left _ (List.mem_append_left _ (List.mem_append_left _ (List.mem_append_left _ (List.mem_of_getElem? (i := 12) rfl))))))) (sub_cons (List.mem_cons_of_mem _ (List.mem_append_left _ (List.mem_append_left _ (List.mem_append_left _ (List.mem_append_left _ (List.mem_append_left _ (List.mem_of_getElem? (i := 13) rfl))))))) (sub_cons (List.mem_cons_of_mem _ (List.mem_append_left _ (List.mem_append_left _ (List.mem_append_left _ (List.mem_append_left _ (List.mem_append_left _ (List.mem_of_getElem? (i := 14) rfl))))))) (sub_cons (List.mem_cons_of_mem _ (List.mem_append_left _ (List.mem_append_left _ (List.mem_append_left _ (List.mem_append_left _ (List.mem_append_left _ (List.mem_of_getElem? (i := 15) rfl))))))) (sub_cons (List.mem_cons_of_mem _ (List.mem_append_left _ (List.mem_append_left _ (List.mem_append_left _ (List.mem_append_left _ (List.mem_append_left _ (List.mem_of_getElem? (i := 16) rfl))))))) (sub_cons (List.mem_cons_of_mem _ (List.mem_append_left _ (List.mem_append_left _ (List.mem_append_left _ (List.mem_append_left _ (List.mem_append_left _ (List.mem_of_getElem? (i := 7) rfl))))))) (sub_cons (List.mem_cons_of_mem _ (List.mem_append_left _ (List.mem_append_left _ (List.mem_append_left _ (List.mem_append_left _ (List.mem_append_left _ (List.mem_of_getElem? (i := 17) rfl))))))) (sub_cons (List.mem_cons_of_mem _ (List.mem_append_left _ (List.mem_append_left _ (List.mem_append_left _ (List.mem_append_left _ (List.mem_append_left _ (List.mem_of_getElem? (i := 18) rfl))))))) sub_nil))))))))))) (fun w h9 => (List.mem_cons_of_mem _ (List.mem_append_left _ (List.mem_append_left _ (List.mem_append_right _ h9))))))) gw_X4_quicken
set_option maxRecDepth 20000 in
theorem gX1_play_X4_quicken : GoodIn wsX1_play (wsV RX1 90 RX4 yX4_quicken wsX4_quicken) := goodIn_app (goodIn_sub (sub_cons (List.mem_cons_of_mem _ (List.mem_append_left _ (List.mem_append_left _ (List.mem_append_left _ (List.mem_append_left _ (List.mem_append_left _ (List.mem_of_getElem? (i := 19) rfl))))))) (sub_cons (List.mem_cons_of_mem _ (List.mem_append_left _ (List.mem_append_left _ (List.mem_append_left _ (List.mem_append_left _ (List.mem_append_left _ (List.mem_of_getElem? (i := 20) rfl))))))) (sub_cons (List.mem_cons_of_mem _ (List.mem_append_left _ (List.mem_append_left _ (List.mem_append_left _ (List.mem_append_left _ (List.mem_append_left _ (List.mem_of_getElem? (i := 21) rfl))))))) (sub_cons (List.mem_cons_of_mem _ (List.mem_append_left _ (List.mem_append_left _ (List.mem_append_left _ (List.mem_append_left _ (List.mem_append_left _ (List.mem_of_getElem? (i := 7) rfl))))))) sub_nil)))) (by decide +kernel)) ggX1_play_X4_quicken
set_option maxRecDepth 20000 in
theorem ggX1_play_X4_engage : GoodIn wsX1_play wsX4_engage := goodIn_sub (sub_cons (List.mem_cons_of_mem _ (List.mem_append_left _ (List.mem_append_left _ (List.mem_append_left _ (List.mem_append_left _ (List.mem_append_right _ (List.mem_append_left _ (List.mem_of_getElem? (i := 3) rfl)))))))) (sub_app (sub_cons (List.mem_cons_of_mem _ (List.mem_append_left _ (List.mem_append_left _ (List.mem_append_left _ (List.mem_append_left _ (List.mem_append_right _ (List.mem_append_left _ (List.mem_of_getElem? (i := 4) rfl)))))))) (sub_cons (List.mem_cons_of_mem _ (List.mem_append_left _ (List.mem_append_left _ (List.mem_append_left _ (List.mem_append_left _ (List.mem_append_right _ (List.mem_append_left _ (List.mem_of_getElem? (i := 5) rfl)))))))) (sub_cons (List.mem_cons_of_mem _ (List.mem_append_left _ (List.mem_append_left _ (List.mem_append_left _ (List.mem_append_left _ (List.mem_append_right _ (List.mem_append_left _ (List.mem_of_getElem? (i := 6) rfl)))))))) (sub_cons (List.mem_cons_of_mem _ (List.mem_append_left _ (List.mem_append_left _ (List.mem_append_left _ (List.mem_append_left _ (List.mem_append_right _ (List.mem_append_left _ (List.mem_of_getElem? (i := 7) rfl)))))))) (sub_cons (List.mem_cons_of_mem _ (List.mem_append_left _ (List.mem_append_left _ (List.mem_append_left _ (List.mem_append_left _ (List.mem_append_left _ (List.mem_of_getElem? (i := 7) rfl))))))) (sub_cons (List.mem_cons_of_mem _ (List.mem_append_left _ (List.mem_append_left _ (List.mem_append_left _ (List.mem_append_left _ (List.mem_append_right _ (List.mem_append_left _ (List.mem_of_getElem? (i := 8) rfl)))))))) (sub_cons (List.mem_cons_of_mem _ (List.mem_append_left _ (List.mem_append_left _ (List.mem_append_left _ (List.mem_append_left _ (List.mem_append_left _ (List.mem_of_getElem? (i := 14) rfl))))))) (sub_cons (List.mem_cons_of_mem _ (List.mem_append_left _ (List.mem_append_left _ (List.mem_append_left _ (List.mem_append_left _ (List.mem_append_left _ (List.mem_of_getElem? (i := 15) rfl))))))) (sub_cons (List.mem_cons_of_mem _ (List.mem_append_left _ (List.mem_append_left _ (List.mem_append_left _ (List.mem_append_left _ (List.mem_append_left _ (List.mem_of_getElem? (i := 16) rfl))))))) (sub_cons (List.mem_cons_of_mem _ (List.mem_append_left _ (List.mem_append_left _ (List.mem_append_left _ (List.mem_append_left _ (List.mem_append_left _ (List.mem_of_getElem? (i := 17) rfl))))))) (sub_cons (List.mem_cons_of_mem _ (List.mem_append_left _ (List.mem_append_left _ (List.mem_append_left _ (List.mem_append_left _ (List.mem_append_left _ (List.mem_of_getElem? (i := 18) rfl))))))) sub_nil))))))))))) (fun w h9 => (List.mem_cons_of_mem _ (List.mem_append_left _ (List.mem_append_left _ (List.mem_append_right _ h9))))))) gw_X4_engage
set_option maxRecDepth 20000 in
theorem gX1_play_X4_engage : GoodIn wsX1_play (wsV RX1 93 RX4 yX4_engage wsX4_engage) := goodIn_app (goodIn_sub (sub_cons (List.mem_cons_of_mem _ (List.mem_append_left _ (List.mem_append_left _ (List.mem_append_left _ (List.mem_append_left _ (List.mem_append_right _ (List.mem_append_left _ (List.mem_of_getElem? (i := 0) rfl)))))))) (sub_cons (List.mem_cons_of_mem _ (List.mem_append_left _ (List.mem_append_left _ (List.mem_append_left _ (List.mem_append_left _ (List.mem_append_right _ (List.mem_append_left _ (List.mem_of_getElem? (i := 1) rfl)))))))) (sub_cons (List.mem_cons_of_mem _ (List.mem_append_left _ (List.mem_append_left _ (List.mem_append_left _ (List.mem_append_left _ (List.mem_append_right _ (List.mem_append_left _ (List.mem_of_getElem? (i := 2) rfl)))))))) (sub_cons (List.mem_cons_of_mem _ (List.mem_append_left _ (List.mem_append_left _ (List.mem_append_left _ (List.mem_append_left _ (List.mem_append_left _ (List.mem_of_getElem? (i := 7) rfl))))))) sub_nil)))) (by decide +kernel)) ggX1_play_X4_engage
set_option maxRecDepth 20000 in
theorem ggX1_play_X4_pass : GoodIn wsX1_play wsX4_pass := goodIn_sub (sub_cons (List.mem_cons_of_mem _ (List.mem_append_left _ (List.mem_append_left _ (List.mem_append_left _ (List.mem_append_left _ (List.mem_append_right _ (List.mem_append_left _ (List.mem_of_getElem? (i := 12) rfl)))))))) (sub_app (sub_app (sub_app (sub_app (sub_cons (List.mem_cons_of_mem _ (List.mem_append_left _ (List.mem_append_left _ (List.mem_append_left _ (List.mem_append_left _ (List.mem_append_right _ (List.mem_append_left _ (List.mem_of_getElem? (i := 13) rfl)))))))) (sub_cons (List.mem_cons_of_mem _ (List.mem_append_left _ (List.mem_append_left _ (List.mem_append_left _ (List.mem_append_left _ (List.mem_append_right _ (List.mem_append_left _ (List.mem_of_getElem? (i := 14) rfl)))))))) (sub_cons (List.mem_cons_of_mem _ (List.mem_append_left _ (List.mem_append_left _ (List.mem_append_left _ (List.mem_append_left _ (List.mem_append_right _ (List.mem_append_left _ (List.mem_of_getElem? (i := 15) rfl)))))))) (sub_cons (List.mem_cons_of_mem _ (List.mem_append_left _ (List.mem_append_left _ (List.mem_append_left _ (List.mem_append_left _ (List.mem_append_right _ (List.mem_append_left _ (List.mem_of_getElem? (i := 16) rfl)))))))) (sub_cons (List.mem_cons_of_mem _ (List.mem_append_left _ (List.mem_append_left _ (List.mem_append_left _ (List.mem_append_left _ (List.mem_append_right _ (List.mem_append_left _ (List.mem_of_getElem? (i := 17) rfl)))))))) (sub_cons (List.mem_cons_of_mem _ (List.mem_append_left _ (List.mem_append_left _ (List.mem_append_left _ (List.mem_append_left _ (List.mem_append_right _ (List.mem_append_left _ (List.mem_of_getElem? (i := 18) rfl)))))))) (sub_cons (List.mem_cons_of_mem _ (List.mem_append_left _ (List.mem_append_left _ (List.mem_append_left _ (List.mem_append_left _ (List.mem_append_right _ (List.mem_append_left _ (List.mem_of_getElem? (i := 19) rfl)))))))) (sub_cons (List.mem_cons_of_mem _ (List.mem_append_left _ (List.mem_append_left _ (List.mem_append_left _ (List.mem_append_left _ (List.mem_append_right _ (List.mem_append_left _ (List.mem_of_getElem? (i := 20) rfl)))))))) (sub_cons (List.mem_cons_of_mem _ (List.mem_append_left _ (List.mem_append_left _ (List.mem_append_left _ (List.mem_append_left _ (List.mem_append_right _ (List.mem_append_left _ (List.mem_of_getElem? (i := 21) rfl)))))))) (sub_cons (List.mem_cons_of_mem _ (List.mem_append_left _ (List.mem_append_left _ (List.mem_append_left _ (List.mem_append_left _ (List.mem_append_right _ (List.mem_append_left _ (List.mem_of_getElem? (i := 22) rfl)))))))) (sub_cons (List.mem_cons_of_mem _ (List.mem_append_left _ (List.mem_append_left _ (List.mem_append_left _ (List.mem_append_left _ (List.mem_append_right _ (List.mem_append_left _ (List.mem_of_getElem? (i := 23) rfl)))))))) (sub_cons (List.mem_cons_of_mem _ (List.mem_append_left _ (List.mem_append_left _ (List.mem_append_left _ (List.mem_append_left _ (List.mem_append_left _ (List.mem_of_getElem? (i := 7) rfl))))))) (sub_cons (List.mem_cons_of_mem _ (List.mem_append_left _ (List.mem_append_left _ (List.mem_append_left _ (List.mem_append_left _ (List.mem_append_right _ (List.mem_append_right _ (List.mem_append_left _ (List.mem_of_getElem? (i := 0) rfl))))))))) (sub_cons (List.mem_cons_of_mem _ (List.mem_append_left _ (List.mem_append_left _ (List.mem_append_left _ (List.mem_append_left _ (List.mem_append_right _ (List.mem_append_right _ (List.mem_append_left _ (List.mem_of_getElem? (i := 1) rfl))))))))) (sub_cons (List.mem_cons_of_mem _ (List.mem_append_left _ (List.mem_append_left _ (List.mem_append_left _ (List.mem_append_left _ (List.mem_append_right _ (List.mem_append_right _ (List.mem_append_left _ (List.mem_of_getElem? (i := 2) rfl))))))))) (sub_cons (List.mem_cons_of_mem _ (List.mem_append_left _ (List.mem_append_left _ (List.mem_append_left _ (List.mem_append_left _ (List.mem_append_right _ (List.mem_append_right _ (List.mem_append_left _ (List.mem_of_getElem? (i := 3) rfl))))))))) (sub_cons (List.mem_cons_of_mem _ (List.mem_append_left _ (List.mem_append_left _ (List.mem_append_left _ (List.mem_append_left _ (List.mem_append_right _ (List.mem_append_right _ (List.mem_append_left _ (List.mem_of_getElem? (i := 4) rfl))))))))) (sub_cons (List.mem_cons_of_mem _ (List.mem_append_left _ (List.mem_append_left _ (List.mem_append_left _ (List.mem_append_left _ (List.mem_append_right _ (List.mem_append_right _ (List.mem_append_left _ (List.mem_of_getElem? (i := 5) rfl))))))))) (sub_cons (List.mem_cons_of_mem _ (List.mem_append_left _ (List.mem_append_left _ (List.mem_append_left _ (List.mem_append_left _ (List.mem_append_right _ (List.mem_append_right _ (List.mem_append_left _ (List.mem_of_getElem? (i := 6) rfl))))))))) (sub_cons (List.mem_cons_of_mem _ (List.mem_append_left _ (List.mem_append_left _ (List.mem_append_left _ (List.mem_append_left _ (List.mem_append_right _ (List.mem_append_right _ (List.mem_append_left _ (List.mem_of_getElem? (i := 7) rfl))))))))) (sub_cons (List.mem_cons_of_mem _ (List.mem_append_left _ (List.mem_append_left _ (List.mem_append_left _ (List.mem_append_left _ (List.mem_append_left _ (List.mem_of_getElem? (i := 9) rfl))))))) (sub_cons (List.mem_cons_of_mem _ (List.mem_append_left _ (List.mem_append_left _ (List.mem_append_left _ (List.mem_append_left _ (List.mem_append_left _ (List.mem_of_getElem? (i := 18) rfl))))))) (sub_cons (List.mem_cons_of_mem _ (List.mem_append_left _ (List.mem_append_left _ (List.mem_append_left _ (List.mem_append_left _ (List.mem_append_right _ (List.mem_append_right _ (List.mem_append_left _ (List.mem_of_getElem? (i := 8) rfl))))))))) (sub_cons (List.mem_cons_of_mem _ (List.mem_append_left _ (List.mem_append_left _ (List.mem_append_left _ (List.mem_append_left _ (List.mem_append_left _ (List.mem_of_getElem? (i := 10) rfl))))))) sub_nil)))))))))))))))))))))))) (sub_app (sub_cons (List.mem_cons_of_mem _ (List.mem_append_left _ (List.mem_append_left _ (List.mem_append_left _ (List.mem_append_left _ (List.mem_append_left _ (List.mem_of_getElem? (i := 11) rfl))))))) (sub_cons (List.mem_cons_of_mem _ (List.mem_append_left _ (List.mem_append_left _ (List.mem_append_left _ (List.mem_append_left _ (List.mem_append_left _ (List.mem_of_getElem? (i := 12) rfl))))))) (sub_cons (List.mem_cons_of_mem _ (List.mem_append_left _ (List.mem_append_left _ (List.mem_append_left _ (List.mem_append_left _ (List.mem_append_left _ (List.mem_of_getElem? (i := 13) rfl))))))) (sub_cons (List.mem_cons_of_mem _ (List.mem_append_left _ (List.mem_append_left _ (List.mem_append_left _ (List.mem_append_left _ (List.mem_append_left _ (List.mem_of_getElem? (i := 23) rfl))))))) (sub_cons (List.mem_cons_of_mem _ (List.mem_append_left _ (List.mem_append_left _ (List.mem_append_left _ (List.mem_append_left _ (List.mem_append_right _ (List.mem_append_right _ (List.mem_append_left _ (List.mem_of_getElem? (i := 9) rfl))))))))) (sub_cons (List.mem_cons_of_mem _ (List.mem_append_left _ (List.mem_append_left _ (List.mem_append_left _ (List.mem_append_left _ (List.mem_append_right _ (List.mem_append_right _ (List.mem_append_left _ (List.mem_of_getElem? (i := 10) rfl))))))))) (sub_cons (List.mem_cons_of_mem _ (List.mem_append_left _ (List.mem_append_left _ (List.mem_append_left _ (List.mem_append_left _ (List.mem_append_right _ (List.mem_append_right _ (List.mem_append_left _ (List.mem_of_getElem? (i := 11) rfl))))))))) (sub_cons (List.mem_cons_of_mem _ (List.mem_append_left _ (List.mem_append_left _ (List.mem_append_left _ (List.mem_append_left _ (List.mem_append_right _ (List.mem_append_right _ (List.mem_append_left _ (List.mem_of_getElem? (i := 12) rfl))))))))) (sub_cons (List.mem_cons_of_mem _ (List.mem_append_left _ (List.mem_append_left _ (List.mem_append_left _ (List.mem_append_left _ (List.mem_append_right _ (List.mem_append_right _ (List.mem_append_left _ (List.mem_of_getElem? (i := 13) rfl))))))))) (sub_cons (List.mem_cons_of_mem _ (List.mem_append_left _ (List.mem_append_left _ (List.mem_append_left _ (List.mem_append_left _ (List.mem_append_right _ (List.mem_append_right _ (List.mem_append_left _ (List.mem_of_getElem? (i := 14) rfl))))))))) (sub_cons (List.mem_cons_of_mem _ (List.mem_append_left _ (List.mem_append_left _ (List.mem_append_left _ (List.mem_append_left _ (List.mem_append_right _ (List.mem_append_right _ (List.mem_append_left _ (List.mem_of_getElem? (i := 15) rfl))))))))) (sub_cons (List.mem_cons_of_mem _ (List.mem_append_left _ (List.mem_append_left _ (List.mem_append_left _ (List.mem_append_left _ (List.mem_append_right _ (List.mem_append_right _ (List.mem_append_left _ (List.mem_of_getElem? (i := 16) rfl))))))))) (sub_cons (List.mem_cons_of_mem _ (List.mem_append_left _ (List.mem_append_left _ (List.mem_append_left _ (List.mem_append_left _ (List.mem_append_right _ (List.mem_append_right _ (List.mem_append_left _ (List.mem_of_getElem? (i := 17) rfl))))))))) (sub_cons (List.mem_cons_of_mem _ (List.mem_append_left _ (List.mem_append_left _ (List.mem_append_left _ (List.mem_append_left _ (List.mem_append_right _ (List.mem_append_left _ (List.mem_of_getElem? (i := 4) rfl)))))))) (sub_cons (List.mem_cons_of_mem _ (List.mem_append_left _ (List.mem_append_left _ (List.mem_append_left _ (List.mem_append_left _ (List.mem_append_right _ (List.mem_append_right _ (List.mem_append_left _ (List.mem_of_getElem? (i := 18) rfl))))))))) (sub_cons (List.mem_cons_of_mem _ (List.mem_append_left _ (List.mem_append_left _ (List.mem_append_left _ (List.mem_append_left _ (List.mem_append_right _ (List.mem_append_right _ (List.mem_append_left _ (List.mem_of_getElem? (i := 19) rfl))))))))) (sub_cons (List.mem_cons_of_mem _ (List.mem_append_left _ (List.mem_append_left _ (List.mem_append_left _ (List.mem_append_left _ (List.mem_append_right _ (List.mem_append_right _ (List.mem_append_left _ (List.mem_of_getElem? (i := 20) rfl))))))))) (sub_cons (List.mem_cons_of_mem _ (List.mem_append_left _ (List.mem_append_left _ (List.mem_append_left _ (List.mem_append_left _ (List.mem_append_right _ (List.mem_append_right _ (List.mem_append_left _ (List.mem_of_getElem? (i := 21) rfl))))))))) (sub_cons (List.mem_cons_of_mem _ (List.mem_append_left _ (List.mem_append_left _ (List.mem_append_left _ (List.mem_append_left _ (List.mem_append_right _ (List.mem_append_right _ (List.mem_append_left _ (List.mem_of_getElem? (i := 22) rfl))))))))) (sub_cons (List.mem_cons_of_mem _ (List.mem_append_left _ (List.mem_append_left _ (List.mem_append_left _ (List.mem_append_left _ (List.mem_append_left _ (List.mem_of_getElem? (i := 14) rfl))))))) (sub_cons (List.mem_cons_of_mem _ (List.mem_append_left _ (List.mem_append_left _ (List.mem_append_left _ (List.mem_append_left _ (List.mem_append_left _ (List.mem_of_getElem? (i := 15) rfl))))))) (sub_cons (List.mem_cons_of_mem _ (List.mem_append_left _ (List.mem_append_left _ (List.mem_append_left _ (List.mem_append_left _ (List.mem_append_left _ (List.mem_of_getElem? (i := 16) rfl))))))) (sub_cons (List.mem_cons_of_mem _ (List.mem_append_left _ (List.mem_append_left _ (List.mem_append_left _ (List.mem_append_left _ (List.mem_append_left _ (List.mem_of_getElem? (i := 17) rfl))))))) (sub_cons (List.mem_cons_of_mem _ (List.mem_append_left _ (List.mem_append_left _ (List.mem_append_left _ (List.mem_append_left _ (List.mem_append_right _ (List.mem_append_right _ (List.mem_append_left _ (List.mem_of_getElem? (i := 23) rfl))))))))) sub_nil)))))))))))))))))))))))) (sub_app (sub_cons (List.mem_cons_of_mem _ (List.mem_append_left _ (List.mem_append_left _ (List.mem_append_left _ (List.mem_append_left _ (List.mem_append_right _ (List.mem_append_right _ (List.mem_append_right _ (List.mem_append_left _ (List.mem_of_getElem? (i := 0) rfl)))))))))) (sub_cons (List.mem_cons_of_mem _ (List.mem_append_left _ (List.mem_append_left _ (List.mem_append_left _ (List.mem_append_left _ (List.mem_append_right _ (List.mem_append_right _ (List.mem_append_right _ (List.mem_append_left _ (List.mem_of_getElem? (i := 1) rfl)))))))))) (sub_cons (List.mem_cons_of_mem _ (List.mem_append_left _ (List.mem_append_left _ (List.mem_append_left _ (List.mem_append_left _ (List.mem_append_right _ (List.mem_append_right _ (List.mem_append_right _ (List.mem_append_left _ (List.mem_of_getElem? (i := 2) rfl)))))))))) (sub_cons (List.mem_cons_of_mem _ (List.mem_append_left _ (List.mem_append_left _ (List.mem_append_left _ (List.mem_append_left _ (List.mem_append_right _ (List.mem_append_right _ (List.mem_append_right _ (List.mem_append_left _ (List.mem_of_getElem? (i := 3) rfl)))))))))) (sub_cons (List.mem_cons_of_mem _ (List.mem_append_left _ (List.mem_append_left _ (List.mem_append_left _ (List.mem_append_left _ (List.mem_append_right _ (List.mem_append_right _ (List.mem_append_right _ (List.mem_append_left _ (List.mem_of_getElem? (i := 4) rfl)))))))))) (sub_cons (List.mem_cons_of_mem _ (List.mem_append_left _ (List.mem_append_left _ (List.mem_append_left _ (List.mem_append_left _ (List.mem_append_right _ (List.mem_append_right _ (List.mem_append_right _ (List.mem_append_left _ (List.mem_of_getElem? (i := 5) rfl)))))))))) (sub_cons (List.mem_cons_of_mem _ (List.mem_append_left _ (List.mem_append_left _ (List.mem_append_left _ (List.mem_append_left _ (List.mem_append_right _ (List.mem_append_right _ (List.mem_append_right _ (List.mem_append_left _ (List.mem_of_getElem? (i := 6) rfl)))))))))) (sub_cons (List.mem_cons_of_mem _ (List.mem_append_left _ (List.mem_append_left _ (List.mem_append_left _ (List.mem_append_left _ (List.mem_append_right _ (List.mem_append_right _ (List.mem_append_right _ (List.mem_append_left _ (List.mem_of_getElem? (i := 7) rfl)))))))))) (sub_cons (List.mem_cons_of_mem _ (List.mem_append_left _ (List.mem_append_left _ (List.mem_append_left _ (List.mem_append_left _ (List.mem_append_right _ (List.mem_append_right _ (List.mem_append_right _ (List.mem_append_left _ (List.mem_of_getElem? (i := 8) rfl)))))))))) (sub_cons (List.mem_cons_of_mem _ (List.mem_append_left _ (List.mem_append_left _ (List.mem_append_left _ (List.mem_append_left _ (List.mem_append_right _ (List.mem_append_right _ (List.mem_append_right _ (List.mem_append_left _ (List.mem_of_getElem? (i := 9) rfl)))))))))) (sub_cons (List.mem_cons_of_mem _ (List.mem_append_left _ (List.mem_append_left _ (List.mem_append_left _ (List.mem_append_left _ (List.mem_append_right _ (List.mem_append_right _ (List.mem_append_right _ (List.mem_append_left _ (List.mem_of_getElem? (i := 10) rfl)))))))))) (sub_cons (List.mem_cons_of_mem _ (List.mem_append_left _ (List.mem_append_left _ (List.mem_append_left _ (List.mem_append_left _ (List.mem_append_right _ (List.mem_append_right _ (List.mem_append_right _ (List.mem_append_left _ (List.mem_of_getElem? (i := 11) rfl)))))))))) (sub_cons (List.mem_cons_of_mem _ (List.mem_append_left _ (List.mem_append_left _ (List.mem_append_left _ (List.mem_append_left _ (List.mem_append_right _ (List.mem_append_right _ (List.mem_append_right _ (List.mem_append_left _ (List.mem_of_getElem? (i := 12) rfl)))))))))) (sub_cons (List.mem_cons_of_mem _ (List.mem_append_left _ (List.mem_append_left _ (List.mem_append_left _ (List.mem_append_left _ (List.mem_append_right _ (List.mem_append_right _ (List.mem_append_right _ (List.mem_append_left _ (List.mem_of_getElem? (i := 13) rfl)))))))))) (sub_cons (List.mem_cons_of_mem _ (List.mem_append_left _ (List.mem_append_left _ (List.mem_append_left _ (List.mem_append_left _ (List.mem_append_right _ (List.mem_append_right _ (List.mem_append_right _ (List.mem_append_left _ (List.mem_of_getElem? (i := 14) rfl)))))))))) (sub_cons (List.mem_cons_of_mem _ (List.mem_append_left _ (List.mem_append_left _ (List.mem_append_left _ (List.mem_append_left _ (List.mem_append_right _ (List.mem_append_right _ (List.mem_append_right _ (List.mem_append_left _ (List.mem_of_getElem? (i := 15) rfl)))))))))) (sub_cons (List.mem_cons_of_mem _ (List.mem_append_left _ (List.mem_append_left _ (List.mem_append_left _ (List.mem_append_left _ (List.mem_append_right _ (List.mem_append_right _ (List.mem_append_right _ (List.mem_append_left _ (List.mem_of_getElem? (i := 16) rfl)))))))))) (sub_cons (List.mem_cons_of_mem _ (List.mem_append_left _ (List.mem_append_left _ (List.mem_append_left _ (List.mem_append_left _ (List.mem_append_right _ (List.mem_append_right _ (List.mem_append_right _ (List.mem_append_left _ (List.mem_of_getElem? (i := 17) rfl)))))))))) (sub_cons (List.mem_cons_of_mem _ (List.mem_append_left _ (List.mem_append_left _ (List.mem_append_left _ (List.mem_append_left _ (List.mem_append_right _ (List.mem_append_right _ (List.mem_append_right _ (List.mem_append_left _ (List.mem_of_getElem? (i := 18) rfl)))))))))) (sub_cons (List.mem_cons_of_mem _ (List.mem_append_left _ (List.mem_append_left _ (List.mem_append_left _ (List.mem_append_left _ (List.mem_append_right _ (List.mem_append_right _ (List.mem_append_right _ (List.mem_append_left _ (List.mem_of_getElem? (i := 19) rfl)))))))))) (sub_cons (List.mem_cons_of_mem _ (List.mem_append_left _ (List.mem_append_left _ (List.mem_append_left _ (List.mem_append_left _ (List.mem_append_right _ (List.mem_append_right _ (List.mem_append_right _ (List.mem_append_left _ (List.mem_of_getElem? (i := 20) rfl)))))))))) (sub_cons (List.mem_cons_of_mem _ (List.mem_append_left _ (List.mem_append_left _ (List.mem_append_left _ (List.mem_append_left _ (List.mem_append_right _ (List.mem_append_right _ (List.mem_append_right _ (List.mem_append_left _ (List.mem_of_getElem? (i := 21) rfl)))))))))) (sub_cons (List.mem_cons_of_mem _ (List.mem_append_left _ (List.mem_append_left _ (List.mem_append_left _ (List.mem_append_left _ (List.mem_append_right _ (List.mem_append_right _ (List.mem_append_right _ (List.mem_append_left _ (List.mem_of_getElem? (i := 22) rfl)))))))))) (sub_cons (List.mem_cons_of_mem _ (List.mem_append_left _ (List.mem_append_left _ (List.mem_append_left _ (List.mem_append_left _ (List.mem_append_right _ (List.mem_append_right _ (List.mem_append_right _ (List.mem_append_left _ (List.mem_of_getElem? (i := 23) rfl)))))))))) sub_nil)))))))))))))))))))))))) (sub_cons (List.mem_cons_of_mem _ (List.mem_append_left _ (List.mem_append_left _ (List.mem_append_left _ (List.mem_append_left _ (List.mem_append_right _ (List.mem_append_right _ (List.mem_append_right _ (List.mem_append_right _ (List.mem_of_getElem? (i := 0) rfl)))))))))) (sub_cons (List.mem_cons_of_mem _ (List.mem_append_left _ (List.mem_append_left _ (List.mem_append_left _ (List.mem_append_left _ (List.mem_append_right _ (List.mem_append_right _ (List.mem_append_right _ (List.mem_append_right _ (List.mem_of_getElem? (i := 1) rfl)))))))))) (sub_cons (List.mem_cons_of_mem _ (List.mem_append_left _ (List.mem_append_left _ (List.mem_append_left _ (List.mem_append_left _ (List.mem_append_right _ (List.mem_append_right _ (List.mem_append_right _ (List.mem_append_right _ (List.mem_of_getElem? (i := 2) rfl)))))))))) (sub_cons (List.mem_cons_of_mem _ (List.mem_append_left _ (List.mem_append_left _ (List.mem_append_left _ (List.mem_append_left _ (List.mem_append_right _ (List.mem_append_right _ (List.mem_append_right _ (List.mem_append_right _ (List.mem_of_getElem? (i := 3) rfl)))))))))) (sub_cons (List.mem_cons_of_mem _ (List.mem_append_left _ (List.mem_append_left _ (List.mem_append_left _ (List.mem_append_left _ (List.mem_append_right _ (List.mem_append_right _ (List.mem_append_right _ (List.mem_append_right _ (List.mem_of_getElem? (i := 4) rfl)))))))))) (sub_cons (List.mem_cons_of_mem _ (List.mem_append_left _ (List.mem_append_left _ (List.mem_append_left _ (List.mem_append_left _ (List.mem_append_right _ (List.mem_append_right _ (List.mem_append_right _ (List.mem_append_right _ (List.mem_of_getElem? (i := 5) rfl)))))))))) (sub_cons (List.mem_cons_of_mem _ (List.mem_append_left _ (List.mem_append_left _ (List.mem_append_left _ (List.mem_append_left _ (List.mem_append_right _ (List.mem_append_right _ (List.mem_append_right _ (List.mem_append_right _ (List.mem_of_getElem? (i := 6) rfl)))))))))) (sub_cons (List.mem_cons_of_mem _ (List.mem_append_left _ (List.mem_append_left _ (List.mem_append_left _ (List.mem_append_left _ (List.mem_append_right _ (List.mem_append_right _ (List.mem_append_right _ (List.mem_append_right _ (List.mem_of_getElem? (i := 7) rfl)))))))))) (sub_cons (List.mem_cons_of_mem _ (List.mem_append_left _ (List.mem_append_left _ (List.mem_append_left _ (List.mem_append_left _ (List.mem_append_right _ (List.mem_append_right _ (List.mem_append_right _ (List.mem_append_right _ (List.mem_of_getElem? (i := 8) rfl)))))))))) (sub_cons (List.mem_cons_of_mem _ (List.mem_append_left _ (List.mem_append_left _ (List.mem_append_left _ (List.mem_append_left _ (List.mem_append_right _ (List.mem_append_right _ (List.mem_append_right _ (List.mem_append_right _ (List.mem_of_getElem? (i := 9) rfl)))))))))) (sub_cons (List.mem_cons_of_mem _ (List.mem_append_left _ (List.mem_append_left _ (List.mem_append_left _ (List.mem_append_left _ (List.mem_append_right _ (List.mem_append_right _ (List.mem_append_right _ (List.mem_append_right _ (List.mem_of_getElem? (i := 10) rfl)))))))))) (sub_cons (List.mem_cons_of_mem _ (List.mem_append_left _ (List.mem_append_left _ (List.mem_append_left _ (List.mem_append_left _ (List.mem_append_right _ (List.mem_append_right _ (List.mem_append_right _ (List.mem_append_right _ (List.mem_of_getElem? (i := 11) rfl)))))))))) (sub_cons (List.mem_cons_of_mem _ (List.mem_append_left _ (List.mem_append_left _ (List.mem_append_left _ (List.mem_append_left _ (List.mem_append_right _ (List.mem_append_right _ (List.mem_append_right _ (List.mem_append_right _ (List.mem_of_getElem? (i := 12) rfl)))))))))) (sub_cons (List.mem_cons_of_mem _ (List.mem_append_left _ (List.mem_append_left _ (List.mem_append_left _ (List.mem_append_left _ (List.mem_append_right _ (List.mem_append_right _ (List.mem_append_right _ (List.mem_append_right _ (List.mem_of_getElem? (i := 13) rfl)))))))))) (sub_cons (List.mem_cons_of_mem _ (List.mem_append_left _ (List.mem_append_left _ (List.mem_append_left _ (List.mem_append_left _ (List.mem_append_right _ (List.mem_append_right _ (List.mem_append_right _ (List.mem_append_right _ (List.mem_of_getElem? (i := 14) rfl)))))))))) (sub_cons (List.mem_cons_of_mem _ (List.mem_append_left _ (List.mem_append_left _ (List.mem_append_left _ (List.mem_append_left _ (List.mem_append_right _ (List.mem_append_right _ (List.mem_append_right _ (List.mem_append_right _ (List.mem_of_getElem? (i := 15) rfl)))))))))) (sub_cons (List.mem_cons_of_mem _ (List.mem_append_left _ (List.mem_append_left _ (List.mem_append_left _ (List.mem_append_left _ (List.mem_append_right _ (List.mem_append_right _ (List.mem_append_right _ (List.mem_append_right _ (List.mem_of_getElem? (i := 16) rfl)))))))))) (sub_cons (List.mem_cons_of_mem _ (List.mem_append_left _ (List.mem_append_left _ (List.mem_append_left _ (List.mem_append_left _ (List.mem_append_right _ (List.mem_append_right _ (List.mem_append_right _ (List.mem_append_right _ (List.mem_of_getElem? (i := 17) rfl)))))))))) (sub_cons (List.mem_cons_of_mem _ (List.mem_append_left _ (List.mem_append_left _ (List.mem_append_left _ (List.mem_append_left _ (List.mem_append_right _ (List.mem_append_right _ (List.mem_append_right _ (List.mem_append_right _ (List.mem_of_getElem? (i := 18) rfl)))))))))) (sub_cons (List.mem_cons_of_mem _ (List.mem_append_left _ (List.mem_append_left _ (List.mem_append_left _ (List.mem_append_left _ (List.mem_append_right _ (List.mem_append_right _ (List.mem_append_right _ (List.mem_append_right _ (List.mem_of_getElem? (i := 19) rfl)))))))))) (sub_cons (List.mem_cons_of_mem _ (List.mem_append_left _ (List.mem_append_left _ (List.mem_append_left _ (List.mem_append_left _ (List.mem_append_right _ (List.mem_append_right _ (List.mem_append_right _ (List.mem_append_right _ (List.mem_of_getElem? (i := 20) rfl)))))))))) (sub_cons (List.mem_cons_of_mem _ (List.mem_append_left _ (List.mem_append_left _ (List.mem_append_left _ (List.mem_append_left _ (List.mem_append_right _ (List.mem_append_right _ (List.mem_append_right _ (List.mem_append_right _ (List.mem_of_getElem? (i := 21) rfl)))))))))) (sub_cons (List.mem_cons_of_mem _ (List.mem_append_left _ (List.mem_append_left _ (List.mem_append_left _ (List.mem_append_left _ (List.mem_append_right _ (List.mem_append_right _ (List.mem_append_right _ (List.mem_append_right _ (List.mem_of_getElem? (i := 22) rfl)))))))))) sub_nil)))))))))))))))))))))))))) (fun w h9 => (List.mem_cons_of_mem _ (List.mem_append_left _ (List.mem_append_left _ (List.mem_append_right _ h9)))))) (fun w h9 => (List.mem_cons_of_mem _ (List.mem_append_left _ (List.mem_append_right _ h9))))) (fun w h9 => (List.mem_cons_of_mem _ (List.mem_append_right _ h9))))) gw_X4_pass
set_option maxRecDepth 20000 in
theorem gX1_play_X4_pass : GoodIn wsX1_play (wsV RX1 96 RX4 yX4_pass wsX4_pass) := goodIn_app (goodIn_sub (sub_cons (List.mem_cons_of_mem _ (List.mem_append_left _ (List.mem_append_left _ (List.mem_append_left _ (List.mem_append_left _ (List.mem_append_right _ (List.mem_append_left _ (List.mem_of_getElem? (i := 9) rfl)))))))) (sub_cons (List.mem_cons_of_mem _ (List.mem_append_left _ (List.mem_append_left _ (List.mem_append_left _ (List.mem_append_left _ (List.mem_append_right _ (List.mem_append_left _ (List.mem_of_getElem? (i := 10) rfl)))))))) (sub_cons (List.mem_cons_of_mem _ (List.mem_append_left _ (List.mem_append_left _ (List.mem_append_left _ (List.mem_append_left _ (List.mem_append_right _ (List.mem_append_left _ (List.mem_of_getElem? (i := 11) rfl)))))))) (sub_cons (List.mem_cons_of_mem _ (List.mem_append_left _ (List.mem_append_left _ (List.mem_append_left _ (List.mem_append_left _ (List.mem_append_left _ (List.mem_of_getElem? (i := 7) rfl))))))) sub_nil)))) (by decide +kernel)) ggX1_play_X4_pass
set_option maxHeartbeats 4000000 in
set_option maxRecDepth 100000 in
theorem sX1_play (l : Launch) (D : va_G) (k : Nat → ClassId) (sz : Nat) (n : Nat) (ln : Int32) (d : Nat) (t : Nat) (n_deeds : Nat) (n_guests : Nat) (n_wholes : Nat) (n_size : Nat) (n_deedsF : Nat → Int32) (n_guestsF : Nat → Int32) (n_wholesF : Nat → Int32) (d_yards : Nat) (d_paces : Nat) (d_stuck : Nat) (d_hirers : Nat) (d_places : Nat) (d_cameAt : Nat) (d_cooked : Nat) (d_inside : Int32) (d_night : Int32) (d_minute : Int32) (d_tasted : Int32) (d_lastCook : Int32) (d_stirred : Bool) (d_yardsF : Nat → Int32) (d_pacesF : Nat → Int32) (d_stuckF : Nat → Int32) (d_hirersF : Nat → Int32) (d_placesF : Nat → Int32) (d_cameAtF : Nat → Int32) (d_cookedF : Nat → Int32) (t_names : Nat) (t_kinds : Nat) (t_yards : Nat) (t_paces : Nat) (t_skills : Nat) (t_snow : Nat) (tw : Nat) (t_guests : Nat) (t_snows : Nat) (t_bend : Int32) (t_hour : Int32) (t_bendTold : Bool) (t_hourTold : Bool) (t_kindsF : Nat → Int32) (t_yardsF : Nat → Int32) (t_pacesF : Nat → Int32) (t_skillsF : Nat → Int32) (t_snowF : Nat → Int32) (tw_code : Nat) (tw_stack : Nat) (tw_facts : Nat) (tw_length : Nat) (tw_top : Nat) (tw_codeF : Nat → Int32) (tw_stackF : Nat → Int32) (tw_factsF : Nat → Int32) (h_n_size : n_size ≤ 40) (h_t_guests : t_guests ≤ 6) (h_t_snows : t_snows ≤ 12) (h_tw_length : tw_length ≤ 1000) (h_tw_top : tw_top ≤ 24) : Met l yX1_play wsX1_play ({ frames := 6, cells := 0, slots := 0, locals := 420 }) (va_Pc [.ref n, .int ln, .ref d, .ref t] (kz_Pre D k [(n, kO 1 [.ref n_deeds, .ref n_guests, .ref n_wholes, .int (nI n_size)]), (n_deeds, kI k 40 n_deedsF), (n_guests, kI k 40 n_guestsF), (n_wholes, kI k 40 n_wholesF), (d, kO 4 [.ref d_yards, .ref d_paces, .ref d_stuck, .ref d_hirers, .ref d_places, .ref d_cameAt, .ref d_cooked, .int d_inside, .int d_night, .int d_minute, .int d_tasted, .int d_lastCook, .int (bB d_stirred)]), (d_yards, kI k 6 d_yardsF), (d_paces, kI k 6 d_pacesF), (d_stuck, kI k 6 d_stuckF), (d_hirers, kI k 6 d_hirersF), (d_places, kI k 6 d_placesF), (d_cameAt, kI k 6 d_cameAtF), (d_cooked, kI k 6 d_cookedF), (t, kO 7 [.ref t_names, .ref t_kinds, .ref t_yards, .ref t_paces, .ref t_skills, .ref t_snow, .ref tw, .int (nI t_guests), .int (nI t_snows), .int t_bend, .int t_hour, .int (bB t_bendTold), .int (bB t_hourTold)]), (t_kinds, kI k 6 t_kindsF), (t_yards, kI k 6 t_yardsF), (t_paces, kI k 6 t_pacesF), (t_skills, kI k 6 t_skillsF), (t_snow, kI k 12 t_snowF), (tw, kO 0 [.ref tw_code, .ref tw_stack, .ref tw_facts, .int (nI tw_length), .int (nI tw_top)]), (tw_code, kI k 1000 tw_codeF), (tw_stack, kI k 24 tw_stackF), (tw_facts, kI k 4 tw_factsF)] sz)) (va_Qi (fun (rr : Int32) (uu : Int32 × Int32 × Int32 × Int32 × Int32 × Bool × (Nat → Int32) × (Nat → Int32) × (Nat → Int32) × (Nat → Int32) × (Nat → Int32) × (Nat → Int32) × (Nat → Int32) × Nat × (Nat → Int32) × (Nat → Int32) × Bool) => rr = bB uu.2.2.2.2.2.2.2.2.2.2.2.2.2.2.2.2 ∧ (uu.2.2.2.2.2.2.2.2.2.2.2.2.2.1 ≤ 24) ∧ ((uu.1, uu.2.1, uu.2.2.1, uu.2.2.2.1, uu.2.2.2.2.1, uu.2.2.2.2.2.1, uu.2.2.2.2.2.2.1, uu.2.2.2.2.2.2.2.1, uu.2.2.2.2.2.2.2.2.1, uu.2.2.2.2.2.2.2.2.2.1, uu.2.2.2.2.2.2.2.2.2.2.1, uu.2.2.2.2.2.2.2.2.2.2.2.1, uu.2.2.2.2.2.2.2.2.2.2.2.2.1, uu.2.2.2.2.2.2.2.2.2.2.2.2.2.1, uu.2.2.2.2.2.2.2.2.2.2.2.2.2.2.1, uu.2.2.2.2.2.2.2.2.2.2.2.2.2.2.2.1, uu.2.2.2.2.2.2.2.2.2.2.2.2.2.2.2.2) = (fX1_play ln n_size n_deedsF n_guestsF n_wholesF d_inside d_night d_minute d_tasted d_lastCook d_stirred d_yardsF d_pacesF d_stuckF d_hirersF d_placesF d_cameAtF d_cookedF t_guests t_snows t_bend t_hour t_kindsF t_yardsF t_pacesF t_skillsF t_snowF tw_length tw_top tw_codeF tw_stackF tw_factsF))) (fun uu zt => kz_B D (va_A [(n, kO 1 [.ref n_deeds, .ref n_guests, .ref n_wholes, .int (nI n_size)]), (n_deeds, kI k 40 n_deedsF), (n_guests, kI k 40 n_guestsF), (n_wholes, kI k 40 n_wholesF), (d, kO 4 [.ref d_yards, .ref d_paces, .ref d_stuck, .ref d_hirers, .ref d_places, .ref d_cameAt, .ref d_cooked, .int d_inside, .int d_night, .int d_minute, .int d_tasted, .int d_lastCook, .int (bB d_stirred)]), (d_yards, kI k 6 d_yardsF), (d_paces, kI k 6 d_pacesF), (d_stuck, kI k 6 d_stuckF), (d_hirers, kI k 6 d_hirersF), (d_places, kI k 6 d_placesF), (d_cameAt, kI k 6 d_cameAtF), (d_cooked, kI k 6 d_cookedF), (t, kO 7 [.ref t_names, .ref t_kinds, .ref t_yards, .ref t_paces, .ref t_skills, .ref t_snow, .ref tw, .int (nI t_guests), .int (nI t_snows), .int t_bend, .int t_hour, .int (bB t_bendTold), .int (bB t_hourTold)]), (t_kinds, kI k 6 t_kindsF), (t_yards, kI k 6 t_yardsF), (t_paces, kI k 6 t_pacesF), (t_skills, kI k 6 t_skillsF), (t_snow, kI k 12 t_snowF), (tw, kO 0 [.ref tw_code, .ref tw_stack, .ref tw_facts, .int (nI tw_length), .int (nI tw_top)]), (tw_code, kI k 1000 tw_codeF), (tw_stack, kI k 24 tw_stackF), (tw_facts, kI k 4 tw_factsF)] sz) [(n, kO 1 [.ref n_deeds, .ref n_guests, .ref n_wholes, .int (nI n_size)]), (n_deeds, kI k 40 n_deedsF), (n_guests, kI k 40 n_guestsF), (n_wholes, kI k 40 n_wholesF), (d, kO 4 [.ref d_yards, .ref d_paces, .ref d_stuck, .ref d_hirers, .ref d_places, .ref d_cameAt, .ref d_cooked, .int uu.1, .int uu.2.1, .int uu.2.2.1, .int uu.2.2.2.1, .int uu.2.2.2.2.1, .int (bB uu.2.2.2.2.2.1)]), (d_yards, kI k 6 uu.2.2.2.2.2.2.1), (d_paces, kI k 6 uu.2.2.2.2.2.2.2.1), (d_stuck, kI k 6 uu.2.2.2.2.2.2.2.2.1), (d_hirers, kI k 6 uu.2.2.2.2.2.2.2.2.2.1), (d_places, kI k 6 uu.2.2.2.2.2.2.2.2.2.2.1), (d_cameAt, kI k 6 uu.2.2.2.2.2.2.2.2.2.2.2.1), (d_cooked, kI k 6 uu.2.2.2.2.2.2.2.2.2.2.2.2.1), (t, kO 7 [.ref t_names, .ref t_kinds, .ref t_yards, .ref t_paces, .ref t_skills, .ref t_snow, .ref tw, .int (nI t_guests), .int (nI t_snows), .int t_bend, .int t_hour, .int (bB t_bendTold), .int (bB t_hourTold)]), (t_kinds, kI k 6 t_kindsF), (t_yards, kI k 6 t_yardsF), (t_paces, kI k 6 t_pacesF), (t_skills, kI k 6 t_skillsF), (t_snow, kI k 12 t_snowF), (tw, kO 0 [.ref tw_code, .ref tw_stack, .ref tw_facts, .int (nI tw_length), .int (nI uu.2.2.2.2.2.2.2.2.2.2.2.2.2.1)]), (tw_code, kI k 1000 tw_codeF), (tw_stack, kI k 24 uu.2.2.2.2.2.2.2.2.2.2.2.2.2.2.1), (tw_facts, kI k 4 uu.2.2.2.2.2.2.2.2.2.2.2.2.2.2.2.1)] zt) (va_A [(n, kO 1 [.ref n_deeds, .ref n_guests, .ref n_wholes, .int (nI n_size)]), (n_deeds, kI k 40 n_deedsF), (n_guests, kI k 40 n_guestsF), (n_wholes, kI k 40 n_wholesF), (d, kO 4 [.ref d_yards, .ref d_paces, .ref d_stuck, .ref d_hirers, .ref d_places, .ref d_cameAt, .ref d_cooked, .int d_inside, .int d_night, .int d_minute, .int d_tasted, .int d_lastCook, .int (bB d_stirred)]), (d_yards, kI k 6 d_yardsF), (d_paces, kI k 6 d_pacesF), (d_stuck, kI k 6 d_stuckF), (d_hirers, kI k 6 d_hirersF), (d_places, kI k 6 d_placesF), (d_cameAt, kI k 6 d_cameAtF), (d_cooked, kI k 6 d_cookedF), (t, kO 7 [.ref t_names, .ref t_kinds, .ref t_yards, .ref t_paces, .ref t_skills, .ref t_snow, .ref tw, .int (nI t_guests), .int (nI t_snows), .int t_bend, .int t_hour, .int (bB t_bendTold), .int (bB t_hourTold)]), (t_kinds, kI k 6 t_kindsF), (t_yards, kI k 6 t_yardsF), (t_paces, kI k 6 t_pacesF), (t_skills, kI k 6 t_skillsF), (t_snow, kI k 12 t_snowF), (tw, kO 0 [.ref tw_code, .ref tw_stack, .ref tw_facts, .int (nI tw_length), .int (nI tw_top)]), (tw_code, kI k 1000 tw_codeF), (tw_stack, kI k 24 tw_stackF), (tw_facts, kI k 4 tw_factsF)] sz)) 0 0 (va_A [(n, kO 1 [.ref n_deeds, .ref n_guests, .ref n_wholes, .int (nI n_size)]), (n_deeds, kI k 40 n_deedsF), (n_guests, kI k 40 n_guestsF), (n_wholes, kI k 40 n_wholesF), (d, kO 4 [.ref d_yards, .ref d_paces, .ref d_stuck, .ref d_hirers, .ref d_places, .ref d_cameAt, .ref d_cooked, .int d_inside, .int d_night, .int d_minute, .int d_tasted, .int d_lastCook, .int (bB d_stirred)]), (d_yards, kI k 6 d_yardsF), (d_paces, kI k 6 d_pacesF), (d_stuck, kI k 6 d_stuckF), (d_hirers, kI k 6 d_hirersF), (d_places, kI k 6 d_placesF), (d_cameAt, kI k 6 d_cameAtF), (d_cooked, kI k 6 d_cookedF), (t, kO 7 [.ref t_names, .ref t_kinds, .ref t_yards, .ref t_paces, .ref t_skills, .ref t_snow, .ref tw, .int (nI t_guests), .int (nI t_snows), .int t_bend, .int t_hour, .int (bB t_bendTold), .int (bB t_hourTold)]), (t_kinds, kI k 6 t_kindsF), (t_yards, kI k 6 t_yardsF), (t_paces, kI k 6 t_pacesF), (t_skills, kI k 6 t_skillsF), (t_snow, kI k 12 t_snowF), (tw, kO 0 [.ref tw_code, .ref tw_stack, .ref tw_facts, .int (nI tw_length), .int (nI tw_top)]), (tw_code, kI k 1000 tw_codeF), (tw_stack, kI k 24 tw_stackF), (tw_facts, kI k 4 tw_factsF)] sz) := by
  refine Met.ofW (cc := cX1_play) (maxL := 5) (ret := (some .boolean)) (by decide) rfl ?_
  intro p e s m args below meth c s₁ B hml hv
  obtain ⟨hav, hsz, hP, hK, hD0, hE⟩ := hv
  have hx := B.exec
  have hb := B.bytes
  have hr := B.returns
  have hts := atoms_spec (ws := wsX1_play) B.pre
  have hown : s.vm.findClass RX1 = some m.cls := findClass_of_methodNamed B.named
  have hlocks := B.notSynchronized
  have hi1 : ∀ w ∈ u_ws RX1 TX1 4, w ∈ wsX1_play := fun w h9 => List.mem_cons_of_mem _ (List.mem_append_left _ (List.mem_append_left _ (List.mem_append_left _ (List.mem_append_right _ h9))))
  have lf21 := hts (.fieldLink RX1 21 "LastCook$Lines" "size" "I") (List.mem_cons_of_mem _ (List.mem_append_left _ (List.mem_append_left _ (List.mem_append_left _ (List.mem_append_left _ (List.mem_append_left _ (List.mem_of_getElem? (i := 0) rfl)))))))
  have lf15 := hts (.fieldLink RX1 15 "LastCook$Lines" "guests" "[I") (List.mem_cons_of_mem _ (List.mem_append_left _ (List.mem_append_left _ (List.mem_append_left _ (List.mem_append_left _ (List.mem_append_left _ (List.mem_of_getElem? (i := 1) rfl)))))))
  have lf11 := hts (.fieldLink RX1 11 "LastCook$Lines" "deeds" "[I") (List.mem_cons_of_mem _ (List.mem_append_left _ (List.mem_append_left _ (List.mem_append_left _ (List.mem_append_left _ (List.mem_append_left _ (List.mem_of_getElem? (i := 2) rfl)))))))
  have lf18 := hts (.fieldLink RX1 18 "LastCook$Lines" "wholes" "[I") (List.mem_cons_of_mem _ (List.mem_append_left _ (List.mem_append_left _ (List.mem_append_left _ (List.mem_append_left _ (List.mem_append_left _ (List.mem_of_getElem? (i := 3) rfl)))))))
  subst hsz
  have hD := hD0.self (sz := s.heap.size)
  generalize hAe : va_A [(n, kO 1 [.ref n_deeds, .ref n_guests, .ref n_wholes, .int (nI n_size)]), (n_deeds, kI k 40 n_deedsF), (n_guests, kI k 40 n_guestsF), (n_wholes, kI k 40 n_wholesF), (d, kO 4 [.ref d_yards, .ref d_paces, .ref d_stuck, .ref d_hirers, .ref d_places, .ref d_cameAt, .ref d_cooked, .int d_inside, .int d_night, .int d_minute, .int d_tasted, .int d_lastCook, .int (bB d_stirred)]), (d_yards, kI k 6 d_yardsF), (d_paces, kI k 6 d_pacesF), (d_stuck, kI k 6 d_stuckF), (d_hirers, kI k 6 d_hirersF), (d_places, kI k 6 d_placesF), (d_cameAt, kI k 6 d_cameAtF), (d_cooked, kI k 6 d_cookedF), (t, kO 7 [.ref t_names, .ref t_kinds, .ref t_yards, .ref t_paces, .ref t_skills, .ref t_snow, .ref tw, .int (nI t_guests), .int (nI t_snows), .int t_bend, .int t_hour, .int (bB t_bendTold), .int (bB t_hourTold)]), (t_kinds, kI k 6 t_kindsF), (t_yards, kI k 6 t_yardsF), (t_paces, kI k 6 t_pacesF), (t_skills, kI k 6 t_skillsF), (t_snow, kI k 12 t_snowF), (tw, kO 0 [.ref tw_code, .ref tw_stack, .ref tw_facts, .int (nI tw_length), .int (nI tw_top)]), (tw_code, kI k 1000 tw_codeF), (tw_stack, kI k 24 tw_stackF), (tw_facts, kI k 4 tw_factsF)] s.heap.size = A at hD ⊢
  have hA : ∀ q : Nat, s.heap.size ≤ q → A q := fun q h => by rw [← hAe]; exact Or.inr h
  have hS : va_S A s.heap s.heap [] := va_S.rf
  have hl := lv_entry ([.ref n, .int ln, .ref d, .ref t]) (n := 5) (Nat.le_of_ble_eq_true rfl)
  rw [show entryFrame m args 5 = entryFrame m ([.ref n, .int ln, .ref d, .ref t] : List Value).toArray 5 by rw [hav], lg_entry_eq]
  generalize (lg_sl ([.ref n, .int ln, .ref d, .ref t]) ++ List.replicate (5 - (lg_sl ([.ref n, .int ln, .ref d, .ref t])).length) Slot.unset).toArray = ls at hl ⊢
  have hl : lv_has ls 5 [(0, .ref n), (1, .int ln), (2, .ref d), (3, .ref t)] := hl
  obtain ⟨R, hR⟩ : ∃ R, R = (headSpec wsX1_play ({ frames := 6, cells := 0, slots := 0, locals := 420 } : Room)).room := ⟨_, rfl⟩
  rw [← hR]
  generalize hQ : MQ below _ args s 0 0 A = Q
  replace hQ := hQ.symm
  obtain ⟨H, hH⟩ : ∃ H, H = s.heap := ⟨_, rfl⟩
  rw [← hH] at hP ⊢
  have hS : va_S A s.heap H [] := by rw [hH]; exact hS
  obtain ⟨E0, hE0⟩ : ∃ E0 : Int32 × Int32 × Int32 × Int32 × Int32 × Bool × (Nat → Int32) × (Nat → Int32) × (Nat → Int32) × (Nat → Int32) × (Nat → Int32) × (Nat → Int32) × (Nat → Int32) × Nat × (Nat → Int32) × (Nat → Int32) × Bool, E0 = (fX1_play ln n_size n_deedsF n_guestsF n_wholesF d_inside d_night d_minute d_tasted d_lastCook d_stirred d_yardsF d_pacesF d_stuckF d_hirersF d_placesF d_cameAtF d_cookedF t_guests t_snows t_bend t_hour t_kindsF t_yardsF t_pacesF t_skillsF t_snowF tw_length tw_top tw_codeF tw_stackF tw_factsF) := ⟨_, rfl⟩
  have hZ : (fX1_play ln n_size n_deedsF n_guestsF n_wholesF d_inside d_night d_minute d_tasted d_lastCook d_stirred d_yardsF d_pacesF d_stuckF d_hirersF d_placesF d_cameAtF d_cookedF t_guests t_snows t_bend t_hour t_kindsF t_yardsF t_pacesF t_skillsF t_snowF tw_length tw_top tw_codeF tw_stackF tw_factsF) = E0 := hE0.symm
  refine lv_iload_n hx hb dX1_play_0 rfl (lv_at hl 1 rfl) ?_
  have hj12_1 : ∀ (H : Heap) (locs : List Loc) (ls : Array Slot), ((fX1_play_J12a d_inside d_night d_minute d_tasted d_lastCook d_stirred d_yardsF d_pacesF d_stuckF d_hirersF d_placesF d_cameAtF d_cookedF tw_top tw_stackF tw_factsF) = E0) → va_P D vwCl [(n, kO 1 [.ref n_deeds, .ref n_guests, .ref n_wholes, .int (nI n_size)]), (n_deeds, kI k 40 n_deedsF), (n_guests, kI k 40 n_guestsF), (n_wholes, kI k 40 n_wholesF), (d, kO 4 [.ref d_yards, .ref d_paces, .ref d_stuck, .ref d_hirers, .ref d_places, .ref d_cameAt, .ref d_cooked, .int d_inside, .int d_night, .int d_minute, .int d_tasted, .int d_lastCook, .int (bB d_stirred)]), (d_yards, kI k 6 d_yardsF), (d_paces, kI k 6 d_pacesF), (d_stuck, kI k 6 d_stuckF), (d_hirers, kI k 6 d_hirersF), (d_places, kI k 6 d_placesF), (d_cameAt, kI k 6 d_cameAtF), (d_cooked, kI k 6 d_cookedF), (t, kO 7 [.ref t_names, .ref t_kinds, .ref t_yards, .ref t_paces, .ref t_skills, .ref t_snow, .ref tw, .int (nI t_guests), .int (nI t_snows), .int t_bend, .int t_hour, .int (bB t_bendTold), .int (bB t_hourTold)]), (t_kinds, kI k 6 t_kindsF), (t_yards, kI k 6 t_yardsF), (t_paces, kI k 6 t_pacesF), (t_skills, kI k 6 t_skillsF), (t_snow, kI k 12 t_snowF), (tw, kO 0 [.ref tw_code, .ref tw_stack, .ref tw_facts, .int (nI tw_length), .int (nI tw_top)]), (tw_code, kI k 1000 tw_codeF), (tw_stack, kI k 24 tw_stackF), (tw_facts, kI k 4 tw_factsF)] H → va_D A [(n, kO 1 [.ref n_deeds, .ref n_guests, .ref n_wholes, .int (nI n_size)]), (n_deeds, kI k 40 n_deedsF), (n_guests, kI k 40 n_guestsF), (n_wholes, kI k 40 n_wholesF), (d, kO 4 [.ref d_yards, .ref d_paces, .ref d_stuck, .ref d_hirers, .ref d_places, .ref d_cameAt, .ref d_cooked, .int d_inside, .int d_night, .int d_minute, .int d_tasted, .int d_lastCook, .int (bB d_stirred)]), (d_yards, kI k 6 d_yardsF), (d_paces, kI k 6 d_pacesF), (d_stuck, kI k 6 d_stuckF), (d_hirers, kI k 6 d_hirersF), (d_places, kI k 6 d_placesF), (d_cameAt, kI k 6 d_cameAtF), (d_cooked, kI k 6 d_cookedF), (t, kO 7 [.ref t_names, .ref t_kinds, .ref t_yards, .ref t_paces, .ref t_skills, .ref t_snow, .ref tw, .int (nI t_guests), .int (nI t_snows), .int t_bend, .int t_hour, .int (bB t_bendTold), .int (bB t_hourTold)]), (t_kinds, kI k 6 t_kindsF), (t_yards, kI k 6 t_yardsF), (t_paces, kI k 6 t_pacesF), (t_skills, kI k 6 t_skillsF), (t_snow, kI k 12 t_snowF), (tw, kO 0 [.ref tw_code, .ref tw_stack, .ref tw_facts, .int (nI tw_length), .int (nI tw_top)]), (tw_code, kI k 1000 tw_codeF), (tw_stack, kI k 24 tw_stackF), (tw_facts, kI k 4 tw_factsF)] → va_S A s.heap H locs → lv_has ls 5 [(0, .ref n), (1, .int ln), (2, .ref d), (3, .ref t)] → W p l e R s m args below meth c H locs 0 0 Q (F0 m 12 ls []) := by
    intro H locs ls hZ hP hD hS hl
    refine lv_iconst (v := 0) hx hb dX1_play_12 (by decide) ?_
    rw [hQ]
    have hP9 := hP.sub (ws' := [(n, kO 1 [.ref n_deeds, .ref n_guests, .ref n_wholes, .int (nI n_size)]), (n_deeds, kI k 40 n_deedsF), (n_guests, kI k 40 n_guestsF), (n_wholes, kI k 40 n_wholesF), (d, kO 4 [.ref d_yards, .ref d_paces, .ref d_stuck, .ref d_hirers, .ref d_places, .ref d_cameAt, .ref d_cooked, .int d_inside, .int d_night, .int d_minute, .int d_tasted, .int d_lastCook, .int (bB d_stirred)]), (d_yards, kI k 6 d_yardsF), (d_paces, kI k 6 d_pacesF), (d_stuck, kI k 6 d_stuckF), (d_hirers, kI k 6 d_hirersF), (d_places, kI k 6 d_placesF), (d_cameAt, kI k 6 d_cameAtF), (d_cooked, kI k 6 d_cookedF), (t, kO 7 [.ref t_names, .ref t_kinds, .ref t_yards, .ref t_paces, .ref t_skills, .ref t_snow, .ref tw, .int (nI t_guests), .int (nI t_snows), .int t_bend, .int t_hour, .int (bB t_bendTold), .int (bB t_hourTold)]), (t_kinds, kI k 6 t_kindsF), (t_yards, kI k 6 t_yardsF), (t_paces, kI k 6 t_pacesF), (t_skills, kI k 6 t_skillsF), (t_snow, kI k 12 t_snowF), (tw, kO 0 [.ref tw_code, .ref tw_stack, .ref tw_facts, .int (nI tw_length), .int (nI tw_top)]), (tw_code, kI k 1000 tw_codeF), (tw_stack, kI k 24 tw_stackF), (tw_facts, kI k 4 tw_factsF)]) [0, 1, 2, 3, 4, 5, 6, 7, 8, 9, 10, 11, 12, 13, 14, 15, 16, 17, 18, 19, 20, 21] rfl
    have hD9 := hD.sub (ws' := [(n, kO 1 [.ref n_deeds, .ref n_guests, .ref n_wholes, .int (nI n_size)]), (n_deeds, kI k 40 n_deedsF), (n_guests, kI k 40 n_guestsF), (n_wholes, kI k 40 n_wholesF), (d, kO 4 [.ref d_yards, .ref d_paces, .ref d_stuck, .ref d_hirers, .ref d_places, .ref d_cameAt, .ref d_cooked, .int d_inside, .int d_night, .int d_minute, .int d_tasted, .int d_lastCook, .int (bB d_stirred)]), (d_yards, kI k 6 d_yardsF), (d_paces, kI k 6 d_pacesF), (d_stuck, kI k 6 d_stuckF), (d_hirers, kI k 6 d_hirersF), (d_places, kI k 6 d_placesF), (d_cameAt, kI k 6 d_cameAtF), (d_cooked, kI k 6 d_cookedF), (t, kO 7 [.ref t_names, .ref t_kinds, .ref t_yards, .ref t_paces, .ref t_skills, .ref t_snow, .ref tw, .int (nI t_guests), .int (nI t_snows), .int t_bend, .int t_hour, .int (bB t_bendTold), .int (bB t_hourTold)]), (t_kinds, kI k 6 t_kindsF), (t_yards, kI k 6 t_yardsF), (t_paces, kI k 6 t_pacesF), (t_skills, kI k 6 t_skillsF), (t_snow, kI k 12 t_snowF), (tw, kO 0 [.ref tw_code, .ref tw_stack, .ref tw_facts, .int (nI tw_length), .int (nI tw_top)]), (tw_code, kI k 1000 tw_codeF), (tw_stack, kI k 24 tw_stackF), (tw_facts, kI k 4 tw_factsF)]) [0, 1, 2, 3, 4, 5, 6, 7, 8, 9, 10, 11, 12, 13, 14, 15, 16, 17, 18, 19, 20, 21] (by decide +kernel) rfl
    exact W.zret (v := 0) hx hb hr rfl (fun zt ht hW => ⟨⟨0, ⟨d_inside, d_night, d_minute, d_tasted, d_lastCook, d_stirred, d_yardsF, d_pacesF, d_stuckF, d_hirersF, d_placesF, d_cameAtF, d_cookedF, tw_top, tw_stackF, tw_factsF, false⟩, rfl, ⟨rfl, (by first | omega | (dsimp only; omega) | assumption), (hZ.trans hE0)⟩, by rw [ht]; exact hP9, hD9⟩, hS.F ht⟩) hS.2.2 dX1_play_13
  refine lv_if_lt (tgt := 12) hx hb dX1_play_1 (by decide) (fun c_2 => ?_) (fun c_2 => ?_)
  · exact by
     have t_2 : (Int32.toInt ln) < 0 := tI_lt rfl (by decide) c_2
     have hZ := (if_pos c_2).symm.trans hZ
     exact hj12_1 _ _ _ hZ (hP.sub [0, 1, 2, 3, 4, 5, 6, 7, 8, 9, 10, 11, 12, 13, 14, 15, 16, 17, 18, 19, 20, 21] rfl) (hD.sub [0, 1, 2, 3, 4, 5, 6, 7, 8, 9, 10, 11, 12, 13, 14, 15, 16, 17, 18, 19, 20, 21] (by decide +kernel) rfl) hS (lv_sub hl [0, 1, 2, 3] rfl)
  · exact by
     have t_2 : (Int32.toInt ln) ≥ 0 := tI_nlt rfl (by decide) c_2
     have hZ := (if_neg c_2).symm.trans hZ
     refine lv_iload_n hx hb dX1_play_4 rfl (lv_at hl 1 rfl) ?_
     refine lv_aload_n hx hb dX1_play_5 rfl (lv_at hl 0 rfl) ?_
     refine va_get (D := D) (ci := 1) (v := .int (nI n_size)) (C := RX1) (T := TX1) (N := 4) hx hb hts hi1 hown hK hP 0 rfl rfl 3 (by decide) lf21 (fun _ h9 => h9) rfl dX1_play_6 ?_
     refine lv_icmp_lt (tgt := 14) hx hb dX1_play_9 (by decide) (fun c_3 => ?_) (fun c_3 => ?_)
     · exact by
        have t_3 : (Int32.toInt ln) < ((n_size : Nat) : Int) := tI_lt rfl (nI_toInt (by omega)) c_3
        have hZ := (if_pos c_3).symm.trans hZ
        refine lv_aload_n hx hb dX1_play_14 rfl (lv_at hl 0 rfl) ?_
        refine va_get (D := D) (ci := 1) (v := .ref n_guests) (C := RX1) (T := TX1) (N := 4) hx hb hts hi1 hown hK hP 0 rfl rfl 1 (by decide) lf15 (fun _ h9 => h9) rfl dX1_play_15 ?_
        refine lv_iload_n hx hb dX1_play_18 rfl (lv_at hl 1 rfl) ?_
        refine va_iald hx hb hK hP 2 0 rfl rfl (vp_in_iff.mpr (by omega)) dX1_play_19 ?_
        refine lv_istore (lv' := [(4, .int (n_guestsF (Int32.toNatClampNeg ln))), (0, .ref n), (1, .int ln), (2, .ref d), (3, .ref t)]) hx hb dX1_play_20 hl (by decide) rfl (fun ls hl => ?_)
        exact by
         refine lv_aload_n hx hb dX1_play_22 rfl (lv_at hl 1 rfl) ?_
         refine va_get (D := D) (ci := 1) (v := .ref n_deeds) (C := RX1) (T := TX1) (N := 4) hx hb hts hi1 hown hK hP 0 rfl rfl 0 (by decide) lf11 (fun _ h9 => h9) rfl dX1_play_23 ?_
         refine lv_iload_n hx hb dX1_play_26 rfl (lv_at hl 2 rfl) ?_
         refine va_iald hx hb hK hP 1 0 rfl rfl (vp_in_iff.mpr (by omega)) dX1_play_27 ?_
         by_cases w4_0 : (n_deedsF (Int32.toNatClampNeg ln)) = 8
         · exact by
            have hZ := (if_pos w4_0).symm.trans hZ
            refine lv_topi (fun x5 ex5 => ?_)
            exact by
             obtain rfl : x5 = 8 := ex5.trans w4_0
             refine lv_tableIn (off := 28) (tgt := 56) hx hb dX1_play_28 (by decide) (by decide) (by decide) (by decide) ?_
             refine lv_aload_n hx hb dX1_play_56 rfl (lv_at hl 3 rfl) ?_
             refine lv_iload hx hb dX1_play_57 (lv_at hl 0 rfl) ?_
             refine lv_aload_n hx hb dX1_play_59 rfl (lv_at hl 1 rfl) ?_
             refine va_get (D := D) (ci := 1) (v := .ref n_wholes) (C := RX1) (T := TX1) (N := 4) hx hb hts hi1 hown hK hP 0 rfl rfl 2 (by decide) lf18 (fun _ h9 => h9) rfl dX1_play_60 ?_
             refine lv_iload_n hx hb dX1_play_63 rfl (lv_at hl 2 rfl) ?_
             refine va_iald hx hb hK hP 3 0 rfl rfl (vp_in_iff.mpr (by omega)) dX1_play_64 ?_
             refine kz_Vi (As := [.int (n_guestsF (Int32.toNatClampNeg ln)), .int (n_wholesF (Int32.toNatClampNeg ln))]) (rest := []) (wc := [(d, kO 4 [.ref d_yards, .ref d_paces, .ref d_stuck, .ref d_hirers, .ref d_places, .ref d_cameAt, .ref d_cooked, .int d_inside, .int d_night, .int d_minute, .int d_tasted, .int d_lastCook, .int (bB d_stirred)]), (d_yards, kI k 6 d_yardsF), (d_stuck, kI k 6 d_stuckF)]) (wr := [(n, kO 1 [.ref n_deeds, .ref n_guests, .ref n_wholes, .int (nI n_size)]), (n_deeds, kI k 40 n_deedsF), (n_guests, kI k 40 n_guestsF), (n_wholes, kI k 40 n_wholesF), (d_paces, kI k 6 d_pacesF), (d_hirers, kI k 6 d_hirersF), (d_places, kI k 6 d_placesF), (d_cameAt, kI k 6 d_cameAtF), (d_cooked, kI k 6 d_cookedF), (t, kO 7 [.ref t_names, .ref t_kinds, .ref t_yards, .ref t_paces, .ref t_skills, .ref t_snow, .ref tw, .int (nI t_guests), .int (nI t_snows), .int t_bend, .int t_hour, .int (bB t_bendTold), .int (bB t_hourTold)]), (t_kinds, kI k 6 t_kindsF), (t_yards, kI k 6 t_yardsF), (t_paces, kI k 6 t_pacesF), (t_skills, kI k 6 t_skillsF), (t_snow, kI k 12 t_snowF), (tw, kO 0 [.ref tw_code, .ref tw_stack, .ref tw_facts, .int (nI tw_length), .int (nI tw_top)]), (tw_code, kI k 1000 tw_codeF), (tw_stack, kI k 24 tw_stackF), (tw_facts, kI k 4 tw_factsF)]) ⟨hx, hb, hml, hown, hts⟩ hK hE hP hD hS hA (sX4_loseWheel l D k H.size d (n_guestsF (Int32.toNatClampNeg ln)) (n_wholesF (Int32.toNatClampNeg ln)) d_yards d_paces d_stuck d_hirers d_places d_cameAt d_cooked d_inside d_night d_minute d_tasted d_lastCook d_stirred d_yardsF d_stuckF) (cwV 2 hts gX1_play_X4_loseWheel rfl rfl rfl (by decide +kernel) (by rw [hR]; exact ⟨Nat.le_of_ble_eq_true rfl, Nat.le_of_ble_eq_true rfl⟩)) [4, 5, 7] [0, 1, 2, 3, 6, 8, 9, 10, 11, 12, 13, 14, 15, 16, 17, 18, 19, 20, 21] rfl rfl (by decide +kernel) (by decide +kernel) (by decide +kernel) 0 rfl rfl rfl hl.1 rfl (Nat.le_of_ble_eq_true rfl) dX1_play_65 (by rw [hR]; exact ⟨Nat.le_of_ble_eq_true rfl, Nat.le_of_ble_eq_true rfl⟩) (fun r6 u6 H locs hw6 hP hD hS => ?_)
             exact by
              obtain ⟨u_d_stuck6, ub6⟩ := u6
              try dsimp only at hw6
              obtain ⟨rfl, hw6⟩ := hw6
              have hP : va_P D vwCl [(n, kO 1 [.ref n_deeds, .ref n_guests, .ref n_wholes, .int (nI n_size)]), (n_deeds, kI k 40 n_deedsF), (n_guests, kI k 40 n_guestsF), (n_wholes, kI k 40 n_wholesF), (d_paces, kI k 6 d_pacesF), (d_hirers, kI k 6 d_hirersF), (d_places, kI k 6 d_placesF), (d_cameAt, kI k 6 d_cameAtF), (d_cooked, kI k 6 d_cookedF), (t, kO 7 [.ref t_names, .ref t_kinds, .ref t_yards, .ref t_paces, .ref t_skills, .ref t_snow, .ref tw, .int (nI t_guests), .int (nI t_snows), .int t_bend, .int t_hour, .int (bB t_bendTold), .int (bB t_hourTold)]), (t_kinds, kI k 6 t_kindsF), (t_yards, kI k 6 t_yardsF), (t_paces, kI k 6 t_pacesF), (t_skills, kI k 6 t_skillsF), (t_snow, kI k 12 t_snowF), (tw, kO 0 [.ref tw_code, .ref tw_stack, .ref tw_facts, .int (nI tw_length), .int (nI tw_top)]), (tw_code, kI k 1000 tw_codeF), (tw_stack, kI k 24 tw_stackF), (tw_facts, kI k 4 tw_factsF), (d, kO 4 [.ref d_yards, .ref d_paces, .ref d_stuck, .ref d_hirers, .ref d_places, .ref d_cameAt, .ref d_cooked, .int d_inside, .int d_night, .int d_minute, .int d_tasted, .int d_lastCook, .int (bB d_stirred)]), (d_yards, kI k 6 d_yardsF), (d_stuck, kI k 6 u_d_stuck6)] H := hP
              have hD : va_D A [(n, kO 1 [.ref n_deeds, .ref n_guests, .ref n_wholes, .int (nI n_size)]), (n_deeds, kI k 40 n_deedsF), (n_guests, kI k 40 n_guestsF), (n_wholes, kI k 40 n_wholesF), (d_paces, kI k 6 d_pacesF), (d_hirers, kI k 6 d_hirersF), (d_places, kI k 6 d_placesF), (d_cameAt, kI k 6 d_cameAtF), (d_cooked, kI k 6 d_cookedF), (t, kO 7 [.ref t_names, .ref t_kinds, .ref t_yards, .ref t_paces, .ref t_skills, .ref t_snow, .ref tw, .int (nI t_guests), .int (nI t_snows), .int t_bend, .int t_hour, .int (bB t_bendTold), .int (bB t_hourTold)]), (t_kinds, kI k 6 t_kindsF), (t_yards, kI k 6 t_yardsF), (t_paces, kI k 6 t_pacesF), (t_skills, kI k 6 t_skillsF), (t_snow, kI k 12 t_snowF), (tw, kO 0 [.ref tw_code, .ref tw_stack, .ref tw_facts, .int (nI tw_length), .int (nI tw_top)]), (tw_code, kI k 1000 tw_codeF), (tw_stack, kI k 24 tw_stackF), (tw_facts, kI k 4 tw_factsF), (d, kO 4 [.ref d_yards, .ref d_paces, .ref d_stuck, .ref d_hirers, .ref d_places, .ref d_cameAt, .ref d_cooked, .int d_inside, .int d_night, .int d_minute, .int d_tasted, .int d_lastCook, .int (bB d_stirred)]), (d_yards, kI k 6 d_yardsF), (d_stuck, kI k 6 u_d_stuck6)] := hD
              have hw6_0 := hw6
              have hZ := bn2_e hw6_0 hZ
              rw [hQ]
              have hP9 := hP.sub (ws' := [(n, kO 1 [.ref n_deeds, .ref n_guests, .ref n_wholes, .int (nI n_size)]), (n_deeds, kI k 40 n_deedsF), (n_guests, kI k 40 n_guestsF), (n_wholes, kI k 40 n_wholesF), (d, kO 4 [.ref d_yards, .ref d_paces, .ref d_stuck, .ref d_hirers, .ref d_places, .ref d_cameAt, .ref d_cooked, .int d_inside, .int d_night, .int d_minute, .int d_tasted, .int d_lastCook, .int (bB d_stirred)]), (d_yards, kI k 6 d_yardsF), (d_paces, kI k 6 d_pacesF), (d_stuck, kI k 6 u_d_stuck6), (d_hirers, kI k 6 d_hirersF), (d_places, kI k 6 d_placesF), (d_cameAt, kI k 6 d_cameAtF), (d_cooked, kI k 6 d_cookedF), (t, kO 7 [.ref t_names, .ref t_kinds, .ref t_yards, .ref t_paces, .ref t_skills, .ref t_snow, .ref tw, .int (nI t_guests), .int (nI t_snows), .int t_bend, .int t_hour, .int (bB t_bendTold), .int (bB t_hourTold)]), (t_kinds, kI k 6 t_kindsF), (t_yards, kI k 6 t_yardsF), (t_paces, kI k 6 t_pacesF), (t_skills, kI k 6 t_skillsF), (t_snow, kI k 12 t_snowF), (tw, kO 0 [.ref tw_code, .ref tw_stack, .ref tw_facts, .int (nI tw_length), .int (nI tw_top)]), (tw_code, kI k 1000 tw_codeF), (tw_stack, kI k 24 tw_stackF), (tw_facts, kI k 4 tw_factsF)]) [0, 1, 2, 3, 19, 20, 4, 21, 5, 6, 7, 8, 9, 10, 11, 12, 13, 14, 15, 16, 17, 18] rfl
              have hD9 := hD.sub (ws' := [(n, kO 1 [.ref n_deeds, .ref n_guests, .ref n_wholes, .int (nI n_size)]), (n_deeds, kI k 40 n_deedsF), (n_guests, kI k 40 n_guestsF), (n_wholes, kI k 40 n_wholesF), (d, kO 4 [.ref d_yards, .ref d_paces, .ref d_stuck, .ref d_hirers, .ref d_places, .ref d_cameAt, .ref d_cooked, .int d_inside, .int d_night, .int d_minute, .int d_tasted, .int d_lastCook, .int (bB d_stirred)]), (d_yards, kI k 6 d_yardsF), (d_paces, kI k 6 d_pacesF), (d_stuck, kI k 6 u_d_stuck6), (d_hirers, kI k 6 d_hirersF), (d_places, kI k 6 d_placesF), (d_cameAt, kI k 6 d_cameAtF), (d_cooked, kI k 6 d_cookedF), (t, kO 7 [.ref t_names, .ref t_kinds, .ref t_yards, .ref t_paces, .ref t_skills, .ref t_snow, .ref tw, .int (nI t_guests), .int (nI t_snows), .int t_bend, .int t_hour, .int (bB t_bendTold), .int (bB t_hourTold)]), (t_kinds, kI k 6 t_kindsF), (t_yards, kI k 6 t_yardsF), (t_paces, kI k 6 t_pacesF), (t_skills, kI k 6 t_skillsF), (t_snow, kI k 12 t_snowF), (tw, kO 0 [.ref tw_code, .ref tw_stack, .ref tw_facts, .int (nI tw_length), .int (nI tw_top)]), (tw_code, kI k 1000 tw_codeF), (tw_stack, kI k 24 tw_stackF), (tw_facts, kI k 4 tw_factsF)]) [0, 1, 2, 3, 19, 20, 4, 21, 5, 6, 7, 8, 9, 10, 11, 12, 13, 14, 15, 16, 17, 18] (by decide +kernel) rfl
              exact W.zret (v := (bB ub6)) hx hb hr (narrow_bB _) (fun zt ht hW => ⟨⟨(bB ub6), ⟨d_inside, d_night, d_minute, d_tasted, d_lastCook, d_stirred, d_yardsF, d_pacesF, u_d_stuck6, d_hirersF, d_placesF, d_cameAtF, d_cookedF, tw_top, tw_stackF, tw_factsF, ub6⟩, rfl, ⟨rfl, (by first | omega | (dsimp only; omega) | assumption), (hZ.trans hE0)⟩, by rw [ht]; exact hP9, hD9⟩, hS.F ht⟩) hS.2.2 dX1_play_68
         have hZ := (if_neg w4_0).symm.trans hZ
         by_cases w4_1 : (n_deedsF (Int32.toNatClampNeg ln)) = 9
         · exact by
            have hZ := (if_pos w4_1).symm.trans hZ
            refine lv_topi (fun x7 ex7 => ?_)
            exact by
             obtain rfl : x7 = 9 := ex7.trans w4_1
             refine lv_tableIn (off := 41) (tgt := 69) hx hb dX1_play_28 (by decide) (by decide) (by decide) (by decide) ?_
             refine lv_aload_n hx hb dX1_play_69 rfl (lv_at hl 3 rfl) ?_
             refine lv_iload hx hb dX1_play_70 (lv_at hl 0 rfl) ?_
             refine lv_aload_n hx hb dX1_play_72 rfl (lv_at hl 1 rfl) ?_
             refine va_get (D := D) (ci := 1) (v := .ref n_wholes) (C := RX1) (T := TX1) (N := 4) hx hb hts hi1 hown hK hP 0 rfl rfl 2 (by decide) lf18 (fun _ h9 => h9) rfl dX1_play_73 ?_
             refine lv_iload_n hx hb dX1_play_76 rfl (lv_at hl 2 rfl) ?_
             refine va_iald hx hb hK hP 3 0 rfl rfl (vp_in_iff.mpr (by omega)) dX1_play_77 ?_
             refine kz_Vi (As := [.int (n_guestsF (Int32.toNatClampNeg ln)), .int (n_wholesF (Int32.toNatClampNeg ln))]) (rest := []) (wc := [(d, kO 4 [.ref d_yards, .ref d_paces, .ref d_stuck, .ref d_hirers, .ref d_places, .ref d_cameAt, .ref d_cooked, .int d_inside, .int d_night, .int d_minute, .int d_tasted, .int d_lastCook, .int (bB d_stirred)]), (d_yards, kI k 6 d_yardsF), (d_paces, kI k 6 d_pacesF)]) (wr := [(n, kO 1 [.ref n_deeds, .ref n_guests, .ref n_wholes, .int (nI n_size)]), (n_deeds, kI k 40 n_deedsF), (n_guests, kI k 40 n_guestsF), (n_wholes, kI k 40 n_wholesF), (d_stuck, kI k 6 d_stuckF), (d_hirers, kI k 6 d_hirersF), (d_places, kI k 6 d_placesF), (d_cameAt, kI k 6 d_cameAtF), (d_cooked, kI k 6 d_cookedF), (t, kO 7 [.ref t_names, .ref t_kinds, .ref t_yards, .ref t_paces, .ref t_skills, .ref t_snow, .ref tw, .int (nI t_guests), .int (nI t_snows), .int t_bend, .int t_hour, .int (bB t_bendTold), .int (bB t_hourTold)]), (t_kinds, kI k 6 t_kindsF), (t_yards, kI k 6 t_yardsF), (t_paces, kI k 6 t_pacesF), (t_skills, kI k 6 t_skillsF), (t_snow, kI k 12 t_snowF), (tw, kO 0 [.ref tw_code, .ref tw_stack, .ref tw_facts, .int (nI tw_length), .int (nI tw_top)]), (tw_code, kI k 1000 tw_codeF), (tw_stack, kI k 24 tw_stackF), (tw_facts, kI k 4 tw_factsF)]) ⟨hx, hb, hml, hown, hts⟩ hK hE hP hD hS hA (sX4_quicken l D k H.size d (n_guestsF (Int32.toNatClampNeg ln)) (n_wholesF (Int32.toNatClampNeg ln)) d_yards d_paces d_stuck d_hirers d_places d_cameAt d_cooked d_inside d_night d_minute d_tasted d_lastCook d_stirred d_yardsF d_pacesF) (cwV 2 hts gX1_play_X4_quicken rfl rfl rfl (by decide +kernel) (by rw [hR]; exact ⟨Nat.le_of_ble_eq_true rfl, Nat.le_of_ble_eq_true rfl⟩)) [4, 5, 6] [0, 1, 2, 3, 7, 8, 9, 10, 11, 12, 13, 14, 15, 16, 17, 18, 19, 20, 21] rfl rfl (by decide +kernel) (by decide +kernel) (by decide +kernel) 0 rfl rfl rfl hl.1 rfl (Nat.le_of_ble_eq_true rfl) dX1_play_78 (by rw [hR]; exact ⟨Nat.le_of_ble_eq_true rfl, Nat.le_of_ble_eq_true rfl⟩) (fun r8 u8 H locs hw8 hP hD hS => ?_)
             exact by
              obtain ⟨u_d_paces8, ub8⟩ := u8
              try dsimp only at hw8
              obtain ⟨rfl, hw8⟩ := hw8
              have hP : va_P D vwCl [(n, kO 1 [.ref n_deeds, .ref n_guests, .ref n_wholes, .int (nI n_size)]), (n_deeds, kI k 40 n_deedsF), (n_guests, kI k 40 n_guestsF), (n_wholes, kI k 40 n_wholesF), (d_stuck, kI k 6 d_stuckF), (d_hirers, kI k 6 d_hirersF), (d_places, kI k 6 d_placesF), (d_cameAt, kI k 6 d_cameAtF), (d_cooked, kI k 6 d_cookedF), (t, kO 7 [.ref t_names, .ref t_kinds, .ref t_yards, .ref t_paces, .ref t_skills, .ref t_snow, .ref tw, .int (nI t_guests), .int (nI t_snows), .int t_bend, .int t_hour, .int (bB t_bendTold), .int (bB t_hourTold)]), (t_kinds, kI k 6 t_kindsF), (t_yards, kI k 6 t_yardsF), (t_paces, kI k 6 t_pacesF), (t_skills, kI k 6 t_skillsF), (t_snow, kI k 12 t_snowF), (tw, kO 0 [.ref tw_code, .ref tw_stack, .ref tw_facts, .int (nI tw_length), .int (nI tw_top)]), (tw_code, kI k 1000 tw_codeF), (tw_stack, kI k 24 tw_stackF), (tw_facts, kI k 4 tw_factsF), (d, kO 4 [.ref d_yards, .ref d_paces, .ref d_stuck, .ref d_hirers, .ref d_places, .ref d_cameAt, .ref d_cooked, .int d_inside, .int d_night, .int d_minute, .int d_tasted, .int d_lastCook, .int (bB d_stirred)]), (d_yards, kI k 6 d_yardsF), (d_paces, kI k 6 u_d_paces8)] H := hP
              have hD : va_D A [(n, kO 1 [.ref n_deeds, .ref n_guests, .ref n_wholes, .int (nI n_size)]), (n_deeds, kI k 40 n_deedsF), (n_guests, kI k 40 n_guestsF), (n_wholes, kI k 40 n_wholesF), (d_stuck, kI k 6 d_stuckF), (d_hirers, kI k 6 d_hirersF), (d_places, kI k 6 d_placesF), (d_cameAt, kI k 6 d_cameAtF), (d_cooked, kI k 6 d_cookedF), (t, kO 7 [.ref t_names, .ref t_kinds, .ref t_yards, .ref t_paces, .ref t_skills, .ref t_snow, .ref tw, .int (nI t_guests), .int (nI t_snows), .int t_bend, .int t_hour, .int (bB t_bendTold), .int (bB t_hourTold)]), (t_kinds, kI k 6 t_kindsF), (t_yards, kI k 6 t_yardsF), (t_paces, kI k 6 t_pacesF), (t_skills, kI k 6 t_skillsF), (t_snow, kI k 12 t_snowF), (tw, kO 0 [.ref tw_code, .ref tw_stack, .ref tw_facts, .int (nI tw_length), .int (nI tw_top)]), (tw_code, kI k 1000 tw_codeF), (tw_stack, kI k 24 tw_stackF), (tw_facts, kI k 4 tw_factsF), (d, kO 4 [.ref d_yards, .ref d_paces, .ref d_stuck, .ref d_hirers, .ref d_places, .ref d_cameAt, .ref d_cooked, .int d_inside, .int d_night, .int d_minute, .int d_tasted, .int d_lastCook, .int (bB d_stirred)]), (d_yards, kI k 6 d_yardsF), (d_paces, kI k 6 u_d_paces8)] := hD
              have hw8_0 := hw8
              have hZ := bn2_e hw8_0 hZ
              rw [hQ]
              have hP9 := hP.sub (ws' := [(n, kO 1 [.ref n_deeds, .ref n_guests, .ref n_wholes, .int (nI n_size)]), (n_deeds, kI k 40 n_deedsF), (n_guests, kI k 40 n_guestsF), (n_wholes, kI k 40 n_wholesF), (d, kO 4 [.ref d_yards, .ref d_paces, .ref d_stuck, .ref d_hirers, .ref d_places, .ref d_cameAt, .ref d_cooked, .int d_inside, .int d_night, .int d_minute, .int d_tasted, .int d_lastCook, .int (bB d_stirred)]), (d_yards, kI k 6 d_yardsF), (d_paces, kI k 6 u_d_paces8), (d_stuck, kI k 6 d_stuckF), (d_hirers, kI k 6 d_hirersF), (d_places, kI k 6 d_placesF), (d_cameAt, kI k 6 d_cameAtF), (d_cooked, kI k 6 d_cookedF), (t, kO 7 [.ref t_names, .ref t_kinds, .ref t_yards, .ref t_paces, .ref t_skills, .ref t_snow, .ref tw, .int (nI t_guests), .int (nI t_snows), .int t_bend, .int t_hour, .int (bB t_bendTold), .int (bB t_hourTold)]), (t_kinds, kI k 6 t_kindsF), (t_yards, kI k 6 t_yardsF), (t_paces, kI k 6 t_pacesF), (t_skills, kI k 6 t_skillsF), (t_snow, kI k 12 t_snowF), (tw, kO 0 [.ref tw_code, .ref tw_stack, .ref tw_facts, .int (nI tw_length), .int (nI tw_top)]), (tw_code, kI k 1000 tw_codeF), (tw_stack, kI k 24 tw_stackF), (tw_facts, kI k 4 tw_factsF)]) [0, 1, 2, 3, 19, 20, 21, 4, 5, 6, 7, 8, 9, 10, 11, 12, 13, 14, 15, 16, 17, 18] rfl
              have hD9 := hD.sub (ws' := [(n, kO 1 [.ref n_deeds, .ref n_guests, .ref n_wholes, .int (nI n_size)]), (n_deeds, kI k 40 n_deedsF), (n_guests, kI k 40 n_guestsF), (n_wholes, kI k 40 n_wholesF), (d, kO 4 [.ref d_yards, .ref d_paces, .ref d_stuck, .ref d_hirers, .ref d_places, .ref d_cameAt, .ref d_cooked, .int d_inside, .int d_night, .int d_minute, .int d_tasted, .int d_lastCook, .int (bB d_stirred)]), (d_yards, kI k 6 d_yardsF), (d_paces, kI k 6 u_d_paces8), (d_stuck, kI k 6 d_stuckF), (d_hirers, kI k 6 d_hirersF), (d_places, kI k 6 d_placesF), (d_cameAt, kI k 6 d_cameAtF), (d_cooked, kI k 6 d_cookedF), (t, kO 7 [.ref t_names, .ref t_kinds, .ref t_yards, .ref t_paces, .ref t_skills, .ref t_snow, .ref tw, .int (nI t_guests), .int (nI t_snows), .int t_bend, .int t_hour, .int (bB t_bendTold), .int (bB t_hourTold)]), (t_kinds, kI k 6 t_kindsF), (t_yards, kI k 6 t_yardsF), (t_paces, kI k 6 t_pacesF), (t_skills, kI k 6 t_skillsF), (t_snow, kI k 12 t_snowF), (tw, kO 0 [.ref tw_code, .ref tw_stack, .ref tw_facts, .int (nI tw_length), .int (nI tw_top)]), (tw_code, kI k 1000 tw_codeF), (tw_stack, kI k 24 tw_stackF), (tw_facts, kI k 4 tw_factsF)]) [0, 1, 2, 3, 19, 20, 21, 4, 5, 6, 7, 8, 9, 10, 11, 12, 13, 14, 15, 16, 17, 18] (by decide +kernel) rfl
              exact W.zret (v := (bB ub8)) hx hb hr (narrow_bB _) (fun zt ht hW => ⟨⟨(bB ub8), ⟨d_inside, d_night, d_minute, d_tasted, d_lastCook, d_stirred, d_yardsF, u_d_paces8, d_stuckF, d_hirersF, d_placesF, d_cameAtF, d_cookedF, tw_top, tw_stackF, tw_factsF, ub8⟩, rfl, ⟨rfl, (by first | omega | (dsimp only; omega) | assumption), (hZ.trans hE0)⟩, by rw [ht]; exact hP9, hD9⟩, hS.F ht⟩) hS.2.2 dX1_play_81
         have hZ := (if_neg w4_1).symm.trans hZ
         by_cases w4_2 : (n_deedsF (Int32.toNatClampNeg ln)) = 10
         · exact by
            have hZ := (if_pos w4_2).symm.trans hZ
            refine lv_topi (fun x9 ex9 => ?_)
            exact by
             obtain rfl : x9 = 10 := ex9.trans w4_2
             refine lv_tableIn (off := 54) (tgt := 82) hx hb dX1_play_28 (by decide) (by decide) (by decide) (by decide) ?_
             refine lv_aload_n hx hb dX1_play_82 rfl (lv_at hl 3 rfl) ?_
             refine lv_iload hx hb dX1_play_83 (lv_at hl 0 rfl) ?_
             refine lv_aload_n hx hb dX1_play_85 rfl (lv_at hl 1 rfl) ?_
             refine va_get (D := D) (ci := 1) (v := .ref n_wholes) (C := RX1) (T := TX1) (N := 4) hx hb hts hi1 hown hK hP 0 rfl rfl 2 (by decide) lf18 (fun _ h9 => h9) rfl dX1_play_86 ?_
             refine lv_iload_n hx hb dX1_play_89 rfl (lv_at hl 2 rfl) ?_
             refine va_iald hx hb hK hP 3 0 rfl rfl (vp_in_iff.mpr (by omega)) dX1_play_90 ?_
             refine kz_Vi (As := [.int (n_guestsF (Int32.toNatClampNeg ln)), .int (n_wholesF (Int32.toNatClampNeg ln))]) (rest := []) (wc := [(d, kO 4 [.ref d_yards, .ref d_paces, .ref d_stuck, .ref d_hirers, .ref d_places, .ref d_cameAt, .ref d_cooked, .int d_inside, .int d_night, .int d_minute, .int d_tasted, .int d_lastCook, .int (bB d_stirred)]), (d_yards, kI k 6 d_yardsF), (d_hirers, kI k 6 d_hirersF)]) (wr := [(n, kO 1 [.ref n_deeds, .ref n_guests, .ref n_wholes, .int (nI n_size)]), (n_deeds, kI k 40 n_deedsF), (n_guests, kI k 40 n_guestsF), (n_wholes, kI k 40 n_wholesF), (d_paces, kI k 6 d_pacesF), (d_stuck, kI k 6 d_stuckF), (d_places, kI k 6 d_placesF), (d_cameAt, kI k 6 d_cameAtF), (d_cooked, kI k 6 d_cookedF), (t, kO 7 [.ref t_names, .ref t_kinds, .ref t_yards, .ref t_paces, .ref t_skills, .ref t_snow, .ref tw, .int (nI t_guests), .int (nI t_snows), .int t_bend, .int t_hour, .int (bB t_bendTold), .int (bB t_hourTold)]), (t_kinds, kI k 6 t_kindsF), (t_yards, kI k 6 t_yardsF), (t_paces, kI k 6 t_pacesF), (t_skills, kI k 6 t_skillsF), (t_snow, kI k 12 t_snowF), (tw, kO 0 [.ref tw_code, .ref tw_stack, .ref tw_facts, .int (nI tw_length), .int (nI tw_top)]), (tw_code, kI k 1000 tw_codeF), (tw_stack, kI k 24 tw_stackF), (tw_facts, kI k 4 tw_factsF)]) ⟨hx, hb, hml, hown, hts⟩ hK hE hP hD hS hA (sX4_engage l D k H.size d (n_guestsF (Int32.toNatClampNeg ln)) (n_wholesF (Int32.toNatClampNeg ln)) d_yards d_paces d_stuck d_hirers d_places d_cameAt d_cooked d_inside d_night d_minute d_tasted d_lastCook d_stirred d_yardsF d_hirersF) (cwV 2 hts gX1_play_X4_engage rfl rfl rfl (by decide +kernel) (by rw [hR]; exact ⟨Nat.le_of_ble_eq_true rfl, Nat.le_of_ble_eq_true rfl⟩)) [4, 5, 8] [0, 1, 2, 3, 6, 7, 9, 10, 11, 12, 13, 14, 15, 16, 17, 18, 19, 20, 21] rfl rfl (by decide +kernel) (by decide +kernel) (by decide +kernel) 0 rfl rfl rfl hl.1 rfl (Nat.le_of_ble_eq_true rfl) dX1_play_91 (by rw [hR]; exact ⟨Nat.le_of_ble_eq_true rfl, Nat.le_of_ble_eq_true rfl⟩) (fun r10 u10 H locs hw10 hP hD hS => ?_)
             exact by
              obtain ⟨u_d_hirers10, ub10⟩ := u10
              try dsimp only at hw10
              obtain ⟨rfl, hw10⟩ := hw10
              have hP : va_P D vwCl [(n, kO 1 [.ref n_deeds, .ref n_guests, .ref n_wholes, .int (nI n_size)]), (n_deeds, kI k 40 n_deedsF), (n_guests, kI k 40 n_guestsF), (n_wholes, kI k 40 n_wholesF), (d_paces, kI k 6 d_pacesF), (d_stuck, kI k 6 d_stuckF), (d_places, kI k 6 d_placesF), (d_cameAt, kI k 6 d_cameAtF), (d_cooked, kI k 6 d_cookedF), (t, kO 7 [.ref t_names, .ref t_kinds, .ref t_yards, .ref t_paces, .ref t_skills, .ref t_snow, .ref tw, .int (nI t_guests), .int (nI t_snows), .int t_bend, .int t_hour, .int (bB t_bendTold), .int (bB t_hourTold)]), (t_kinds, kI k 6 t_kindsF), (t_yards, kI k 6 t_yardsF), (t_paces, kI k 6 t_pacesF), (t_skills, kI k 6 t_skillsF), (t_snow, kI k 12 t_snowF), (tw, kO 0 [.ref tw_code, .ref tw_stack, .ref tw_facts, .int (nI tw_length), .int (nI tw_top)]), (tw_code, kI k 1000 tw_codeF), (tw_stack, kI k 24 tw_stackF), (tw_facts, kI k 4 tw_factsF), (d, kO 4 [.ref d_yards, .ref d_paces, .ref d_stuck, .ref d_hirers, .ref d_places, .ref d_cameAt, .ref d_cooked, .int d_inside, .int d_night, .int d_minute, .int d_tasted, .int d_lastCook, .int (bB d_stirred)]), (d_yards, kI k 6 d_yardsF), (d_hirers, kI k 6 u_d_hirers10)] H := hP
              have hD : va_D A [(n, kO 1 [.ref n_deeds, .ref n_guests, .ref n_wholes, .int (nI n_size)]), (n_deeds, kI k 40 n_deedsF), (n_guests, kI k 40 n_guestsF), (n_wholes, kI k 40 n_wholesF), (d_paces, kI k 6 d_pacesF), (d_stuck, kI k 6 d_stuckF), (d_places, kI k 6 d_placesF), (d_cameAt, kI k 6 d_cameAtF), (d_cooked, kI k 6 d_cookedF), (t, kO 7 [.ref t_names, .ref t_kinds, .ref t_yards, .ref t_paces, .ref t_skills, .ref t_snow, .ref tw, .int (nI t_guests), .int (nI t_snows), .int t_bend, .int t_hour, .int (bB t_bendTold), .int (bB t_hourTold)]), (t_kinds, kI k 6 t_kindsF), (t_yards, kI k 6 t_yardsF), (t_paces, kI k 6 t_pacesF), (t_skills, kI k 6 t_skillsF), (t_snow, kI k 12 t_snowF), (tw, kO 0 [.ref tw_code, .ref tw_stack, .ref tw_facts, .int (nI tw_length), .int (nI tw_top)]), (tw_code, kI k 1000 tw_codeF), (tw_stack, kI k 24 tw_stackF), (tw_facts, kI k 4 tw_factsF), (d, kO 4 [.ref d_yards, .ref d_paces, .ref d_stuck, .ref d_hirers, .ref d_places, .ref d_cameAt, .ref d_cooked, .int d_inside, .int d_night, .int d_minute, .int d_tasted, .int d_lastCook, .int (bB d_stirred)]), (d_yards, kI k 6 d_yardsF), (d_hirers, kI k 6 u_d_hirers10)] := hD
              have hw10_0 := hw10
              have hZ := bn2_e hw10_0 hZ
              rw [hQ]
              have hP9 := hP.sub (ws' := [(n, kO 1 [.ref n_deeds, .ref n_guests, .ref n_wholes, .int (nI n_size)]), (n_deeds, kI k 40 n_deedsF), (n_guests, kI k 40 n_guestsF), (n_wholes, kI k 40 n_wholesF), (d, kO 4 [.ref d_yards, .ref d_paces, .ref d_stuck, .ref d_hirers, .ref d_places, .ref d_cameAt, .ref d_cooked, .int d_inside, .int d_night, .int d_minute, .int d_tasted, .int d_lastCook, .int (bB d_stirred)]), (d_yards, kI k 6 d_yardsF), (d_paces, kI k 6 d_pacesF), (d_stuck, kI k 6 d_stuckF), (d_hirers, kI k 6 u_d_hirers10), (d_places, kI k 6 d_placesF), (d_cameAt, kI k 6 d_cameAtF), (d_cooked, kI k 6 d_cookedF), (t, kO 7 [.ref t_names, .ref t_kinds, .ref t_yards, .ref t_paces, .ref t_skills, .ref t_snow, .ref tw, .int (nI t_guests), .int (nI t_snows), .int t_bend, .int t_hour, .int (bB t_bendTold), .int (bB t_hourTold)]), (t_kinds, kI k 6 t_kindsF), (t_yards, kI k 6 t_yardsF), (t_paces, kI k 6 t_pacesF), (t_skills, kI k 6 t_skillsF), (t_snow, kI k 12 t_snowF), (tw, kO 0 [.ref tw_code, .ref tw_stack, .ref tw_facts, .int (nI tw_length), .int (nI tw_top)]), (tw_code, kI k 1000 tw_codeF), (tw_stack, kI k 24 tw_stackF), (tw_facts, kI k 4 tw_factsF)]) [0, 1, 2, 3, 19, 20, 4, 5, 21, 6, 7, 8, 9, 10, 11, 12, 13, 14, 15, 16, 17, 18] rfl
              have hD9 := hD.sub (ws' := [(n, kO 1 [.ref n_deeds, .ref n_guests, .ref n_wholes, .int (nI n_size)]), (n_deeds, kI k 40 n_deedsF), (n_guests, kI k 40 n_guestsF), (n_wholes, kI k 40 n_wholesF), (d, kO 4 [.ref d_yards, .ref d_paces, .ref d_stuck, .ref d_hirers, .ref d_places, .ref d_cameAt, .ref d_cooked, .int d_inside, .int d_night, .int d_minute, .int d_tasted, .int d_lastCook, .int (bB d_stirred)]), (d_yards, kI k 6 d_yardsF), (d_paces, kI k 6 d_pacesF), (d_stuck, kI k 6 d_stuckF), (d_hirers, kI k 6 u_d_hirers10), (d_places, kI k 6 d_placesF), (d_cameAt, kI k 6 d_cameAtF), (d_cooked, kI k 6 d_cookedF), (t, kO 7 [.ref t_names, .ref t_kinds, .ref t_yards, .ref t_paces, .ref t_skills, .ref t_snow, .ref tw, .int (nI t_guests), .int (nI t_snows), .int t_bend, .int t_hour, .int (bB t_bendTold), .int (bB t_hourTold)]), (t_kinds, kI k 6 t_kindsF), (t_yards, kI k 6 t_yardsF), (t_paces, kI k 6 t_pacesF), (t_skills, kI k 6 t_skillsF), (t_snow, kI k 12 t_snowF), (tw, kO 0 [.ref tw_code, .ref tw_stack, .ref tw_facts, .int (nI tw_length), .int (nI tw_top)]), (tw_code, kI k 1000 tw_codeF), (tw_stack, kI k 24 tw_stackF), (tw_facts, kI k 4 tw_factsF)]) [0, 1, 2, 3, 19, 20, 4, 5, 21, 6, 7, 8, 9, 10, 11, 12, 13, 14, 15, 16, 17, 18] (by decide +kernel) rfl
              exact W.zret (v := (bB ub10)) hx hb hr (narrow_bB _) (fun zt ht hW => ⟨⟨(bB ub10), ⟨d_inside, d_night, d_minute, d_tasted, d_lastCook, d_stirred, d_yardsF, d_pacesF, d_stuckF, u_d_hirers10, d_placesF, d_cameAtF, d_cookedF, tw_top, tw_stackF, tw_factsF, ub10⟩, rfl, ⟨rfl, (by first | omega | (dsimp only; omega) | assumption), (hZ.trans hE0)⟩, by rw [ht]; exact hP9, hD9⟩, hS.F ht⟩) hS.2.2 dX1_play_94
         have hZ := (if_neg w4_2).symm.trans hZ
         have z4_0 := lv_neT w4_0 (a := 8) (by decide)
         have z4_1 := lv_neT w4_1 (a := 9) (by decide)
         have z4_2 := lv_neT w4_2 (a := 10) (by decide)
         refine lv_tableOut (tgt := 95) hx hb dX1_play_28 (by omega) (by decide) ?_
         refine lv_aload_n hx hb dX1_play_95 rfl (lv_at hl 3 rfl) ?_
         refine lv_aload_n hx hb dX1_play_96 rfl (lv_at hl 4 rfl) ?_
         refine kz_Vi (As := [.ref t]) (rest := []) (wc := [(d, kO 4 [.ref d_yards, .ref d_paces, .ref d_stuck, .ref d_hirers, .ref d_places, .ref d_cameAt, .ref d_cooked, .int d_inside, .int d_night, .int d_minute, .int d_tasted, .int d_lastCook, .int (bB d_stirred)]), (d_yards, kI k 6 d_yardsF), (d_paces, kI k 6 d_pacesF), (d_stuck, kI k 6 d_stuckF), (d_hirers, kI k 6 d_hirersF), (d_places, kI k 6 d_placesF), (d_cameAt, kI k 6 d_cameAtF), (d_cooked, kI k 6 d_cookedF), (t, kO 7 [.ref t_names, .ref t_kinds, .ref t_yards, .ref t_paces, .ref t_skills, .ref t_snow, .ref tw, .int (nI t_guests), .int (nI t_snows), .int t_bend, .int t_hour, .int (bB t_bendTold), .int (bB t_hourTold)]), (t_kinds, kI k 6 t_kindsF), (t_yards, kI k 6 t_yardsF), (t_paces, kI k 6 t_pacesF), (t_skills, kI k 6 t_skillsF), (t_snow, kI k 12 t_snowF), (tw, kO 0 [.ref tw_code, .ref tw_stack, .ref tw_facts, .int (nI tw_length), .int (nI tw_top)]), (tw_code, kI k 1000 tw_codeF), (tw_stack, kI k 24 tw_stackF), (tw_facts, kI k 4 tw_factsF)]) (wr := [(n, kO 1 [.ref n_deeds, .ref n_guests, .ref n_wholes, .int (nI n_size)]), (n_deeds, kI k 40 n_deedsF), (n_guests, kI k 40 n_guestsF), (n_wholes, kI k 40 n_wholesF)]) ⟨hx, hb, hml, hown, hts⟩ hK hE hP hD hS hA (sX4_pass l D k H.size d t d_yards d_paces d_stuck d_hirers d_places d_cameAt d_cooked d_inside d_night d_minute d_tasted d_lastCook d_stirred d_yardsF d_pacesF d_stuckF d_hirersF d_placesF d_cameAtF d_cookedF t_names t_kinds t_yards t_paces t_skills t_snow tw t_guests t_snows t_bend t_hour t_bendTold t_hourTold t_kindsF t_yardsF t_pacesF t_skillsF t_snowF tw_code tw_stack tw_facts tw_length tw_top tw_codeF tw_stackF tw_factsF (by first | omega | assumption | decide) (by first | omega | assumption | decide) (by first | omega | assumption | decide) (by first | omega | assumption | decide)) (cwV 1 hts gX1_play_X4_pass rfl rfl rfl (by decide +kernel) (by rw [hR]; exact ⟨Nat.le_of_ble_eq_true rfl, Nat.le_of_ble_eq_true rfl⟩)) [4, 5, 6, 7, 8, 9, 10, 11, 12, 13, 14, 15, 16, 17, 18, 19, 20, 21] [0, 1, 2, 3] rfl rfl (by decide +kernel) (by decide +kernel) (by decide +kernel) 0 rfl rfl rfl hl.1 rfl (Nat.le_of_ble_eq_true rfl) dX1_play_97 (by rw [hR]; exact ⟨Nat.le_of_ble_eq_true rfl, Nat.le_of_ble_eq_true rfl⟩) (fun r11 u11 H locs hw11 hP hD hS => ?_)
         exact by
          obtain ⟨u_d_711, u_d_811, u_d_911, u_d_1011, u_d_1111, u_d_1211, u_d_yards11, u_d_paces11, u_d_stuck11, u_d_hirers11, u_d_places11, u_d_cameAt11, u_d_cooked11, u_tw_411, u_tw_stack11, u_tw_facts11⟩ := u11
          try dsimp only at hw11
          have hP : va_P D vwCl [(n, kO 1 [.ref n_deeds, .ref n_guests, .ref n_wholes, .int (nI n_size)]), (n_deeds, kI k 40 n_deedsF), (n_guests, kI k 40 n_guestsF), (n_wholes, kI k 40 n_wholesF), (d, kO 4 [.ref d_yards, .ref d_paces, .ref d_stuck, .ref d_hirers, .ref d_places, .ref d_cameAt, .ref d_cooked, .int u_d_711, .int u_d_811, .int u_d_911, .int u_d_1011, .int u_d_1111, .int (bB u_d_1211)]), (d_yards, kI k 6 u_d_yards11), (d_paces, kI k 6 u_d_paces11), (d_stuck, kI k 6 u_d_stuck11), (d_hirers, kI k 6 u_d_hirers11), (d_places, kI k 6 u_d_places11), (d_cameAt, kI k 6 u_d_cameAt11), (d_cooked, kI k 6 u_d_cooked11), (t, kO 7 [.ref t_names, .ref t_kinds, .ref t_yards, .ref t_paces, .ref t_skills, .ref t_snow, .ref tw, .int (nI t_guests), .int (nI t_snows), .int t_bend, .int t_hour, .int (bB t_bendTold), .int (bB t_hourTold)]), (t_kinds, kI k 6 t_kindsF), (t_yards, kI k 6 t_yardsF), (t_paces, kI k 6 t_pacesF), (t_skills, kI k 6 t_skillsF), (t_snow, kI k 12 t_snowF), (tw, kO 0 [.ref tw_code, .ref tw_stack, .ref tw_facts, .int (nI tw_length), .int (nI u_tw_411)]), (tw_code, kI k 1000 tw_codeF), (tw_stack, kI k 24 u_tw_stack11), (tw_facts, kI k 4 u_tw_facts11)] H := hP
          have hD : va_D A [(n, kO 1 [.ref n_deeds, .ref n_guests, .ref n_wholes, .int (nI n_size)]), (n_deeds, kI k 40 n_deedsF), (n_guests, kI k 40 n_guestsF), (n_wholes, kI k 40 n_wholesF), (d, kO 4 [.ref d_yards, .ref d_paces, .ref d_stuck, .ref d_hirers, .ref d_places, .ref d_cameAt, .ref d_cooked, .int u_d_711, .int u_d_811, .int u_d_911, .int u_d_1011, .int u_d_1111, .int (bB u_d_1211)]), (d_yards, kI k 6 u_d_yards11), (d_paces, kI k 6 u_d_paces11), (d_stuck, kI k 6 u_d_stuck11), (d_hirers, kI k 6 u_d_hirers11), (d_places, kI k 6 u_d_places11), (d_cameAt, kI k 6 u_d_cameAt11), (d_cooked, kI k 6 u_d_cooked11), (t, kO 7 [.ref t_names, .ref t_kinds, .ref t_yards, .ref t_paces, .ref t_skills, .ref t_snow, .ref tw, .int (nI t_guests), .int (nI t_snows), .int t_bend, .int t_hour, .int (bB t_bendTold), .int (bB t_hourTold)]), (t_kinds, kI k 6 t_kindsF), (t_yards, kI k 6 t_yardsF), (t_paces, kI k 6 t_pacesF), (t_skills, kI k 6 t_skillsF), (t_snow, kI k 12 t_snowF), (tw, kO 0 [.ref tw_code, .ref tw_stack, .ref tw_facts, .int (nI tw_length), .int (nI u_tw_411)]), (tw_code, kI k 1000 tw_codeF), (tw_stack, kI k 24 u_tw_stack11), (tw_facts, kI k 4 u_tw_facts11)] := hD
          obtain ⟨hw11_0, hw11_1⟩ := hw11
          have hZ := bn17_e hw11_1 hZ
          refine lv_pop hx hb dX1_play_100 rfl ?_
          refine lv_iconst (v := 1) hx hb dX1_play_101 (by decide) ?_
          rw [hQ]
          have hP9 := hP.sub (ws' := [(n, kO 1 [.ref n_deeds, .ref n_guests, .ref n_wholes, .int (nI n_size)]), (n_deeds, kI k 40 n_deedsF), (n_guests, kI k 40 n_guestsF), (n_wholes, kI k 40 n_wholesF), (d, kO 4 [.ref d_yards, .ref d_paces, .ref d_stuck, .ref d_hirers, .ref d_places, .ref d_cameAt, .ref d_cooked, .int u_d_711, .int u_d_811, .int u_d_911, .int u_d_1011, .int u_d_1111, .int (bB u_d_1211)]), (d_yards, kI k 6 u_d_yards11), (d_paces, kI k 6 u_d_paces11), (d_stuck, kI k 6 u_d_stuck11), (d_hirers, kI k 6 u_d_hirers11), (d_places, kI k 6 u_d_places11), (d_cameAt, kI k 6 u_d_cameAt11), (d_cooked, kI k 6 u_d_cooked11), (t, kO 7 [.ref t_names, .ref t_kinds, .ref t_yards, .ref t_paces, .ref t_skills, .ref t_snow, .ref tw, .int (nI t_guests), .int (nI t_snows), .int t_bend, .int t_hour, .int (bB t_bendTold), .int (bB t_hourTold)]), (t_kinds, kI k 6 t_kindsF), (t_yards, kI k 6 t_yardsF), (t_paces, kI k 6 t_pacesF), (t_skills, kI k 6 t_skillsF), (t_snow, kI k 12 t_snowF), (tw, kO 0 [.ref tw_code, .ref tw_stack, .ref tw_facts, .int (nI tw_length), .int (nI u_tw_411)]), (tw_code, kI k 1000 tw_codeF), (tw_stack, kI k 24 u_tw_stack11), (tw_facts, kI k 4 u_tw_facts11)]) [0, 1, 2, 3, 4, 5, 6, 7, 8, 9, 10, 11, 12, 13, 14, 15, 16, 17, 18, 19, 20, 21] rfl
          have hD9 := hD.sub (ws' := [(n, kO 1 [.ref n_deeds, .ref n_guests, .ref n_wholes, .int (nI n_size)]), (n_deeds, kI k 40 n_deedsF), (n_guests, kI k 40 n_guestsF), (n_wholes, kI k 40 n_wholesF), (d, kO 4 [.ref d_yards, .ref d_paces, .ref d_stuck, .ref d_hirers, .ref d_places, .ref d_cameAt, .ref d_cooked, .int u_d_711, .int u_d_811, .int u_d_911, .int u_d_1011, .int u_d_1111, .int (bB u_d_1211)]), (d_yards, kI k 6 u_d_yards11), (d_paces, kI k 6 u_d_paces11), (d_stuck, kI k 6 u_d_stuck11), (d_hirers, kI k 6 u_d_hirers11), (d_places, kI k 6 u_d_places11), (d_cameAt, kI k 6 u_d_cameAt11), (d_cooked, kI k 6 u_d_cooked11), (t, kO 7 [.ref t_names, .ref t_kinds, .ref t_yards, .ref t_paces, .ref t_skills, .ref t_snow, .ref tw, .int (nI t_guests), .int (nI t_snows), .int t_bend, .int t_hour, .int (bB t_bendTold), .int (bB t_hourTold)]), (t_kinds, kI k 6 t_kindsF), (t_yards, kI k 6 t_yardsF), (t_paces, kI k 6 t_pacesF), (t_skills, kI k 6 t_skillsF), (t_snow, kI k 12 t_snowF), (tw, kO 0 [.ref tw_code, .ref tw_stack, .ref tw_facts, .int (nI tw_length), .int (nI u_tw_411)]), (tw_code, kI k 1000 tw_codeF), (tw_stack, kI k 24 u_tw_stack11), (tw_facts, kI k 4 u_tw_facts11)]) [0, 1, 2, 3, 4, 5, 6, 7, 8, 9, 10, 11, 12, 13, 14, 15, 16, 17, 18, 19, 20, 21] (by decide +kernel) rfl
          exact W.zret (v := 1) hx hb hr rfl (fun zt ht hW => ⟨⟨1, ⟨u_d_711, u_d_811, u_d_911, u_d_1011, u_d_1111, u_d_1211, u_d_yards11, u_d_paces11, u_d_stuck11, u_d_hirers11, u_d_places11, u_d_cameAt11, u_d_cooked11, u_tw_411, u_tw_stack11, u_tw_facts11, true⟩, rfl, ⟨rfl, (by first | omega | (dsimp only; omega) | assumption), (hZ.trans hE0)⟩, by rw [ht]; exact hP9, hD9⟩, hS.F ht⟩) hS.2.2 dX1_play_102
     · exact by
        have t_3 : (Int32.toInt ln) ≥ ((n_size : Nat) : Int) := tI_nlt rfl (nI_toInt (by omega)) c_3
        have hZ := (if_neg c_3).symm.trans hZ
        exact hj12_1 _ _ _ hZ (hP.sub [0, 1, 2, 3, 4, 5, 6, 7, 8, 9, 10, 11, 12, 13, 14, 15, 16, 17, 18, 19, 20, 21] rfl) (hD.sub [0, 1, 2, 3, 4, 5, 6, 7, 8, 9, 10, 11, 12, 13, 14, 15, 16, 17, 18, 19, 20, 21] (by decide +kernel) rfl) hS (lv_sub hl [0, 1, 2, 3] rfl)
theorem dX5_clear_0 : decode cX5_clear 0 = .ok (.aload_n 0, 1) := dk_aload_n_0 (by decide +kernel)
theorem dX5_clear_1 : decode cX5_clear 1 = .ok (.iconst 0, 1) := dk_iconst_0 (by decide +kernel)
theorem dX5_clear_2 : decode cX5_clear 2 = .ok (.putfield 22, 3) := dk_putfield (by decide +kernel)
theorem dX5_clear_5 : decode cX5_clear 5 = .ok (.return_, 1) := dk_return_ (by decide +kernel)
set_option maxHeartbeats 4000000 in
set_option maxRecDepth 100000 in
theorem sX5_clear (l : Launch) (D : va_G) (k : Nat → ClassId) (sz : Nat) (z : Nat) (z_minutes : Nat) (z_yards : Nat) (z_near : Nat) (z_size : Nat) (h_z_size : z_size ≤ 8) : Met l yX5_clear wsX5_clear ({ frames := 0, cells := 0, slots := 0, locals := 0 }) (va_Pc [.ref z] (kz_Pre D k [(z, kO 5 [.ref z_minutes, .ref z_yards, .ref z_near, .int (nI z_size)])] sz)) (va_Qv (fun (uu : Nat) => (uu ≤ 8) ∧ ((uu) = fX5_clear)) (fun uu zt => kz_B D (va_A [(z, kO 5 [.ref z_minutes, .ref z_yards, .ref z_near, .int (nI z_size)])] sz) [(z, kO 5 [.ref z_minutes, .ref z_yards, .ref z_near, .int (nI uu)])] zt) (va_A [(z, kO 5 [.ref z_minutes, .ref z_yards, .ref z_near, .int (nI z_size)])] sz)) 0 0 (va_A [(z, kO 5 [.ref z_minutes, .ref z_yards, .ref z_near, .int (nI z_size)])] sz) := by
  refine Met.ofW (cc := cX5_clear) (maxL := 1) (ret := none) (by decide) rfl ?_
  intro p e s m args below meth c s₁ B hml hv
  obtain ⟨hav, hsz, hP, hK, hD0, hE⟩ := hv
  have hx := B.exec
  have hb := B.bytes
  have hr := B.returns
  have hts := atoms_spec (ws := wsX5_clear) B.pre
  have hown : s.vm.findClass RX5 = some m.cls := findClass_of_methodNamed B.named
  have hlocks := B.notSynchronized
  have hi5 : ∀ w ∈ u_ws RX5 TX5 4, w ∈ wsX5_clear := fun w h9 => List.mem_cons_of_mem _ (List.mem_append_right _ h9)
  have lf22 := hts (.fieldLink RX5 22 "LastCook$Sights" "size" "I") (List.mem_cons_of_mem _ (List.mem_append_left _ (List.mem_of_getElem? (i := 0) rfl)))
  subst hsz
  have hD := hD0.self (sz := s.heap.size)
  generalize hAe : va_A [(z, kO 5 [.ref z_minutes, .ref z_yards, .ref z_near, .int (nI z_size)])] s.heap.size = A at hD ⊢
  have hA : ∀ q : Nat, s.heap.size ≤ q → A q := fun q h => by rw [← hAe]; exact Or.inr h
  have hS : va_S A s.heap s.heap [] := va_S.rf
  have hl := lv_entry ([.ref z]) (n := 1) (Nat.le_of_ble_eq_true rfl)
  rw [show entryFrame m args 1 = entryFrame m ([.ref z] : List Value).toArray 1 by rw [hav], lg_entry_eq]
  generalize (lg_sl ([.ref z]) ++ List.replicate (1 - (lg_sl ([.ref z])).length) Slot.unset).toArray = ls at hl ⊢
  have hl : lv_has ls 1 [(0, .ref z)] := hl
  obtain ⟨R, hR⟩ : ∃ R, R = (headSpec wsX5_clear ({ frames := 0, cells := 0, slots := 0, locals := 0 } : Room)).room := ⟨_, rfl⟩
  rw [← hR]
  generalize hQ : MQ below _ args s 0 0 A = Q
  replace hQ := hQ.symm
  obtain ⟨H, hH⟩ : ∃ H, H = s.heap := ⟨_, rfl⟩
  rw [← hH] at hP ⊢
  have hS : va_S A s.heap H [] := by rw [hH]; exact hS
  obtain ⟨E0, hE0⟩ : ∃ E0 : Nat, E0 = fX5_clear := ⟨_, rfl⟩
  have hZ : fX5_clear = E0 := hE0.symm
  refine lv_aload_n hx hb dX5_clear_0 rfl (lv_at hl 0 rfl) ?_
  refine lv_iconst (v := 0) hx hb dX5_clear_1 (by decide) ?_
  refine va_put (D := D) (ci := 5) (v := .int 0) (ty := .int) (C := RX5) (T := TX5) (N := 4) hx hb hts hi5 tyX5 tyX5_ok nmX5 hown hK hP hD hS 0 rfl rfl 3 (by decide) lf22 (fun _ h9 => h9) rfl (by decide +kernel) rfl rfl (Nat.le_of_ble_eq_true rfl) dX5_clear_2 (fun H locs hP hD hS => ?_)
  exact by
   have hP : va_P D vwCl [(z, kO 5 [.ref z_minutes, .ref z_yards, .ref z_near, .int 0])] H := hP
   have hD : va_D A [(z, kO 5 [.ref z_minutes, .ref z_yards, .ref z_near, .int 0])] := hD
   rw [hQ]
   have hP9 := hP.sub (ws' := [(z, kO 5 [.ref z_minutes, .ref z_yards, .ref z_near, .int (nI 0)])]) [0] rfl
   have hD9 := hD.sub (ws' := [(z, kO 5 [.ref z_minutes, .ref z_yards, .ref z_near, .int (nI 0)])]) [0] (by decide +kernel) rfl
   exact W.vret hx hb hr (fun zt ht hW => ⟨⟨0, rfl, ⟨(by first | omega | (dsimp only; omega) | assumption), (hZ.trans hE0)⟩, by rw [ht]; exact hP9, hD9⟩, hS.F ht⟩) hS.2.2 dX5_clear_5
theorem dX5_copyFrom_0 : decode cX5_copyFrom 0 = .ok (.aload_n 1, 1) := dk_aload_n_1 (by decide +kernel)
theorem dX5_copyFrom_1 : decode cX5_copyFrom 1 = .ok (.getfield 11, 3) := dk_getfield (by decide +kernel)
theorem dX5_copyFrom_4 : decode cX5_copyFrom 4 = .ok (.iconst 0, 1) := dk_iconst_0 (by decide +kernel)
theorem dX5_copyFrom_5 : decode cX5_copyFrom 5 = .ok (.aload_n 0, 1) := dk_aload_n_0 (by decide +kernel)
theorem dX5_copyFrom_6 : decode cX5_copyFrom 6 = .ok (.getfield 11, 3) := dk_getfield (by decide +kernel)
theorem dX5_copyFrom_9 : decode cX5_copyFrom 9 = .ok (.iconst 0, 1) := dk_iconst_0 (by decide +kernel)
theorem dX5_copyFrom_10 : decode cX5_copyFrom 10 = .ok (.bipush 8, 2) := dk_bipush (by decide +kernel)
theorem dX5_copyFrom_12 : decode cX5_copyFrom 12 = .ok (.invokestatic 26, 3) := dk_invokestatic (by decide +kernel)
theorem dX5_copyFrom_15 : decode cX5_copyFrom 15 = .ok (.aload_n 1, 1) := dk_aload_n_1 (by decide +kernel)
theorem dX5_copyFrom_16 : decode cX5_copyFrom 16 = .ok (.getfield 15, 3) := dk_getfield (by decide +kernel)
theorem dX5_copyFrom_19 : decode cX5_copyFrom 19 = .ok (.iconst 0, 1) := dk_iconst_0 (by decide +kernel)
theorem dX5_copyFrom_20 : decode cX5_copyFrom 20 = .ok (.aload_n 0, 1) := dk_aload_n_0 (by decide +kernel)
theorem dX5_copyFrom_21 : decode cX5_copyFrom 21 = .ok (.getfield 15, 3) := dk_getfield (by decide +kernel)
theorem dX5_copyFrom_24 : decode cX5_copyFrom 24 = .ok (.iconst 0, 1) := dk_iconst_0 (by decide +kernel)
theorem dX5_copyFrom_25 : decode cX5_copyFrom 25 = .ok (.bipush 8, 2) := dk_bipush (by decide +kernel)
theorem dX5_copyFrom_27 : decode cX5_copyFrom 27 = .ok (.invokestatic 26, 3) := dk_invokestatic (by decide +kernel)
theorem dX5_copyFrom_30 : decode cX5_copyFrom 30 = .ok (.aload_n 1, 1) := dk_aload_n_1 (by decide +kernel)
theorem dX5_copyFrom_31 : decode cX5_copyFrom 31 = .ok (.getfield 18, 3) := dk_getfield (by decide +kernel)
theorem dX5_copyFrom_34 : decode cX5_copyFrom 34 = .ok (.iconst 0, 1) := dk_iconst_0 (by decide +kernel)
theorem dX5_copyFrom_35 : decode cX5_copyFrom 35 = .ok (.aload_n 0, 1) := dk_aload_n_0 (by decide +kernel)
theorem dX5_copyFrom_36 : decode cX5_copyFrom 36 = .ok (.getfield 18, 3) := dk_getfield (by decide +kernel)
theorem dX5_copyFrom_39 : decode cX5_copyFrom 39 = .ok (.iconst 0, 1) := dk_iconst_0 (by decide +kernel)
theorem dX5_copyFrom_40 : decode cX5_copyFrom 40 = .ok (.bipush 8, 2) := dk_bipush (by decide +kernel)
theorem dX5_copyFrom_42 : decode cX5_copyFrom 42 = .ok (.invokestatic 26, 3) := dk_invokestatic (by decide +kernel)
theorem dX5_copyFrom_45 : decode cX5_copyFrom 45 = .ok (.aload_n 0, 1) := dk_aload_n_0 (by decide +kernel)
theorem dX5_copyFrom_46 : decode cX5_copyFrom 46 = .ok (.aload_n 1, 1) := dk_aload_n_1 (by decide +kernel)
theorem dX5_copyFrom_47 : decode cX5_copyFrom 47 = .ok (.getfield 22, 3) := dk_getfield (by decide +kernel)
theorem dX5_copyFrom_50 : decode cX5_copyFrom 50 = .ok (.putfield 22, 3) := dk_putfield (by decide +kernel)
theorem dX5_copyFrom_53 : decode cX5_copyFrom 53 = .ok (.return_, 1) := dk_return_ (by decide +kernel)
set_option maxHeartbeats 4000000 in
set_option maxRecDepth 100000 in
theorem sX5_copyFrom (l : Launch) (D : va_G) (k : Nat → ClassId) (sz : Nat) (z : Nat) (zz : Nat) (z_minutes : Nat) (z_yards : Nat) (z_near : Nat) (z_size : Nat) (z_minutesF : Nat → Int32) (z_yardsF : Nat → Int32) (z_nearF : Nat → Int32) (zz_minutes : Nat) (zz_yards : Nat) (zz_near : Nat) (zz_size : Nat) (zz_minutesF : Nat → Int32) (zz_yardsF : Nat → Int32) (zz_nearF : Nat → Int32) (h_z_size : z_size ≤ 8) (h_zz_size : zz_size ≤ 8) (h_z_minutes : ∀ q, Int32.toInt (z_minutesF q) ≤ 60) (h_z_near : ∀ q, fits .boolean (.int (z_nearF q)) = true) (h_zz_minutes : ∀ q, Int32.toInt (zz_minutesF q) ≤ 60) (h_zz_near : ∀ q, fits .boolean (.int (zz_nearF q)) = true) : Met l yX5_copyFrom wsX5_copyFrom ({ frames := 1, cells := 0, slots := 0, locals := 70 }) (va_Pc [.ref z, .ref zz] (kz_Pre D k [(z, kO 5 [.ref z_minutes, .ref z_yards, .ref z_near, .int (nI z_size)]), (z_minutes, kI k 8 z_minutesF), (z_yards, kI k 8 z_yardsF), (z_near, kZ k 8 z_nearF), (zz, kO 5 [.ref zz_minutes, .ref zz_yards, .ref zz_near, .int (nI zz_size)]), (zz_minutes, kI k 8 zz_minutesF), (zz_yards, kI k 8 zz_yardsF), (zz_near, kZ k 8 zz_nearF)] sz)) (va_Qv (fun (uu : Nat × (Nat → Int32) × (Nat → Int32) × (Nat → Int32)) => (uu.1 ≤ 8) ∧ (∀ q, Int32.toInt (uu.2.1 q) ≤ 60) ∧ (∀ q, fits .boolean (.int (uu.2.2.2 q)) = true) ∧ ((uu.1, uu.2.1, uu.2.2.1, uu.2.2.2) = (fX5_copyFrom z_minutesF z_yardsF z_nearF zz_size zz_minutesF zz_yardsF zz_nearF))) (fun uu zt => kz_B D (va_A [(z, kO 5 [.ref z_minutes, .ref z_yards, .ref z_near, .int (nI z_size)]), (z_minutes, kI k 8 z_minutesF), (z_yards, kI k 8 z_yardsF), (z_near, kZ k 8 z_nearF), (zz, kO 5 [.ref zz_minutes, .ref zz_yards, .ref zz_near, .int (nI zz_size)]), (zz_minutes, kI k 8 zz_minutesF), (zz_yards, kI k 8 zz_yardsF), (zz_near, kZ k 8 zz_nearF)] sz) [(z, kO 5 [.ref z_minutes, .ref z_yards, .ref z_near, .int (nI uu.1)]), (z_minutes, kI k 8 uu.2.1), (z_yards, kI k 8 uu.2.2.1), (z_near, kZ k 8 uu.2.2.2), (zz, kO 5 [.ref zz_minutes, .ref zz_yards, .ref zz_near, .int (nI zz_size)]), (zz_minutes, kI k 8 zz_minutesF), (zz_yards, kI k 8 zz_yardsF), (zz_near, kZ k 8 zz_nearF)] zt) (va_A [(z, kO 5 [.ref z_minutes, .ref z_yards, .ref z_near, .int (nI z_size)]), (z_minutes, kI k 8 z_minutesF), (z_yards, kI k 8 z_yardsF), (z_near, kZ k 8 z_nearF), (zz, kO 5 [.ref zz_minutes, .ref zz_yards, .ref zz_near, .int (nI zz_size)]), (zz_minutes, kI k 8 zz_minutesF), (zz_yards, kI k 8 zz_yardsF), (zz_near, kZ k 8 zz_nearF)] sz)) 0 0 (va_A [(z, kO 5 [.ref z_minutes, .ref z_yards, .ref z_near, .int (nI z_size)]), (z_minutes, kI k 8 z_minutesF), (z_yards, kI k 8 z_yardsF), (z_near, kZ k 8 z_nearF), (zz, kO 5 [.ref zz_minutes, .ref zz_yards, .ref zz_near, .int (nI zz_size)]), (zz_minutes, kI k 8 zz_minutesF), (zz_yards, kI k 8 zz_yardsF), (zz_near, kZ k 8 zz_nearF)] sz) := by
  refine Met.ofW (cc := cX5_copyFrom) (maxL := 2) (ret := none) (by decide) rfl ?_
  intro p e s m args below meth c s₁ B hml hv
  obtain ⟨hav, hsz, hP, hK, hD0, hE⟩ := hv
  have hx := B.exec
  have hb := B.bytes
  have hr := B.returns
  have hts := atoms_spec (ws := wsX5_copyFrom) B.pre
  have hown : s.vm.findClass RX5 = some m.cls := findClass_of_methodNamed B.named
  have hlocks := B.notSynchronized
  have hi5 : ∀ w ∈ u_ws RX5 TX5 4, w ∈ wsX5_copyFrom := fun w h9 => List.mem_cons_of_mem _ (List.mem_append_right _ h9)
  have lf11 := hts (.fieldLink RX5 11 "LastCook$Sights" "minutes" "[I") (List.mem_cons_of_mem _ (List.mem_append_left _ (List.mem_of_getElem? (i := 0) rfl)))
  have lm26 := hts (.methodLink RX5 26 arraycopyName) (List.mem_cons_of_mem _ (List.mem_append_left _ (List.mem_of_getElem? (i := 1) rfl)))
  have lna := hts (.native arraycopyName) (List.mem_cons_of_mem _ (List.mem_append_left _ (List.mem_of_getElem? (i := 2) rfl)))
  have lsa := hts (.static arraycopyName) (List.mem_cons_of_mem _ (List.mem_append_left _ (List.mem_of_getElem? (i := 3) rfl)))
  have lia := hts (.initialized "java/lang/System") (List.mem_cons_of_mem _ (List.mem_append_left _ (List.mem_of_getElem? (i := 4) rfl)))
  have lf15 := hts (.fieldLink RX5 15 "LastCook$Sights" "yards" "[I") (List.mem_cons_of_mem _ (List.mem_append_left _ (List.mem_of_getElem? (i := 5) rfl)))
  have lf18 := hts (.fieldLink RX5 18 "LastCook$Sights" "near" "[Z") (List.mem_cons_of_mem _ (List.mem_append_left _ (List.mem_of_getElem? (i := 6) rfl)))
  have lf22 := hts (.fieldLink RX5 22 "LastCook$Sights" "size" "I") (List.mem_cons_of_mem _ (List.mem_append_left _ (List.mem_of_getElem? (i := 7) rfl)))
  subst hsz
  have hD := hD0.self (sz := s.heap.size)
  generalize hAe : va_A [(z, kO 5 [.ref z_minutes, .ref z_yards, .ref z_near, .int (nI z_size)]), (z_minutes, kI k 8 z_minutesF), (z_yards, kI k 8 z_yardsF), (z_near, kZ k 8 z_nearF), (zz, kO 5 [.ref zz_minutes, .ref zz_yards, .ref zz_near, .int (nI zz_size)]), (zz_minutes, kI k 8 zz_minutesF), (zz_yards, kI k 8 zz_yardsF), (zz_near, kZ k 8 zz_nearF)] s.heap.size = A at hD ⊢
  have hA : ∀ q : Nat, s.heap.size ≤ q → A q := fun q h => by rw [← hAe]; exact Or.inr h
  have hS : va_S A s.heap s.heap [] := va_S.rf
  have hl := lv_entry ([.ref z, .ref zz]) (n := 2) (Nat.le_of_ble_eq_true rfl)
  rw [show entryFrame m args 2 = entryFrame m ([.ref z, .ref zz] : List Value).toArray 2 by rw [hav], lg_entry_eq]
  generalize (lg_sl ([.ref z, .ref zz]) ++ List.replicate (2 - (lg_sl ([.ref z, .ref zz])).length) Slot.unset).toArray = ls at hl ⊢
  have hl : lv_has ls 2 [(0, .ref z), (1, .ref zz)] := hl
  obtain ⟨R, hR⟩ : ∃ R, R = (headSpec wsX5_copyFrom ({ frames := 1, cells := 0, slots := 0, locals := 70 } : Room)).room := ⟨_, rfl⟩
  rw [← hR]
  generalize hQ : MQ below _ args s 0 0 A = Q
  replace hQ := hQ.symm
  obtain ⟨H, hH⟩ : ∃ H, H = s.heap := ⟨_, rfl⟩
  rw [← hH] at hP ⊢
  have hS : va_S A s.heap H [] := by rw [hH]; exact hS
  obtain ⟨E0, hE0⟩ : ∃ E0 : Nat × (Nat → Int32) × (Nat → Int32) × (Nat → Int32), E0 = (fX5_copyFrom z_minutesF z_yardsF z_nearF zz_size zz_minutesF zz_yardsF zz_nearF) := ⟨_, rfl⟩
  have hZ : (fX5_copyFrom z_minutesF z_yardsF z_nearF zz_size zz_minutesF zz_yardsF zz_nearF) = E0 := hE0.symm
  refine lv_aload_n hx hb dX5_copyFrom_0 rfl (lv_at hl 1 rfl) ?_
  refine va_get (D := D) (ci := 5) (v := .ref zz_minutes) (C := RX5) (T := TX5) (N := 4) hx hb hts hi5 hown hK hP 4 rfl rfl 0 (by decide) lf11 (fun _ h9 => h9) rfl dX5_copyFrom_1 ?_
  refine lv_iconst (v := 0) hx hb dX5_copyFrom_4 (by decide) ?_
  refine lv_aload_n hx hb dX5_copyFrom_5 rfl (lv_at hl 0 rfl) ?_
  refine va_get (D := D) (ci := 5) (v := .ref z_minutes) (C := RX5) (T := TX5) (N := 4) hx hb hts hi5 hown hK hP 0 rfl rfl 0 (by decide) lf11 (fun _ h9 => h9) rfl dX5_copyFrom_6 ?_
  refine lv_iconst (v := 0) hx hb dX5_copyFrom_9 (by decide) ?_
  refine lv_bipush (v := 8) hx hb dX5_copyFrom_10 (by decide) ?_
  refine va_copyi (ty := .int) hx hb (hml.trans hl.1.symm) hown lm26 lna lsa lia hK hP hD hS 5 1 0 0 rfl rfl rfl rfl rfl (by decide +kernel) (by decide +kernel) (by decide +kernel) (by decide +kernel) (by decide +kernel) (fun _ _ => rfl) (by rw [hR]; exact Nat.le_of_ble_eq_true rfl) (by rw [hR]; decide +kernel) dX5_copyFrom_12 (fun H locs hP hD hS => ?_)
  exact by
   have hP : va_P D vwCl [(z, kO 5 [.ref z_minutes, .ref z_yards, .ref z_near, .int (nI z_size)]), (z_minutes, kI k 8 (va_cpy zz_minutesF z_minutesF 0 0 8)), (z_yards, kI k 8 z_yardsF), (z_near, kZ k 8 z_nearF), (zz, kO 5 [.ref zz_minutes, .ref zz_yards, .ref zz_near, .int (nI zz_size)]), (zz_minutes, kI k 8 zz_minutesF), (zz_yards, kI k 8 zz_yardsF), (zz_near, kZ k 8 zz_nearF)] H := hP
   have hD : va_D A [(z, kO 5 [.ref z_minutes, .ref z_yards, .ref z_near, .int (nI z_size)]), (z_minutes, kI k 8 (va_cpy zz_minutesF z_minutesF 0 0 8)), (z_yards, kI k 8 z_yardsF), (z_near, kZ k 8 z_nearF), (zz, kO 5 [.ref zz_minutes, .ref zz_yards, .ref zz_near, .int (nI zz_size)]), (zz_minutes, kI k 8 zz_minutesF), (zz_yards, kI k 8 zz_yardsF), (zz_near, kZ k 8 zz_nearF)] := hD
   refine lv_aload_n hx hb dX5_copyFrom_15 rfl (lv_at hl 1 rfl) ?_
   refine va_get (D := D) (ci := 5) (v := .ref zz_yards) (C := RX5) (T := TX5) (N := 4) hx hb hts hi5 hown hK hP 4 rfl rfl 1 (by decide) lf15 (fun _ h9 => h9) rfl dX5_copyFrom_16 ?_
   refine lv_iconst (v := 0) hx hb dX5_copyFrom_19 (by decide) ?_
   refine lv_aload_n hx hb dX5_copyFrom_20 rfl (lv_at hl 0 rfl) ?_
   refine va_get (D := D) (ci := 5) (v := .ref z_yards) (C := RX5) (T := TX5) (N := 4) hx hb hts hi5 hown hK hP 0 rfl rfl 1 (by decide) lf15 (fun _ h9 => h9) rfl dX5_copyFrom_21 ?_
   refine lv_iconst (v := 0) hx hb dX5_copyFrom_24 (by decide) ?_
   refine lv_bipush (v := 8) hx hb dX5_copyFrom_25 (by decide) ?_
   refine va_copyi (ty := .int) hx hb (hml.trans hl.1.symm) hown lm26 lna lsa lia hK hP hD hS 6 2 0 0 rfl rfl rfl rfl rfl (by decide +kernel) (by decide +kernel) (by decide +kernel) (by decide +kernel) (by decide +kernel) (fun _ _ => rfl) (by rw [hR]; exact Nat.le_of_ble_eq_true rfl) (by rw [hR]; decide +kernel) dX5_copyFrom_27 (fun H locs hP hD hS => ?_)
   exact by
    have hP : va_P D vwCl [(z, kO 5 [.ref z_minutes, .ref z_yards, .ref z_near, .int (nI z_size)]), (z_minutes, kI k 8 (va_cpy zz_minutesF z_minutesF 0 0 8)), (z_yards, kI k 8 (va_cpy zz_yardsF z_yardsF 0 0 8)), (z_near, kZ k 8 z_nearF), (zz, kO 5 [.ref zz_minutes, .ref zz_yards, .ref zz_near, .int (nI zz_size)]), (zz_minutes, kI k 8 zz_minutesF), (zz_yards, kI k 8 zz_yardsF), (zz_near, kZ k 8 zz_nearF)] H := hP
    have hD : va_D A [(z, kO 5 [.ref z_minutes, .ref z_yards, .ref z_near, .int (nI z_size)]), (z_minutes, kI k 8 (va_cpy zz_minutesF z_minutesF 0 0 8)), (z_yards, kI k 8 (va_cpy zz_yardsF z_yardsF 0 0 8)), (z_near, kZ k 8 z_nearF), (zz, kO 5 [.ref zz_minutes, .ref zz_yards, .ref zz_near, .int (nI zz_size)]), (zz_minutes, kI k 8 zz_minutesF), (zz_yards, kI k 8 zz_yardsF), (zz_near, kZ k 8 zz_nearF)] := hD
    refine lv_aload_n hx hb dX5_copyFrom_30 rfl (lv_at hl 1 rfl) ?_
    refine va_get (D := D) (ci := 5) (v := .ref zz_near) (C := RX5) (T := TX5) (N := 4) hx hb hts hi5 hown hK hP 4 rfl rfl 2 (by decide) lf18 (fun _ h9 => h9) rfl dX5_copyFrom_31 ?_
    refine lv_iconst (v := 0) hx hb dX5_copyFrom_34 (by decide) ?_
    refine lv_aload_n hx hb dX5_copyFrom_35 rfl (lv_at hl 0 rfl) ?_
    refine va_get (D := D) (ci := 5) (v := .ref z_near) (C := RX5) (T := TX5) (N := 4) hx hb hts hi5 hown hK hP 0 rfl rfl 2 (by decide) lf18 (fun _ h9 => h9) rfl dX5_copyFrom_36 ?_
    refine lv_iconst (v := 0) hx hb dX5_copyFrom_39 (by decide) ?_
    refine lv_bipush (v := 8) hx hb dX5_copyFrom_40 (by decide) ?_
    refine va_copyi (ty := .boolean) hx hb (hml.trans hl.1.symm) hown lm26 lna lsa lia hK hP hD hS 7 3 3 3 rfl rfl rfl rfl rfl (by decide +kernel) (by decide +kernel) (by decide +kernel) (by decide) (by decide) (fun _ _ => h_zz_near _) (by rw [hR]; exact Nat.le_of_ble_eq_true rfl) (by rw [hR]; decide +kernel) dX5_copyFrom_42 (fun H locs hP hD hS => ?_)
    exact by
     have hP : va_P D vwCl [(z, kO 5 [.ref z_minutes, .ref z_yards, .ref z_near, .int (nI z_size)]), (z_minutes, kI k 8 (va_cpy zz_minutesF z_minutesF 0 0 8)), (z_yards, kI k 8 (va_cpy zz_yardsF z_yardsF 0 0 8)), (z_near, kZ k 8 (va_cpy zz_nearF z_nearF 0 0 8)), (zz, kO 5 [.ref zz_minutes, .ref zz_yards, .ref zz_near, .int (nI zz_size)]), (zz_minutes, kI k 8 zz_minutesF), (zz_yards, kI k 8 zz_yardsF), (zz_near, kZ k 8 zz_nearF)] H := hP
     have hD : va_D A [(z, kO 5 [.ref z_minutes, .ref z_yards, .ref z_near, .int (nI z_size)]), (z_minutes, kI k 8 (va_cpy zz_minutesF z_minutesF 0 0 8)), (z_yards, kI k 8 (va_cpy zz_yardsF z_yardsF 0 0 8)), (z_near, kZ k 8 (va_cpy zz_nearF z_nearF 0 0 8)), (zz, kO 5 [.ref zz_minutes, .ref zz_yards, .ref zz_near, .int (nI zz_size)]), (zz_minutes, kI k 8 zz_minutesF), (zz_yards, kI k 8 zz_yardsF), (zz_near, kZ k 8 zz_nearF)] := hD
     refine lv_aload_n hx hb dX5_copyFrom_45 rfl (lv_at hl 0 rfl) ?_
     refine lv_aload_n hx hb dX5_copyFrom_46 rfl (lv_at hl 1 rfl) ?_
     refine va_get (D := D) (ci := 5) (v := .int (nI zz_size)) (C := RX5) (T := TX5) (N := 4) hx hb hts hi5 hown hK hP 4 rfl rfl 3 (by decide) lf22 (fun _ h9 => h9) rfl dX5_copyFrom_47 ?_
     refine va_put (D := D) (ci := 5) (v := .int (nI zz_size)) (ty := .int) (C := RX5) (T := TX5) (N := 4) hx hb hts hi5 tyX5 tyX5_ok nmX5 hown hK hP hD hS 0 rfl rfl 3 (by decide) lf22 (fun _ h9 => h9) rfl (by decide +kernel) rfl rfl (Nat.le_of_ble_eq_true rfl) dX5_copyFrom_50 (fun H locs hP hD hS => ?_)
     exact by
      have hP : va_P D vwCl [(z, kO 5 [.ref z_minutes, .ref z_yards, .ref z_near, .int (nI zz_size)]), (z_minutes, kI k 8 (va_cpy zz_minutesF z_minutesF 0 0 8)), (z_yards, kI k 8 (va_cpy zz_yardsF z_yardsF 0 0 8)), (z_near, kZ k 8 (va_cpy zz_nearF z_nearF 0 0 8)), (zz, kO 5 [.ref zz_minutes, .ref zz_yards, .ref zz_near, .int (nI zz_size)]), (zz_minutes, kI k 8 zz_minutesF), (zz_yards, kI k 8 zz_yardsF), (zz_near, kZ k 8 zz_nearF)] H := hP
      have hD : va_D A [(z, kO 5 [.ref z_minutes, .ref z_yards, .ref z_near, .int (nI zz_size)]), (z_minutes, kI k 8 (va_cpy zz_minutesF z_minutesF 0 0 8)), (z_yards, kI k 8 (va_cpy zz_yardsF z_yardsF 0 0 8)), (z_near, kZ k 8 (va_cpy zz_nearF z_nearF 0 0 8)), (zz, kO 5 [.ref zz_minutes, .ref zz_yards, .ref zz_near, .int (nI zz_size)]), (zz_minutes, kI k 8 zz_minutesF), (zz_yards, kI k 8 zz_yardsF), (zz_near, kZ k 8 zz_nearF)] := hD
      rw [hQ]
      have hP9 := hP.sub (ws' := [(z, kO 5 [.ref z_minutes, .ref z_yards, .ref z_near, .int (nI zz_size)]), (z_minutes, kI k 8 (va_cpy zz_minutesF z_minutesF 0 0 8)), (z_yards, kI k 8 (va_cpy zz_yardsF z_yardsF 0 0 8)), (z_near, kZ k 8 (va_cpy zz_nearF z_nearF 0 0 8)), (zz, kO 5 [.ref zz_minutes, .ref zz_yards, .ref zz_near, .int (nI zz_size)]), (zz_minutes, kI k 8 zz_minutesF), (zz_yards, kI k 8 zz_yardsF), (zz_near, kZ k 8 zz_nearF)]) [0, 1, 2, 3, 4, 5, 6, 7] rfl
      have hD9 := hD.sub (ws' := [(z, kO 5 [.ref z_minutes, .ref z_yards, .ref z_near, .int (nI zz_size)]), (z_minutes, kI k 8 (va_cpy zz_minutesF z_minutesF 0 0 8)), (z_yards, kI k 8 (va_cpy zz_yardsF z_yardsF 0 0 8)), (z_near, kZ k 8 (va_cpy zz_nearF z_nearF 0 0 8)), (zz, kO 5 [.ref zz_minutes, .ref zz_yards, .ref zz_near, .int (nI zz_size)]), (zz_minutes, kI k 8 zz_minutesF), (zz_yards, kI k 8 zz_yardsF), (zz_near, kZ k 8 zz_nearF)]) [0, 1, 2, 3, 4, 5, 6, 7] (by decide +kernel) rfl
      exact W.vret hx hb hr (fun zt ht hW => ⟨⟨⟨zz_size, (va_cpy zz_minutesF z_minutesF 0 0 8), (va_cpy zz_yardsF z_yardsF 0 0 8), (va_cpy zz_nearF z_nearF 0 0 8)⟩, rfl, ⟨(by first | omega | (dsimp only; omega) | assumption), (cpy_le60 h_zz_minutes h_z_minutes), (cpy_fitz h_zz_near h_z_near), (hZ.trans hE0)⟩, by rw [ht]; exact hP9, hD9⟩, hS.F ht⟩) hS.2.2 dX5_copyFrom_53
theorem dX5_add_0 : decode cX5_add 0 = .ok (.aload_n 0, 1) := dk_aload_n_0 (by decide +kernel)
theorem dX5_add_1 : decode cX5_add 1 = .ok (.getfield 22, 3) := dk_getfield (by decide +kernel)
theorem dX5_add_4 : decode cX5_add 4 = .ok (.bipush 8, 2) := dk_bipush (by decide +kernel)
theorem dX5_add_6 : decode cX5_add 6 = .ok (.if_icmp .lt 5, 3) := dk_if_icmp_lt (by decide +kernel)
theorem dX5_add_9 : decode cX5_add 9 = .ok (.iconst 0, 1) := dk_iconst_0 (by decide +kernel)
theorem dX5_add_10 : decode cX5_add 10 = .ok (.ireturn, 1) := dk_ireturn (by decide +kernel)
theorem dX5_add_11 : decode cX5_add 11 = .ok (.aload_n 0, 1) := dk_aload_n_0 (by decide +kernel)
theorem dX5_add_12 : decode cX5_add 12 = .ok (.getfield 11, 3) := dk_getfield (by decide +kernel)
theorem dX5_add_15 : decode cX5_add 15 = .ok (.aload_n 0, 1) := dk_aload_n_0 (by decide +kernel)
theorem dX5_add_16 : decode cX5_add 16 = .ok (.getfield 22, 3) := dk_getfield (by decide +kernel)
theorem dX5_add_19 : decode cX5_add 19 = .ok (.iload_n 1, 1) := dk_iload_n_1 (by decide +kernel)
theorem dX5_add_20 : decode cX5_add 20 = .ok (.iastore, 1) := dk_iastore (by decide +kernel)
theorem dX5_add_21 : decode cX5_add 21 = .ok (.aload_n 0, 1) := dk_aload_n_0 (by decide +kernel)
theorem dX5_add_22 : decode cX5_add 22 = .ok (.getfield 15, 3) := dk_getfield (by decide +kernel)
theorem dX5_add_25 : decode cX5_add 25 = .ok (.aload_n 0, 1) := dk_aload_n_0 (by decide +kernel)
theorem dX5_add_26 : decode cX5_add 26 = .ok (.getfield 22, 3) := dk_getfield (by decide +kernel)
theorem dX5_add_29 : decode cX5_add 29 = .ok (.iload_n 2, 1) := dk_iload_n_2 (by decide +kernel)
theorem dX5_add_30 : decode cX5_add 30 = .ok (.iastore, 1) := dk_iastore (by decide +kernel)
theorem dX5_add_31 : decode cX5_add 31 = .ok (.aload_n 0, 1) := dk_aload_n_0 (by decide +kernel)
theorem dX5_add_32 : decode cX5_add 32 = .ok (.getfield 18, 3) := dk_getfield (by decide +kernel)
theorem dX5_add_35 : decode cX5_add 35 = .ok (.aload_n 0, 1) := dk_aload_n_0 (by decide +kernel)
theorem dX5_add_36 : decode cX5_add 36 = .ok (.getfield 22, 3) := dk_getfield (by decide +kernel)
theorem dX5_add_39 : decode cX5_add 39 = .ok (.iload_n 3, 1) := dk_iload_n_3 (by decide +kernel)
theorem dX5_add_40 : decode cX5_add 40 = .ok (.bastore, 1) := dk_bastore (by decide +kernel)
theorem dX5_add_41 : decode cX5_add 41 = .ok (.aload_n 0, 1) := dk_aload_n_0 (by decide +kernel)
theorem dX5_add_42 : decode cX5_add 42 = .ok (.dup, 1) := dk_dup (by decide +kernel)
theorem dX5_add_43 : decode cX5_add 43 = .ok (.getfield 22, 3) := dk_getfield (by decide +kernel)
theorem dX5_add_46 : decode cX5_add 46 = .ok (.iconst 1, 1) := dk_iconst_1 (by decide +kernel)
theorem dX5_add_47 : decode cX5_add 47 = .ok (.iadd, 1) := dk_iadd (by decide +kernel)
theorem dX5_add_48 : decode cX5_add 48 = .ok (.putfield 22, 3) := dk_putfield (by decide +kernel)
theorem dX5_add_51 : decode cX5_add 51 = .ok (.iconst 1, 1) := dk_iconst_1 (by decide +kernel)
theorem dX5_add_52 : decode cX5_add 52 = .ok (.ireturn, 1) := dk_ireturn (by decide +kernel)
set_option maxHeartbeats 4000000 in
set_option maxRecDepth 100000 in
theorem sX5_add (l : Launch) (D : va_G) (k : Nat → ClassId) (sz : Nat) (z : Nat) (be : Int32) (of : Int32) (nf : Bool) (z_minutes : Nat) (z_yards : Nat) (z_near : Nat) (z_size : Nat) (z_minutesF : Nat → Int32) (z_yardsF : Nat → Int32) (z_nearF : Nat → Int32) (hbe : Int32.toInt be ≤ 60) (h_z_size : z_size ≤ 8) (h_z_minutes : ∀ q, Int32.toInt (z_minutesF q) ≤ 60) (h_z_near : ∀ q, fits .boolean (.int (z_nearF q)) = true) : Met l yX5_add wsX5_add ({ frames := 0, cells := 0, slots := 0, locals := 0 }) (va_Pc [.ref z, .int be, .int of, .int (bB nf)] (kz_Pre D k [(z, kO 5 [.ref z_minutes, .ref z_yards, .ref z_near, .int (nI z_size)]), (z_minutes, kI k 8 z_minutesF), (z_yards, kI k 8 z_yardsF), (z_near, kZ k 8 z_nearF)] sz)) (va_Qi (fun (rr : Int32) (uu : Nat × (Nat → Int32) × (Nat → Int32) × (Nat → Int32) × Bool) => rr = bB uu.2.2.2.2 ∧ (uu.1 ≤ 8) ∧ (∀ q, Int32.toInt (uu.2.1 q) ≤ 60) ∧ (∀ q, fits .boolean (.int (uu.2.2.2.1 q)) = true) ∧ ((uu.1, uu.2.1, uu.2.2.1, uu.2.2.2.1, uu.2.2.2.2) = (fX5_add be of nf z_size z_minutesF z_yardsF z_nearF))) (fun uu zt => kz_B D (va_A [(z, kO 5 [.ref z_minutes, .ref z_yards, .ref z_near, .int (nI z_size)]), (z_minutes, kI k 8 z_minutesF), (z_yards, kI k 8 z_yardsF), (z_near, kZ k 8 z_nearF)] sz) [(z, kO 5 [.ref z_minutes, .ref z_yards, .ref z_near, .int (nI uu.1)]), (z_minutes, kI k 8 uu.2.1), (z_yards, kI k 8 uu.2.2.1), (z_near, kZ k 8 uu.2.2.2.1)] zt) (va_A [(z, kO 5 [.ref z_minutes, .ref z_yards, .ref z_near, .int (nI z_size)]), (z_minutes, kI k 8 z_minutesF), (z_yards, kI k 8 z_yardsF), (z_near, kZ k 8 z_nearF)] sz)) 0 0 (va_A [(z, kO 5 [.ref z_minutes, .ref z_yards, .ref z_near, .int (nI z_size)]), (z_minutes, kI k 8 z_minutesF), (z_yards, kI k 8 z_yardsF), (z_near, kZ k 8 z_nearF)] sz) := by
  refine Met.ofW (cc := cX5_add) (maxL := 4) (ret := (some .boolean)) (by decide) rfl ?_
  intro p e s m args below meth c s₁ B hml hv
  obtain ⟨hav, hsz, hP, hK, hD0, hE⟩ := hv
  have hx := B.exec
  have hb := B.bytes
  have hr := B.returns
  have hts := atoms_spec (ws := wsX5_add) B.pre
  have hown : s.vm.findClass RX5 = some m.cls := findClass_of_methodNamed B.named
  have hlocks := B.notSynchronized
  have hi5 : ∀ w ∈ u_ws RX5 TX5 4, w ∈ wsX5_add := fun w h9 => List.mem_cons_of_mem _ (List.mem_append_right _ h9)
  have lf22 := hts (.fieldLink RX5 22 "LastCook$Sights" "size" "I") (List.mem_cons_of_mem _ (List.mem_append_left _ (List.mem_of_getElem? (i := 0) rfl)))
  have lf11 := hts (.fieldLink RX5 11 "LastCook$Sights" "minutes" "[I") (List.mem_cons_of_mem _ (List.mem_append_left _ (List.mem_of_getElem? (i := 1) rfl)))
  have lf15 := hts (.fieldLink RX5 15 "LastCook$Sights" "yards" "[I") (List.mem_cons_of_mem _ (List.mem_append_left _ (List.mem_of_getElem? (i := 2) rfl)))
  have lf18 := hts (.fieldLink RX5 18 "LastCook$Sights" "near" "[Z") (List.mem_cons_of_mem _ (List.mem_append_left _ (List.mem_of_getElem? (i := 3) rfl)))
  subst hsz
  have hD := hD0.self (sz := s.heap.size)
  generalize hAe : va_A [(z, kO 5 [.ref z_minutes, .ref z_yards, .ref z_near, .int (nI z_size)]), (z_minutes, kI k 8 z_minutesF), (z_yards, kI k 8 z_yardsF), (z_near, kZ k 8 z_nearF)] s.heap.size = A at hD ⊢
  have hA : ∀ q : Nat, s.heap.size ≤ q → A q := fun q h => by rw [← hAe]; exact Or.inr h
  have hS : va_S A s.heap s.heap [] := va_S.rf
  have hl := lv_entry ([.ref z, .int be, .int of, .int (bB nf)]) (n := 4) (Nat.le_of_ble_eq_true rfl)
  rw [show entryFrame m args 4 = entryFrame m ([.ref z, .int be, .int of, .int (bB nf)] : List Value).toArray 4 by rw [hav], lg_entry_eq]
  generalize (lg_sl ([.ref z, .int be, .int of, .int (bB nf)]) ++ List.replicate (4 - (lg_sl ([.ref z, .int be, .int of, .int (bB nf)])).length) Slot.unset).toArray = ls at hl ⊢
  have hl : lv_has ls 4 [(0, .ref z), (1, .int be), (2, .int of), (3, .int (bB nf))] := hl
  obtain ⟨R, hR⟩ : ∃ R, R = (headSpec wsX5_add ({ frames := 0, cells := 0, slots := 0, locals := 0 } : Room)).room := ⟨_, rfl⟩
  rw [← hR]
  generalize hQ : MQ below _ args s 0 0 A = Q
  replace hQ := hQ.symm
  obtain ⟨H, hH⟩ : ∃ H, H = s.heap := ⟨_, rfl⟩
  rw [← hH] at hP ⊢
  have hS : va_S A s.heap H [] := by rw [hH]; exact hS
  obtain ⟨E0, hE0⟩ : ∃ E0 : Nat × (Nat → Int32) × (Nat → Int32) × (Nat → Int32) × Bool, E0 = (fX5_add be of nf z_size z_minutesF z_yardsF z_nearF) := ⟨_, rfl⟩
  have hZ : (fX5_add be of nf z_size z_minutesF z_yardsF z_nearF) = E0 := hE0.symm
  refine lv_aload_n hx hb dX5_add_0 rfl (lv_at hl 0 rfl) ?_
  refine va_get (D := D) (ci := 5) (v := .int (nI z_size)) (C := RX5) (T := TX5) (N := 4) hx hb hts hi5 hown hK hP 0 rfl rfl 3 (by decide) lf22 (fun _ h9 => h9) rfl dX5_add_1 ?_
  refine lv_bipush (v := 8) hx hb dX5_add_4 (by decide) ?_
  refine lv_icmp_lt (tgt := 11) hx hb dX5_add_6 (by decide) (fun c_1 => ?_) (fun c_1 => ?_)
  · exact by
     have k_1 : z_size < 8 := (nI_ltI (a := z_size) (b := 8) (by omega) (by omega)).mp c_1
     have hZ := (if_pos k_1).symm.trans hZ
     refine lv_aload_n hx hb dX5_add_11 rfl (lv_at hl 0 rfl) ?_
     refine va_get (D := D) (ci := 5) (v := .ref z_minutes) (C := RX5) (T := TX5) (N := 4) hx hb hts hi5 hown hK hP 0 rfl rfl 0 (by decide) lf11 (fun _ h9 => h9) rfl dX5_add_12 ?_
     refine lv_aload_n hx hb dX5_add_15 rfl (lv_at hl 0 rfl) ?_
     refine va_get (D := D) (ci := 5) (v := .int (nI z_size)) (C := RX5) (T := TX5) (N := 4) hx hb hts hi5 hown hK hP 0 rfl rfl 3 (by decide) lf22 (fun _ h9 => h9) rfl dX5_add_16 ?_
     refine lv_iload_n hx hb dX5_add_19 rfl (lv_at hl 1 rfl) ?_
     refine va_iast hx hb hK hP hD hS 1 0 rfl rfl (vp_in_nI (n := z_size) (by omega) (by omega)) dX5_add_20 (fun H locs hP hD hS => ?_)
     exact by
      have hP : va_P D vwCl [(z, kO 5 [.ref z_minutes, .ref z_yards, .ref z_near, .int (nI z_size)]), (z_minutes, kI k 8 (upd z_minutesF (Int32.toNatClampNeg (nI z_size)) be)), (z_yards, kI k 8 z_yardsF), (z_near, kZ k 8 z_nearF)] H := hP
      have hD : va_D A [(z, kO 5 [.ref z_minutes, .ref z_yards, .ref z_near, .int (nI z_size)]), (z_minutes, kI k 8 (upd z_minutesF (Int32.toNatClampNeg (nI z_size)) be)), (z_yards, kI k 8 z_yardsF), (z_near, kZ k 8 z_nearF)] := hD
      have hi_2 : ∀ q, Int32.toInt ((upd z_minutesF (Int32.toNatClampNeg (nI z_size)) be) q) ≤ 60 := upd_le60 h_z_minutes hbe
      refine lv_aload_n hx hb dX5_add_21 rfl (lv_at hl 0 rfl) ?_
      refine va_get (D := D) (ci := 5) (v := .ref z_yards) (C := RX5) (T := TX5) (N := 4) hx hb hts hi5 hown hK hP 0 rfl rfl 1 (by decide) lf15 (fun _ h9 => h9) rfl dX5_add_22 ?_
      refine lv_aload_n hx hb dX5_add_25 rfl (lv_at hl 0 rfl) ?_
      refine va_get (D := D) (ci := 5) (v := .int (nI z_size)) (C := RX5) (T := TX5) (N := 4) hx hb hts hi5 hown hK hP 0 rfl rfl 3 (by decide) lf22 (fun _ h9 => h9) rfl dX5_add_26 ?_
      refine lv_iload_n hx hb dX5_add_29 rfl (lv_at hl 2 rfl) ?_
      refine va_iast hx hb hK hP hD hS 2 0 rfl rfl (vp_in_nI (n := z_size) (by omega) (by omega)) dX5_add_30 (fun H locs hP hD hS => ?_)
      exact by
       have hP : va_P D vwCl [(z, kO 5 [.ref z_minutes, .ref z_yards, .ref z_near, .int (nI z_size)]), (z_minutes, kI k 8 (upd z_minutesF (Int32.toNatClampNeg (nI z_size)) be)), (z_yards, kI k 8 (upd z_yardsF (Int32.toNatClampNeg (nI z_size)) of)), (z_near, kZ k 8 z_nearF)] H := hP
       have hD : va_D A [(z, kO 5 [.ref z_minutes, .ref z_yards, .ref z_near, .int (nI z_size)]), (z_minutes, kI k 8 (upd z_minutesF (Int32.toNatClampNeg (nI z_size)) be)), (z_yards, kI k 8 (upd z_yardsF (Int32.toNatClampNeg (nI z_size)) of)), (z_near, kZ k 8 z_nearF)] := hD
       refine lv_aload_n hx hb dX5_add_31 rfl (lv_at hl 0 rfl) ?_
       refine va_get (D := D) (ci := 5) (v := .ref z_near) (C := RX5) (T := TX5) (N := 4) hx hb hts hi5 hown hK hP 0 rfl rfl 2 (by decide) lf18 (fun _ h9 => h9) rfl dX5_add_32 ?_
       refine lv_aload_n hx hb dX5_add_35 rfl (lv_at hl 0 rfl) ?_
       refine va_get (D := D) (ci := 5) (v := .int (nI z_size)) (C := RX5) (T := TX5) (N := 4) hx hb hts hi5 hown hK hP 0 rfl rfl 3 (by decide) lf22 (fun _ h9 => h9) rfl dX5_add_36 ?_
       refine lv_iload_n hx hb dX5_add_39 rfl (lv_at hl 3 rfl) ?_
       refine va_zast hx hb hK hP hD hS 3 3 rfl rfl (vp_in_nI (n := z_size) (by omega) (by omega)) dX5_add_40 (fun H locs hP hD hS => ?_)
       exact by
        have hP : va_P D vwCl [(z, kO 5 [.ref z_minutes, .ref z_yards, .ref z_near, .int (nI z_size)]), (z_minutes, kI k 8 (upd z_minutesF (Int32.toNatClampNeg (nI z_size)) be)), (z_yards, kI k 8 (upd z_yardsF (Int32.toNatClampNeg (nI z_size)) of)), (z_near, kZ k 8 (upd z_nearF (Int32.toNatClampNeg (nI z_size)) (vp_nar .boolean (bB nf))))] H := hP
        have hD : va_D A [(z, kO 5 [.ref z_minutes, .ref z_yards, .ref z_near, .int (nI z_size)]), (z_minutes, kI k 8 (upd z_minutesF (Int32.toNatClampNeg (nI z_size)) be)), (z_yards, kI k 8 (upd z_yardsF (Int32.toNatClampNeg (nI z_size)) of)), (z_near, kZ k 8 (upd z_nearF (Int32.toNatClampNeg (nI z_size)) (vp_nar .boolean (bB nf))))] := hD
        have hi_3 : ∀ q, fits .boolean (.int ((upd z_nearF (Int32.toNatClampNeg (nI z_size)) (vp_nar .boolean (bB nf))) q)) = true := upd_fitz h_z_near
        refine lv_aload_n hx hb dX5_add_41 rfl (lv_at hl 0 rfl) ?_
        refine lv_dup hx hb dX5_add_42 rfl ?_
        refine va_get (D := D) (ci := 5) (v := .int (nI z_size)) (C := RX5) (T := TX5) (N := 4) hx hb hts hi5 hown hK hP 0 rfl rfl 3 (by decide) lf22 (fun _ h9 => h9) rfl dX5_add_43 ?_
        refine lv_iconst (v := 1) hx hb dX5_add_46 (by decide) ?_
        refine lv_iadd hx hb dX5_add_47 ?_
        refine lv_topi (fun x4 ex4 => ?_)
        exact by
         obtain rfl : x4 = (nI (z_size + 1)) := ex4.trans (nI_add z_size 1)
         refine va_put (D := D) (ci := 5) (v := .int (nI (z_size + 1))) (ty := .int) (C := RX5) (T := TX5) (N := 4) hx hb hts hi5 tyX5 tyX5_ok nmX5 hown hK hP hD hS 0 rfl rfl 3 (by decide) lf22 (fun _ h9 => h9) rfl (by decide +kernel) rfl rfl (Nat.le_of_ble_eq_true rfl) dX5_add_48 (fun H locs hP hD hS => ?_)
         exact by
          have hP : va_P D vwCl [(z, kO 5 [.ref z_minutes, .ref z_yards, .ref z_near, .int (nI (z_size + 1))]), (z_minutes, kI k 8 (upd z_minutesF (Int32.toNatClampNeg (nI z_size)) be)), (z_yards, kI k 8 (upd z_yardsF (Int32.toNatClampNeg (nI z_size)) of)), (z_near, kZ k 8 (upd z_nearF (Int32.toNatClampNeg (nI z_size)) (vp_nar .boolean (bB nf))))] H := hP
          have hD : va_D A [(z, kO 5 [.ref z_minutes, .ref z_yards, .ref z_near, .int (nI (z_size + 1))]), (z_minutes, kI k 8 (upd z_minutesF (Int32.toNatClampNeg (nI z_size)) be)), (z_yards, kI k 8 (upd z_yardsF (Int32.toNatClampNeg (nI z_size)) of)), (z_near, kZ k 8 (upd z_nearF (Int32.toNatClampNeg (nI z_size)) (vp_nar .boolean (bB nf))))] := hD
          refine lv_iconst (v := 1) hx hb dX5_add_51 (by decide) ?_
          rw [hQ]
          have hP9 := hP.sub (ws' := [(z, kO 5 [.ref z_minutes, .ref z_yards, .ref z_near, .int (nI (z_size + 1))]), (z_minutes, kI k 8 (upd z_minutesF (Int32.toNatClampNeg (nI z_size)) be)), (z_yards, kI k 8 (upd z_yardsF (Int32.toNatClampNeg (nI z_size)) of)), (z_near, kZ k 8 (upd z_nearF (Int32.toNatClampNeg (nI z_size)) (vp_nar .boolean (bB nf))))]) [0, 1, 2, 3] rfl
          have hD9 := hD.sub (ws' := [(z, kO 5 [.ref z_minutes, .ref z_yards, .ref z_near, .int (nI (z_size + 1))]), (z_minutes, kI k 8 (upd z_minutesF (Int32.toNatClampNeg (nI z_size)) be)), (z_yards, kI k 8 (upd z_yardsF (Int32.toNatClampNeg (nI z_size)) of)), (z_near, kZ k 8 (upd z_nearF (Int32.toNatClampNeg (nI z_size)) (vp_nar .boolean (bB nf))))]) [0, 1, 2, 3] (by decide +kernel) rfl
          exact W.zret (v := 1) hx hb hr rfl (fun zt ht hW => ⟨⟨1, ⟨(z_size + 1), (upd z_minutesF (Int32.toNatClampNeg (nI z_size)) be), (upd z_yardsF (Int32.toNatClampNeg (nI z_size)) of), (upd z_nearF (Int32.toNatClampNeg (nI z_size)) (vp_nar .boolean (bB nf))), true⟩, rfl, ⟨rfl, (by first | omega | (dsimp only; omega) | assumption), hi_2, hi_3, (hZ.trans hE0)⟩, by rw [ht]; exact hP9, hD9⟩, hS.F ht⟩) hS.2.2 dX5_add_52
  · exact by
     have k_1 : ¬ (z_size < 8) := fun h => c_1 ((nI_ltI (a := z_size) (b := 8) (by omega) (by omega)).mpr h)
     have hZ := (if_neg k_1).symm.trans hZ
     refine lv_iconst (v := 0) hx hb dX5_add_9 (by decide) ?_
     rw [hQ]
     have hP9 := hP.sub (ws' := [(z, kO 5 [.ref z_minutes, .ref z_yards, .ref z_near, .int (nI z_size)]), (z_minutes, kI k 8 z_minutesF), (z_yards, kI k 8 z_yardsF), (z_near, kZ k 8 z_nearF)]) [0, 1, 2, 3] rfl
     have hD9 := hD.sub (ws' := [(z, kO 5 [.ref z_minutes, .ref z_yards, .ref z_near, .int (nI z_size)]), (z_minutes, kI k 8 z_minutesF), (z_yards, kI k 8 z_yardsF), (z_near, kZ k 8 z_nearF)]) [0, 1, 2, 3] (by decide +kernel) rfl
     exact W.zret (v := 0) hx hb hr rfl (fun zt ht hW => ⟨⟨0, ⟨z_size, z_minutesF, z_yardsF, z_nearF, false⟩, rfl, ⟨rfl, (by first | omega | (dsimp only; omega) | assumption), h_z_minutes, h_z_near, (hZ.trans hE0)⟩, by rw [ht]; exact hP9, hD9⟩, hS.F ht⟩) hS.2.2 dX5_add_10
theorem dX5_lastMinute_0 : decode cX5_lastMinute 0 = .ok (.iconst (-1), 1) := dk_iconst_m1 (by decide +kernel)
theorem dX5_lastMinute_1 : decode cX5_lastMinute 1 = .ok (.istore_n 1, 1) := dk_istore_n_1 (by decide +kernel)
theorem dX5_lastMinute_2 : decode cX5_lastMinute 2 = .ok (.iconst 0, 1) := dk_iconst_0 (by decide +kernel)
theorem dX5_lastMinute_3 : decode cX5_lastMinute 3 = .ok (.istore_n 2, 1) := dk_istore_n_2 (by decide +kernel)
theorem dX5_lastMinute_4 : decode cX5_lastMinute 4 = .ok (.iload_n 2, 1) := dk_iload_n_2 (by decide +kernel)
theorem dX5_lastMinute_5 : decode cX5_lastMinute 5 = .ok (.aload_n 0, 1) := dk_aload_n_0 (by decide +kernel)
theorem dX5_lastMinute_6 : decode cX5_lastMinute 6 = .ok (.getfield 22, 3) := dk_getfield (by decide +kernel)
theorem dX5_lastMinute_9 : decode cX5_lastMinute 9 = .ok (.if_icmp .ge 20, 3) := dk_if_icmp_ge (by decide +kernel)
theorem dX5_lastMinute_12 : decode cX5_lastMinute 12 = .ok (.iload_n 1, 1) := dk_iload_n_1 (by decide +kernel)
theorem dX5_lastMinute_13 : decode cX5_lastMinute 13 = .ok (.aload_n 0, 1) := dk_aload_n_0 (by decide +kernel)
theorem dX5_lastMinute_14 : decode cX5_lastMinute 14 = .ok (.getfield 11, 3) := dk_getfield (by decide +kernel)
theorem dX5_lastMinute_17 : decode cX5_lastMinute 17 = .ok (.iload_n 2, 1) := dk_iload_n_2 (by decide +kernel)
theorem dX5_lastMinute_18 : decode cX5_lastMinute 18 = .ok (.iaload, 1) := dk_iaload (by decide +kernel)
theorem dX5_lastMinute_19 : decode cX5_lastMinute 19 = .ok (.invokestatic 32, 3) := dk_invokestatic (by decide +kernel)
theorem dX5_lastMinute_22 : decode cX5_lastMinute 22 = .ok (.istore_n 1, 1) := dk_istore_n_1 (by decide +kernel)
theorem dX5_lastMinute_23 : decode cX5_lastMinute 23 = .ok (.iinc 2 1, 3) := dk_iinc (by decide +kernel)
theorem dX5_lastMinute_26 : decode cX5_lastMinute 26 = .ok (.goto (-22), 3) := dk_goto (by decide +kernel)
theorem dX5_lastMinute_29 : decode cX5_lastMinute 29 = .ok (.iload_n 1, 1) := dk_iload_n_1 (by decide +kernel)
theorem dX5_lastMinute_30 : decode cX5_lastMinute 30 = .ok (.ireturn, 1) := dk_ireturn (by decide +kernel)
set_option maxHeartbeats 4000000 in
set_option maxRecDepth 100000 in
theorem sX5_lastMinute (l : Launch) (D : va_G) (k : Nat → ClassId) (sz : Nat) (z : Nat) (z_minutes : Nat) (z_yards : Nat) (z_near : Nat) (z_size : Nat) (z_minutesF : Nat → Int32) (h_z_size : z_size ≤ 8) (h_z_minutes : ∀ q, Int32.toInt (z_minutesF q) ≤ 60) : Met l yX5_lastMinute wsX5_lastMinute ({ frames := 1, cells := 0, slots := 0, locals := 70 }) (va_Pc [.ref z] (kz_Pre D k [(z, kO 5 [.ref z_minutes, .ref z_yards, .ref z_near, .int (nI z_size)]), (z_minutes, kI k 8 z_minutesF)] sz)) (va_Qi (fun (rr : Int32) (uu : Unit) => (Int32.toInt rr ≤ 60) ∧ ((rr) = (fX5_lastMinute z_size z_minutesF))) (fun uu zt => kz_B D (va_A [(z, kO 5 [.ref z_minutes, .ref z_yards, .ref z_near, .int (nI z_size)]), (z_minutes, kI k 8 z_minutesF)] sz) [(z, kO 5 [.ref z_minutes, .ref z_yards, .ref z_near, .int (nI z_size)]), (z_minutes, kI k 8 z_minutesF)] zt) (va_A [(z, kO 5 [.ref z_minutes, .ref z_yards, .ref z_near, .int (nI z_size)]), (z_minutes, kI k 8 z_minutesF)] sz)) 0 0 (va_A [(z, kO 5 [.ref z_minutes, .ref z_yards, .ref z_near, .int (nI z_size)]), (z_minutes, kI k 8 z_minutesF)] sz) := by
  refine Met.ofW (cc := cX5_lastMinute) (maxL := 3) (ret := (some .int)) (by decide) rfl ?_
  intro p e s m args below meth c s₁ B hml hv
  obtain ⟨hav, hsz, hP, hK, hD0, hE⟩ := hv
  have hx := B.exec
  have hb := B.bytes
  have hr := B.returns
  have hts := atoms_spec (ws := wsX5_lastMinute) B.pre
  have hown : s.vm.findClass RX5 = some m.cls := findClass_of_methodNamed B.named
  have hlocks := B.notSynchronized
  have hi5 : ∀ w ∈ u_ws RX5 TX5 4, w ∈ wsX5_lastMinute := fun w h9 => List.mem_cons_of_mem _ (List.mem_append_right _ h9)
  have lf22 := hts (.fieldLink RX5 22 "LastCook$Sights" "size" "I") (List.mem_cons_of_mem _ (List.mem_append_left _ (List.mem_of_getElem? (i := 0) rfl)))
  have lf11 := hts (.fieldLink RX5 11 "LastCook$Sights" "minutes" "[I") (List.mem_cons_of_mem _ (List.mem_append_left _ (List.mem_of_getElem? (i := 1) rfl)))
  have lm32 := hts (.methodLink RX5 32 Lib.Math.max.name) (List.mem_cons_of_mem _ (List.mem_append_left _ (List.mem_of_getElem? (i := 2) rfl)))
  have lmtmax := hts (.static Lib.Math.max.name) (List.mem_cons_of_mem _ (List.mem_append_left _ (List.mem_of_getElem? (i := 3) rfl)))
  have lim := hts (.initialized "java/lang/Math") (List.mem_cons_of_mem _ (List.mem_append_left _ (List.mem_of_getElem? (i := 4) rfl)))
  have lmcmax := hts (.code Lib.Math.max.name Lib.Math.max.code 2 (some .int)) (List.mem_cons_of_mem _ (List.mem_append_left _ (List.mem_of_getElem? (i := 5) rfl)))
  subst hsz
  have hD := hD0.self (sz := s.heap.size)
  generalize hAe : va_A [(z, kO 5 [.ref z_minutes, .ref z_yards, .ref z_near, .int (nI z_size)]), (z_minutes, kI k 8 z_minutesF)] s.heap.size = A at hD ⊢
  have hA : ∀ q : Nat, s.heap.size ≤ q → A q := fun q h => by rw [← hAe]; exact Or.inr h
  have hS : va_S A s.heap s.heap [] := va_S.rf
  have hl := lv_entry ([.ref z]) (n := 3) (Nat.le_of_ble_eq_true rfl)
  rw [show entryFrame m args 3 = entryFrame m ([.ref z] : List Value).toArray 3 by rw [hav], lg_entry_eq]
  generalize (lg_sl ([.ref z]) ++ List.replicate (3 - (lg_sl ([.ref z])).length) Slot.unset).toArray = ls at hl ⊢
  have hl : lv_has ls 3 [(0, .ref z)] := hl
  obtain ⟨R, hR⟩ : ∃ R, R = (headSpec wsX5_lastMinute ({ frames := 1, cells := 0, slots := 0, locals := 70 } : Room)).room := ⟨_, rfl⟩
  rw [← hR]
  generalize hQ : MQ below _ args s 0 0 A = Q
  replace hQ := hQ.symm
  obtain ⟨H, hH⟩ : ∃ H, H = s.heap := ⟨_, rfl⟩
  rw [← hH] at hP ⊢
  have hS : va_S A s.heap H [] := by rw [hH]; exact hS
  obtain ⟨E0, hE0⟩ : ∃ E0 : Int32, E0 = (fX5_lastMinute z_size z_minutesF) := ⟨_, rfl⟩
  have hZ : (fX5_lastMinute z_size z_minutesF) = E0 := hE0.symm
  refine lv_iconst (v := (-1)) hx hb dX5_lastMinute_0 (by decide) ?_
  refine lv_istore_n (lv' := [(1, .int (-1)), (0, .ref z)]) hx hb dX5_lastMinute_1 rfl hl (by decide) rfl (fun ls hl => ?_)
  exact by
   refine lv_iconst (v := 0) hx hb dX5_lastMinute_2 (by decide) ?_
   refine lv_istore_n (lv' := [(2, .int 0), (1, .int (-1)), (0, .ref z)]) hx hb dX5_lastMinute_3 rfl hl (by decide) rfl (fun ls hl => ?_)
   exact by
    have hloop4 : ∀ (nq : Nat) (l1_4 : Int32) (l2_4 : Nat) (H : Heap) (locs : List Loc) (ls : Array Slot), (8 + 1 - l2_4) < nq → (Int32.toInt l1_4 ≤ 60) → (l2_4 ≤ 8) → (lp (fun _ _ => (0 : Int32)) (fX5_lastMinute_B4a z_size z_minutesF) nq l1_4 l2_4 = E0) → va_P D vwCl [(z, kO 5 [.ref z_minutes, .ref z_yards, .ref z_near, .int (nI z_size)]), (z_minutes, kI k 8 z_minutesF)] H → va_D A [(z, kO 5 [.ref z_minutes, .ref z_yards, .ref z_near, .int (nI z_size)]), (z_minutes, kI k 8 z_minutesF)] → va_S A s.heap H locs → lv_has ls 3 [(0, .ref z), (1, .int l1_4), (2, .int (nI l2_4))] → W p l e R s m args below meth c H locs 0 0 Q (F0 m 4 ls []) := by
      intro n4
      induction n4 with
      | zero => intro l1_4 l2_4 H locs ls hm; exact absurd hm (Nat.not_lt_zero _)
      | succ n4 ih4 =>
        intro l1_4 l2_4 H locs ls hm4 i_l1_4 i_l2_4 hZ hP hD hS hl
        obtain ⟨rc4_1, hrc4_1⟩ : ∃ r : Int32 → Nat → Int32, r = lp (fun _ _ => (0 : Int32)) (fX5_lastMinute_B4a z_size z_minutesF) n4 := ⟨_, rfl⟩
        have hZ : (fX5_lastMinute_B4a z_size z_minutesF) rc4_1 l1_4 l2_4 = E0 := by rw [hrc4_1]; exact hZ
        refine lv_iload_n hx hb dX5_lastMinute_4 rfl (lv_at hl 2 rfl) ?_
        refine lv_aload_n hx hb dX5_lastMinute_5 rfl (lv_at hl 0 rfl) ?_
        refine va_get (D := D) (ci := 5) (v := .int (nI z_size)) (C := RX5) (T := TX5) (N := 4) hx hb hts hi5 hown hK hP 0 rfl rfl 3 (by decide) lf22 (fun _ h9 => h9) rfl dX5_lastMinute_6 ?_
        refine lv_icmp_ge (tgt := 29) hx hb dX5_lastMinute_9 (by decide) (fun c_2 => ?_) (fun c_2 => ?_)
        · exact by
           have k_2 : z_size ≤ l2_4 := (nI_leI (a := z_size) (b := l2_4) (by omega) (by omega)).mp c_2
           have hZ := (if_pos k_2).symm.trans hZ
           refine lv_iload_n hx hb dX5_lastMinute_29 rfl (lv_at hl 1 rfl) ?_
           rw [hQ]
           have hP9 := hP.sub (ws' := [(z, kO 5 [.ref z_minutes, .ref z_yards, .ref z_near, .int (nI z_size)]), (z_minutes, kI k 8 z_minutesF)]) [0, 1] rfl
           have hD9 := hD.sub (ws' := [(z, kO 5 [.ref z_minutes, .ref z_yards, .ref z_near, .int (nI z_size)]), (z_minutes, kI k 8 z_minutesF)]) [0, 1] (by decide +kernel) rfl
           exact W.iret (v := l1_4) hx hb hr (fun zt ht hW => ⟨⟨l1_4, (), rfl, ⟨(by first | omega | (dsimp only; omega) | assumption), (hZ.trans hE0)⟩, by rw [ht]; exact hP9, hD9⟩, hS.F ht⟩) hS.2.2 dX5_lastMinute_30
        · exact by
           have k_2 : ¬ (z_size ≤ l2_4) := fun h => c_2 ((nI_leI (a := z_size) (b := l2_4) (by omega) (by omega)).mpr h)
           have hZ := (if_neg k_2).symm.trans hZ
           refine lv_iload_n hx hb dX5_lastMinute_12 rfl (lv_at hl 1 rfl) ?_
           refine lv_aload_n hx hb dX5_lastMinute_13 rfl (lv_at hl 0 rfl) ?_
           refine va_get (D := D) (ci := 5) (v := .ref z_minutes) (C := RX5) (T := TX5) (N := 4) hx hb hts hi5 hown hK hP 0 rfl rfl 0 (by decide) lf11 (fun _ h9 => h9) rfl dX5_lastMinute_14 ?_
           refine lv_iload_n hx hb dX5_lastMinute_17 rfl (lv_at hl 2 rfl) ?_
           refine va_iald hx hb hK hP 1 0 rfl rfl (vp_in_nI (n := l2_4) (by omega) (by omega)) dX5_lastMinute_18 ?_
           refine va_mmax hx hb (hml.trans hl.1.symm) hown lm32 lmtmax lim lmcmax (by rw [hR]; exact Nat.le_of_ble_eq_true rfl) (by rw [hR]; exact Nat.le_of_ble_eq_true rfl) (by first | omega | (rw [hR]; exact Nat.le_of_ble_eq_true rfl)) (by first | omega | (rw [hR]; exact Nat.le_of_ble_eq_true rfl)) dX5_lastMinute_19 ?_
           have tm3 : Int32.toInt (if l1_4 < (z_minutesF (Int32.toNatClampNeg (nI l2_4))) then (z_minutesF (Int32.toNatClampNeg (nI l2_4))) else l1_4) ≤ 60 := by
             have h1 := h_z_minutes (Int32.toNatClampNeg (nI l2_4))
             have h2 := i_l1_4
             split <;> assumption
           refine lv_istore_n (lv' := [(1, .int (if l1_4 < (z_minutesF (Int32.toNatClampNeg (nI l2_4))) then (z_minutesF (Int32.toNatClampNeg (nI l2_4))) else l1_4)), (0, .ref z), (2, .int (nI l2_4))]) hx hb dX5_lastMinute_22 rfl hl (by decide) rfl (fun ls hl => ?_)
           exact by
            refine lv_iinc (v := (nI (l2_4 + 1))) (lv' := [(2, .int (nI (l2_4 + 1))), (1, .int (if l1_4 < (z_minutesF (Int32.toNatClampNeg (nI l2_4))) then (z_minutesF (Int32.toNatClampNeg (nI l2_4))) else l1_4)), (0, .ref z)]) hx hb dX5_lastMinute_23 hl (k := 2) rfl (nI_1 _) (by decide) rfl (fun ls hl => ?_)
            exact by
             refine lv_goto (tgt := 4) hx hb dX5_lastMinute_26 (by decide) ?_
             exact ih4 (if l1_4 < (z_minutesF (Int32.toNatClampNeg (nI l2_4))) then (z_minutesF (Int32.toNatClampNeg (nI l2_4))) else l1_4) (l2_4 + 1) _ _ _ (by omega) (by first | omega | assumption) (by first | omega | assumption) (by rw [← hrc4_1]; exact hZ) (hP.sub [0, 1] rfl) (hD.sub [0, 1] (by decide +kernel) rfl) hS (lv_sub hl [2, 1, 0] rfl)
    have tq4 : Int32.toInt (-1) = (-1) := by decide
    exact hloop4 ((8 + 1 - 0) + 1) ((-1) : Int32) 0 _ _ _ (Nat.lt_succ_self _) (by first | omega | assumption) (by first | omega | assumption) hZ (hP.sub [0, 1] rfl) (hD.sub [0, 1] (by decide +kernel) rfl) hS (lv_sub hl [2, 1, 0] rfl)
theorem dX5_fitting_0 : decode cX5_fitting 0 = .ok (.bipush 63, 2) := dk_bipush (by decide +kernel)
theorem dX5_fitting_2 : decode cX5_fitting 2 = .ok (.istore_n 3, 1) := dk_istore_n_3 (by decide +kernel)
theorem dX5_fitting_3 : decode cX5_fitting 3 = .ok (.iconst 0, 1) := dk_iconst_0 (by decide +kernel)
theorem dX5_fitting_4 : decode cX5_fitting 4 = .ok (.istore 4, 2) := dk_istore (by decide +kernel)
theorem dX5_fitting_6 : decode cX5_fitting 6 = .ok (.iload 4, 2) := dk_iload (by decide +kernel)
theorem dX5_fitting_8 : decode cX5_fitting 8 = .ok (.aload_n 0, 1) := dk_aload_n_0 (by decide +kernel)
theorem dX5_fitting_9 : decode cX5_fitting 9 = .ok (.getfield 22, 3) := dk_getfield (by decide +kernel)
theorem dX5_fitting_12 : decode cX5_fitting 12 = .ok (.if_icmp .ge 77, 3) := dk_if_icmp_ge (by decide +kernel)
theorem dX5_fitting_15 : decode cX5_fitting 15 = .ok (.iconst 0, 1) := dk_iconst_0 (by decide +kernel)
theorem dX5_fitting_16 : decode cX5_fitting 16 = .ok (.istore 5, 2) := dk_istore (by decide +kernel)
theorem dX5_fitting_18 : decode cX5_fitting 18 = .ok (.iload 5, 2) := dk_iload (by decide +kernel)
theorem dX5_fitting_20 : decode cX5_fitting 20 = .ok (.bipush 6, 2) := dk_bipush (by decide +kernel)
theorem dX5_fitting_22 : decode cX5_fitting 22 = .ok (.if_icmp .ge 61, 3) := dk_if_icmp_ge (by decide +kernel)
theorem dX5_fitting_25 : decode cX5_fitting 25 = .ok (.aload_n 0, 1) := dk_aload_n_0 (by decide +kernel)
theorem dX5_fitting_26 : decode cX5_fitting 26 = .ok (.getfield 11, 3) := dk_getfield (by decide +kernel)
theorem dX5_fitting_29 : decode cX5_fitting 29 = .ok (.iload 4, 2) := dk_iload (by decide +kernel)
theorem dX5_fitting_31 : decode cX5_fitting 31 = .ok (.iaload, 1) := dk_iaload (by decide +kernel)
theorem dX5_fitting_32 : decode cX5_fitting 32 = .ok (.iload_n 1, 1) := dk_iload_n_1 (by decide +kernel)
theorem dX5_fitting_33 : decode cX5_fitting 33 = .ok (.if_icmp .ne 50, 3) := dk_if_icmp_ne (by decide +kernel)
theorem dX5_fitting_36 : decode cX5_fitting 36 = .ok (.aload_n 2, 1) := dk_aload_n_2 (by decide +kernel)
theorem dX5_fitting_37 : decode cX5_fitting 37 = .ok (.getfield 38, 3) := dk_getfield (by decide +kernel)
theorem dX5_fitting_40 : decode cX5_fitting 40 = .ok (.iload 5, 2) := dk_iload (by decide +kernel)
theorem dX5_fitting_42 : decode cX5_fitting 42 = .ok (.iaload, 1) := dk_iaload (by decide +kernel)
theorem dX5_fitting_43 : decode cX5_fitting 43 = .ok (.aload_n 0, 1) := dk_aload_n_0 (by decide +kernel)
theorem dX5_fitting_44 : decode cX5_fitting 44 = .ok (.getfield 15, 3) := dk_getfield (by decide +kernel)
theorem dX5_fitting_47 : decode cX5_fitting 47 = .ok (.iload 4, 2) := dk_iload (by decide +kernel)
theorem dX5_fitting_49 : decode cX5_fitting 49 = .ok (.iaload, 1) := dk_iaload (by decide +kernel)
theorem dX5_fitting_50 : decode cX5_fitting 50 = .ok (.if_icmp .gt 7, 3) := dk_if_icmp_gt (by decide +kernel)
theorem dX5_fitting_53 : decode cX5_fitting 53 = .ok (.iconst 1, 1) := dk_iconst_1 (by decide +kernel)
theorem dX5_fitting_54 : decode cX5_fitting 54 = .ok (.goto 4, 3) := dk_goto (by decide +kernel)
theorem dX5_fitting_57 : decode cX5_fitting 57 = .ok (.iconst 0, 1) := dk_iconst_0 (by decide +kernel)
theorem dX5_fitting_58 : decode cX5_fitting 58 = .ok (.aload_n 0, 1) := dk_aload_n_0 (by decide +kernel)
theorem dX5_fitting_59 : decode cX5_fitting 59 = .ok (.getfield 18, 3) := dk_getfield (by decide +kernel)
theorem dX5_fitting_62 : decode cX5_fitting 62 = .ok (.iload 4, 2) := dk_iload (by decide +kernel)
theorem dX5_fitting_64 : decode cX5_fitting 64 = .ok (.baload, 1) := dk_baload (by decide +kernel)
theorem dX5_fitting_65 : decode cX5_fitting 65 = .ok (.if_icmp .eq 12, 3) := dk_if_icmp_eq (by decide +kernel)
theorem dX5_fitting_68 : decode cX5_fitting 68 = .ok (.iload_n 3, 1) := dk_iload_n_3 (by decide +kernel)
theorem dX5_fitting_69 : decode cX5_fitting 69 = .ok (.iconst 1, 1) := dk_iconst_1 (by decide +kernel)
theorem dX5_fitting_70 : decode cX5_fitting 70 = .ok (.iload 5, 2) := dk_iload (by decide +kernel)
theorem dX5_fitting_72 : decode cX5_fitting 72 = .ok (.ishl, 1) := dk_ishl (by decide +kernel)
theorem dX5_fitting_73 : decode cX5_fitting 73 = .ok (.iconst (-1), 1) := dk_iconst_m1 (by decide +kernel)
theorem dX5_fitting_74 : decode cX5_fitting 74 = .ok (.ixor, 1) := dk_ixor (by decide +kernel)
theorem dX5_fitting_75 : decode cX5_fitting 75 = .ok (.iand, 1) := dk_iand (by decide +kernel)
theorem dX5_fitting_76 : decode cX5_fitting 76 = .ok (.istore_n 3, 1) := dk_istore_n_3 (by decide +kernel)
theorem dX5_fitting_77 : decode cX5_fitting 77 = .ok (.iinc 5 1, 3) := dk_iinc (by decide +kernel)
theorem dX5_fitting_80 : decode cX5_fitting 80 = .ok (.goto (-62), 3) := dk_goto (by decide +kernel)
theorem dX5_fitting_83 : decode cX5_fitting 83 = .ok (.iinc 4 1, 3) := dk_iinc (by decide +kernel)
theorem dX5_fitting_86 : decode cX5_fitting 86 = .ok (.goto (-80), 3) := dk_goto (by decide +kernel)
theorem dX5_fitting_89 : decode cX5_fitting 89 = .ok (.iload_n 3, 1) := dk_iload_n_3 (by decide +kernel)
theorem dX5_fitting_90 : decode cX5_fitting 90 = .ok (.ireturn, 1) := dk_ireturn (by decide +kernel)
set_option maxHeartbeats 4000000 in
set_option maxRecDepth 100000 in
theorem sX5_fitting (l : Launch) (D : va_G) (k : Nat → ClassId) (sz : Nat) (z : Nat) (mi : Int32) (d : Nat) (z_minutes : Nat) (z_yards : Nat) (z_near : Nat) (z_size : Nat) (z_minutesF : Nat → Int32) (z_yardsF : Nat → Int32) (z_nearF : Nat → Int32) (d_yards : Nat) (d_paces : Nat) (d_stuck : Nat) (d_hirers : Nat) (d_places : Nat) (d_cameAt : Nat) (d_cooked : Nat) (d_inside : Int32) (d_night : Int32) (d_minute : Int32) (d_tasted : Int32) (d_lastCook : Int32) (d_stirred : Bool) (d_yardsF : Nat → Int32) (h_z_size : z_size ≤ 8) : Met l yX5_fitting wsX5_fitting ({ frames := 0, cells := 0, slots := 0, locals := 0 }) (va_Pc [.ref z, .int mi, .ref d] (kz_Pre D k [(z, kO 5 [.ref z_minutes, .ref z_yards, .ref z_near, .int (nI z_size)]), (z_minutes, kI k 8 z_minutesF), (z_yards, kI k 8 z_yardsF), (z_near, kZ k 8 z_nearF), (d, kO 4 [.ref d_yards, .ref d_paces, .ref d_stuck, .ref d_hirers, .ref d_places, .ref d_cameAt, .ref d_cooked, .int d_inside, .int d_night, .int d_minute, .int d_tasted, .int d_lastCook, .int (bB d_stirred)]), (d_yards, kI k 6 d_yardsF)] sz)) (va_Qi (fun (rr : Int32) (uu : Unit) => ((rr) = (fX5_fitting mi z_size z_minutesF z_yardsF z_nearF d_yardsF))) (fun uu zt => kz_B D (va_A [(z, kO 5 [.ref z_minutes, .ref z_yards, .ref z_near, .int (nI z_size)]), (z_minutes, kI k 8 z_minutesF), (z_yards, kI k 8 z_yardsF), (z_near, kZ k 8 z_nearF), (d, kO 4 [.ref d_yards, .ref d_paces, .ref d_stuck, .ref d_hirers, .ref d_places, .ref d_cameAt, .ref d_cooked, .int d_inside, .int d_night, .int d_minute, .int d_tasted, .int d_lastCook, .int (bB d_stirred)]), (d_yards, kI k 6 d_yardsF)] sz) [(z, kO 5 [.ref z_minutes, .ref z_yards, .ref z_near, .int (nI z_size)]), (z_minutes, kI k 8 z_minutesF), (z_yards, kI k 8 z_yardsF), (z_near, kZ k 8 z_nearF), (d, kO 4 [.ref d_yards, .ref d_paces, .ref d_stuck, .ref d_hirers, .ref d_places, .ref d_cameAt, .ref d_cooked, .int d_inside, .int d_night, .int d_minute, .int d_tasted, .int d_lastCook, .int (bB d_stirred)]), (d_yards, kI k 6 d_yardsF)] zt) (va_A [(z, kO 5 [.ref z_minutes, .ref z_yards, .ref z_near, .int (nI z_size)]), (z_minutes, kI k 8 z_minutesF), (z_yards, kI k 8 z_yardsF), (z_near, kZ k 8 z_nearF), (d, kO 4 [.ref d_yards, .ref d_paces, .ref d_stuck, .ref d_hirers, .ref d_places, .ref d_cameAt, .ref d_cooked, .int d_inside, .int d_night, .int d_minute, .int d_tasted, .int d_lastCook, .int (bB d_stirred)]), (d_yards, kI k 6 d_yardsF)] sz)) 0 0 (va_A [(z, kO 5 [.ref z_minutes, .ref z_yards, .ref z_near, .int (nI z_size)]), (z_minutes, kI k 8 z_minutesF), (z_yards, kI k 8 z_yardsF), (z_near, kZ k 8 z_nearF), (d, kO 4 [.ref d_yards, .ref d_paces, .ref d_stuck, .ref d_hirers, .ref d_places, .ref d_cameAt, .ref d_cooked, .int d_inside, .int d_night, .int d_minute, .int d_tasted, .int d_lastCook, .int (bB d_stirred)]), (d_yards, kI k 6 d_yardsF)] sz) := by
  refine Met.ofW (cc := cX5_fitting) (maxL := 6) (ret := (some .int)) (by decide) rfl ?_
  intro p e s m args below meth c s₁ B hml hv
  obtain ⟨hav, hsz, hP, hK, hD0, hE⟩ := hv
  have hx := B.exec
  have hb := B.bytes
  have hr := B.returns
  have hts := atoms_spec (ws := wsX5_fitting) B.pre
  have hown : s.vm.findClass RX5 = some m.cls := findClass_of_methodNamed B.named
  have hlocks := B.notSynchronized
  have hi4 : ∀ w ∈ u_ws RX4 TX4 13, w ∈ wsX5_fitting := fun w h9 => List.mem_cons_of_mem _ (List.mem_append_right _ h9)
  have hi5 : ∀ w ∈ u_ws RX5 TX5 4, w ∈ wsX5_fitting := fun w h9 => List.mem_cons_of_mem _ (List.mem_append_left _ (List.mem_append_right _ h9))
  have lf22 := hts (.fieldLink RX5 22 "LastCook$Sights" "size" "I") (List.mem_cons_of_mem _ (List.mem_append_left _ (List.mem_append_left _ (List.mem_of_getElem? (i := 0) rfl))))
  have lf11 := hts (.fieldLink RX5 11 "LastCook$Sights" "minutes" "[I") (List.mem_cons_of_mem _ (List.mem_append_left _ (List.mem_append_left _ (List.mem_of_getElem? (i := 1) rfl))))
  have lf38 := hts (.fieldLink RX5 38 "LastCook$Road" "yards" "[I") (List.mem_cons_of_mem _ (List.mem_append_left _ (List.mem_append_left _ (List.mem_of_getElem? (i := 2) rfl))))
  have lf15 := hts (.fieldLink RX5 15 "LastCook$Sights" "yards" "[I") (List.mem_cons_of_mem _ (List.mem_append_left _ (List.mem_append_left _ (List.mem_of_getElem? (i := 3) rfl))))
  have lf18 := hts (.fieldLink RX5 18 "LastCook$Sights" "near" "[Z") (List.mem_cons_of_mem _ (List.mem_append_left _ (List.mem_append_left _ (List.mem_of_getElem? (i := 4) rfl))))
  subst hsz
  have hD := hD0.self (sz := s.heap.size)
  generalize hAe : va_A [(z, kO 5 [.ref z_minutes, .ref z_yards, .ref z_near, .int (nI z_size)]), (z_minutes, kI k 8 z_minutesF), (z_yards, kI k 8 z_yardsF), (z_near, kZ k 8 z_nearF), (d, kO 4 [.ref d_yards, .ref d_paces, .ref d_stuck, .ref d_hirers, .ref d_places, .ref d_cameAt, .ref d_cooked, .int d_inside, .int d_night, .int d_minute, .int d_tasted, .int d_lastCook, .int (bB d_stirred)]), (d_yards, kI k 6 d_yardsF)] s.heap.size = A at hD ⊢
  have hA : ∀ q : Nat, s.heap.size ≤ q → A q := fun q h => by rw [← hAe]; exact Or.inr h
  have hS : va_S A s.heap s.heap [] := va_S.rf
  have hl := lv_entry ([.ref z, .int mi, .ref d]) (n := 6) (Nat.le_of_ble_eq_true rfl)
  rw [show entryFrame m args 6 = entryFrame m ([.ref z, .int mi, .ref d] : List Value).toArray 6 by rw [hav], lg_entry_eq]
  generalize (lg_sl ([.ref z, .int mi, .ref d]) ++ List.replicate (6 - (lg_sl ([.ref z, .int mi, .ref d])).length) Slot.unset).toArray = ls at hl ⊢
  have hl : lv_has ls 6 [(0, .ref z), (1, .int mi), (2, .ref d)] := hl
  obtain ⟨R, hR⟩ : ∃ R, R = (headSpec wsX5_fitting ({ frames := 0, cells := 0, slots := 0, locals := 0 } : Room)).room := ⟨_, rfl⟩
  rw [← hR]
  generalize hQ : MQ below _ args s 0 0 A = Q
  replace hQ := hQ.symm
  obtain ⟨H, hH⟩ : ∃ H, H = s.heap := ⟨_, rfl⟩
  rw [← hH] at hP ⊢
  have hS : va_S A s.heap H [] := by rw [hH]; exact hS
  obtain ⟨E0, hE0⟩ : ∃ E0 : Int32, E0 = (fX5_fitting mi z_size z_minutesF z_yardsF z_nearF d_yardsF) := ⟨_, rfl⟩
  have hZ : (fX5_fitting mi z_size z_minutesF z_yardsF z_nearF d_yardsF) = E0 := hE0.symm
  refine lv_bipush (v := 63) hx hb dX5_fitting_0 (by decide) ?_
  refine lv_istore_n (lv' := [(3, .int 63), (0, .ref z), (1, .int mi), (2, .ref d)]) hx hb dX5_fitting_2 rfl hl (by decide) rfl (fun ls hl => ?_)
  exact by
   refine lv_iconst (v := 0) hx hb dX5_fitting_3 (by decide) ?_
   refine lv_istore (lv' := [(4, .int 0), (3, .int 63), (0, .ref z), (1, .int mi), (2, .ref d)]) hx hb dX5_fitting_4 hl (by decide) rfl (fun ls hl => ?_)
   exact by
    have hloop6 : ∀ (nq : Nat) (l3_6 : Int32) (l4_6 : Nat) (H : Heap) (locs : List Loc) (ls : Array Slot), (8 + 1 - l4_6) < nq → (l4_6 ≤ 8) → (lp (fun _ _ => (0 : Int32)) (fX5_fitting_B6a mi z_size z_minutesF z_yardsF z_nearF d_yardsF) nq l3_6 l4_6 = E0) → va_P D vwCl [(z, kO 5 [.ref z_minutes, .ref z_yards, .ref z_near, .int (nI z_size)]), (z_minutes, kI k 8 z_minutesF), (z_yards, kI k 8 z_yardsF), (z_near, kZ k 8 z_nearF), (d, kO 4 [.ref d_yards, .ref d_paces, .ref d_stuck, .ref d_hirers, .ref d_places, .ref d_cameAt, .ref d_cooked, .int d_inside, .int d_night, .int d_minute, .int d_tasted, .int d_lastCook, .int (bB d_stirred)]), (d_yards, kI k 6 d_yardsF)] H → va_D A [(z, kO 5 [.ref z_minutes, .ref z_yards, .ref z_near, .int (nI z_size)]), (z_minutes, kI k 8 z_minutesF), (z_yards, kI k 8 z_yardsF), (z_near, kZ k 8 z_nearF), (d, kO 4 [.ref d_yards, .ref d_paces, .ref d_stuck, .ref d_hirers, .ref d_places, .ref d_cameAt, .ref d_cooked, .int d_inside, .int d_night, .int d_minute, .int d_tasted, .int d_lastCook, .int (bB d_stirred)]), (d_yards, kI k 6 d_yardsF)] → va_S A s.heap H locs → lv_has ls 6 [(0, .ref z), (1, .int mi), (2, .ref d), (3, .int l3_6), (4, .int (nI l4_6))] → W p l e R s m args below meth c H locs 0 0 Q (F0 m 6 ls []) := by
      intro n6
      induction n6 with
      | zero => intro l3_6 l4_6 H locs ls hm; exact absurd hm (Nat.not_lt_zero _)
      | succ n6 ih6 =>
        intro l3_6 l4_6 H locs ls hm6 i_l4_6 hZ hP hD hS hl
        obtain ⟨rc6_1, hrc6_1⟩ : ∃ r : Int32 → Nat → Int32, r = lp (fun _ _ => (0 : Int32)) (fX5_fitting_B6a mi z_size z_minutesF z_yardsF z_nearF d_yardsF) n6 := ⟨_, rfl⟩
        have hZ : (fX5_fitting_B6a mi z_size z_minutesF z_yardsF z_nearF d_yardsF) rc6_1 l3_6 l4_6 = E0 := by rw [hrc6_1]; exact hZ
        refine lv_iload hx hb dX5_fitting_6 (lv_at hl 4 rfl) ?_
        refine lv_aload_n hx hb dX5_fitting_8 rfl (lv_at hl 0 rfl) ?_
        refine va_get (D := D) (ci := 5) (v := .int (nI z_size)) (C := RX5) (T := TX5) (N := 4) hx hb hts hi5 hown hK hP 0 rfl rfl 3 (by decide) lf22 (fun _ h9 => h9) rfl dX5_fitting_9 ?_
        refine lv_icmp_ge (tgt := 89) hx hb dX5_fitting_12 (by decide) (fun c_2 => ?_) (fun c_2 => ?_)
        · exact by
           have k_2 : z_size ≤ l4_6 := (nI_leI (a := z_size) (b := l4_6) (by omega) (by omega)).mp c_2
           have hZ := (if_pos k_2).symm.trans hZ
           refine lv_iload_n hx hb dX5_fitting_89 rfl (lv_at hl 3 rfl) ?_
           rw [hQ]
           have hP9 := hP.sub (ws' := [(z, kO 5 [.ref z_minutes, .ref z_yards, .ref z_near, .int (nI z_size)]), (z_minutes, kI k 8 z_minutesF), (z_yards, kI k 8 z_yardsF), (z_near, kZ k 8 z_nearF), (d, kO 4 [.ref d_yards, .ref d_paces, .ref d_stuck, .ref d_hirers, .ref d_places, .ref d_cameAt, .ref d_cooked, .int d_inside, .int d_night, .int d_minute, .int d_tasted, .int d_lastCook, .int (bB d_stirred)]), (d_yards, kI k 6 d_yardsF)]) [0, 1, 2, 3, 4, 5] rfl
           have hD9 := hD.sub (ws' := [(z, kO 5 [.ref z_minutes, .ref z_yards, .ref z_near, .int (nI z_size)]), (z_minutes, kI k 8 z_minutesF), (z_yards, kI k 8 z_yardsF), (z_near, kZ k 8 z_nearF), (d, kO 4 [.ref d_yards, .ref d_paces, .ref d_stuck, .ref d_hirers, .ref d_places, .ref d_cameAt, .ref d_cooked, .int d_inside, .int d_night, .int d_minute, .int d_tasted, .int d_lastCook, .int (bB d_stirred)]), (d_yards, kI k 6 d_yardsF)]) [0, 1, 2, 3, 4, 5] (by decide +kernel) rfl
           exact W.iret (v := l3_6) hx hb hr (fun zt ht hW => ⟨⟨l3_6, (), rfl, (hZ.trans hE0), by rw [ht]; exact hP9, hD9⟩, hS.F ht⟩) hS.2.2 dX5_fitting_90
        · exact by
           have k_2 : ¬ (z_size ≤ l4_6) := fun h => c_2 ((nI_leI (a := z_size) (b := l4_6) (by omega) (by omega)).mpr h)
           have hZ := (if_neg k_2).symm.trans hZ
           refine lv_iconst (v := 0) hx hb dX5_fitting_15 (by decide) ?_
           refine lv_istore (lv' := [(5, .int 0), (0, .ref z), (1, .int mi), (2, .ref d), (3, .int l3_6), (4, .int (nI l4_6))]) hx hb dX5_fitting_16 hl (by decide) rfl (fun ls hl => ?_)
           exact by
            have hloop18 : ∀ (nq : Nat) (l3_18 : Int32) (l5_18 : Nat) (H : Heap) (locs : List Loc) (ls : Array Slot), (6 + 1 - l5_18) < nq → (l5_18 ≤ 6) → (lp (fun _ _ => (0 : Int32)) (fX5_fitting_B18a mi z_minutesF z_yardsF z_nearF d_yardsF l4_6 rc6_1) nq l3_18 l5_18 = E0) → va_P D vwCl [(z, kO 5 [.ref z_minutes, .ref z_yards, .ref z_near, .int (nI z_size)]), (z_minutes, kI k 8 z_minutesF), (z_yards, kI k 8 z_yardsF), (z_near, kZ k 8 z_nearF), (d, kO 4 [.ref d_yards, .ref d_paces, .ref d_stuck, .ref d_hirers, .ref d_places, .ref d_cameAt, .ref d_cooked, .int d_inside, .int d_night, .int d_minute, .int d_tasted, .int d_lastCook, .int (bB d_stirred)]), (d_yards, kI k 6 d_yardsF)] H → va_D A [(z, kO 5 [.ref z_minutes, .ref z_yards, .ref z_near, .int (nI z_size)]), (z_minutes, kI k 8 z_minutesF), (z_yards, kI k 8 z_yardsF), (z_near, kZ k 8 z_nearF), (d, kO 4 [.ref d_yards, .ref d_paces, .ref d_stuck, .ref d_hirers, .ref d_places, .ref d_cameAt, .ref d_cooked, .int d_inside, .int d_night, .int d_minute, .int d_tasted, .int d_lastCook, .int (bB d_stirred)]), (d_yards, kI k 6 d_yardsF)] → va_S A s.heap H locs → lv_has ls 6 [(0, .ref z), (1, .int mi), (2, .ref d), (3, .int l3_18), (4, .int (nI l4_6)), (5, .int (nI l5_18))] → W p l e R s m args below meth c H locs 0 0 Q (F0 m 18 ls []) := by
              intro n18
              induction n18 with
              | zero => intro l3_18 l5_18 H locs ls hm; exact absurd hm (Nat.not_lt_zero _)
              | succ n18 ih18 =>
                intro l3_18 l5_18 H locs ls hm18 i_l5_18 hZ hP hD hS hl
                obtain ⟨rc18_3, hrc18_3⟩ : ∃ r : Int32 → Nat → Int32, r = lp (fun _ _ => (0 : Int32)) (fX5_fitting_B18a mi z_minutesF z_yardsF z_nearF d_yardsF l4_6 rc6_1) n18 := ⟨_, rfl⟩
                have hZ : (fX5_fitting_B18a mi z_minutesF z_yardsF z_nearF d_yardsF l4_6 rc6_1) rc18_3 l3_18 l5_18 = E0 := by rw [hrc18_3]; exact hZ
                refine lv_iload hx hb dX5_fitting_18 (lv_at hl 5 rfl) ?_
                refine lv_bipush (v := 6) hx hb dX5_fitting_20 (by decide) ?_
                have hj83_4 : ∀ (H : Heap) (locs : List Loc) (ls : Array Slot), ((fX5_fitting_J83a l4_6 rc6_1 l3_18) = E0) → va_P D vwCl [(z, kO 5 [.ref z_minutes, .ref z_yards, .ref z_near, .int (nI z_size)]), (z_minutes, kI k 8 z_minutesF), (z_yards, kI k 8 z_yardsF), (z_near, kZ k 8 z_nearF), (d, kO 4 [.ref d_yards, .ref d_paces, .ref d_stuck, .ref d_hirers, .ref d_places, .ref d_cameAt, .ref d_cooked, .int d_inside, .int d_night, .int d_minute, .int d_tasted, .int d_lastCook, .int (bB d_stirred)]), (d_yards, kI k 6 d_yardsF)] H → va_D A [(z, kO 5 [.ref z_minutes, .ref z_yards, .ref z_near, .int (nI z_size)]), (z_minutes, kI k 8 z_minutesF), (z_yards, kI k 8 z_yardsF), (z_near, kZ k 8 z_nearF), (d, kO 4 [.ref d_yards, .ref d_paces, .ref d_stuck, .ref d_hirers, .ref d_places, .ref d_cameAt, .ref d_cooked, .int d_inside, .int d_night, .int d_minute, .int d_tasted, .int d_lastCook, .int (bB d_stirred)]), (d_yards, kI k 6 d_yardsF)] → va_S A s.heap H locs → lv_has ls 6 [(0, .ref z), (1, .int mi), (2, .ref d), (3, .int l3_18), (4, .int (nI l4_6)), (5, .int (nI l5_18))] → W p l e R s m args below meth c H locs 0 0 Q (F0 m 83 ls []) := by
                  intro H locs ls hZ hP hD hS hl
                  refine lv_iinc (v := (nI (l4_6 + 1))) (lv' := [(4, .int (nI (l4_6 + 1))), (0, .ref z), (1, .int mi), (2, .ref d), (3, .int l3_18), (5, .int (nI l5_18))]) hx hb dX5_fitting_83 hl (k := 4) rfl (nI_1 _) (by decide) rfl (fun ls hl => ?_)
                  exact by
                   refine lv_goto (tgt := 6) hx hb dX5_fitting_86 (by decide) ?_
                   exact ih6 l3_18 (l4_6 + 1) _ _ _ (by omega) (by first | omega | assumption) (by rw [← hrc6_1]; exact hZ) (hP.sub [0, 1, 2, 3, 4, 5] rfl) (hD.sub [0, 1, 2, 3, 4, 5] (by decide +kernel) rfl) hS (lv_sub hl [1, 2, 3, 4, 0] rfl)
                refine lv_icmp_ge (tgt := 83) hx hb dX5_fitting_22 (by decide) (fun c_5 => ?_) (fun c_5 => ?_)
                · exact by
                   have k_5 : 6 ≤ l5_18 := (nI_leI (a := 6) (b := l5_18) (by omega) (by omega)).mp c_5
                   have hZ := (if_pos k_5).symm.trans hZ
                   exact hj83_4 _ _ _ hZ (hP.sub [0, 1, 2, 3, 4, 5] rfl) (hD.sub [0, 1, 2, 3, 4, 5] (by decide +kernel) rfl) hS (lv_sub hl [0, 1, 2, 3, 4, 5] rfl)
                · exact by
                   have k_5 : ¬ (6 ≤ l5_18) := fun h => c_5 ((nI_leI (a := 6) (b := l5_18) (by omega) (by omega)).mpr h)
                   have hZ := (if_neg k_5).symm.trans hZ
                   refine lv_aload_n hx hb dX5_fitting_25 rfl (lv_at hl 0 rfl) ?_
                   refine va_get (D := D) (ci := 5) (v := .ref z_minutes) (C := RX5) (T := TX5) (N := 4) hx hb hts hi5 hown hK hP 0 rfl rfl 0 (by decide) lf11 (fun _ h9 => h9) rfl dX5_fitting_26 ?_
                   refine lv_iload hx hb dX5_fitting_29 (lv_at hl 4 rfl) ?_
                   refine va_iald hx hb hK hP 1 0 rfl rfl (vp_in_nI (n := l4_6) (by omega) (by omega)) dX5_fitting_31 ?_
                   refine lv_iload_n hx hb dX5_fitting_32 rfl (lv_at hl 1 rfl) ?_
                   refine lv_icmp_ne (tgt := 83) hx hb dX5_fitting_33 (by decide) (fun c_6 => ?_) (fun c_6 => ?_)
                   · exact by
                      have t_6 : (Int32.toInt (z_minutesF (Int32.toNatClampNeg (nI l4_6)))) ≠ (Int32.toInt mi) := tI_ne rfl rfl c_6
                      have hZ := (if_neg c_6).symm.trans hZ
                      exact hj83_4 _ _ _ hZ (hP.sub [0, 1, 2, 3, 4, 5] rfl) (hD.sub [0, 1, 2, 3, 4, 5] (by decide +kernel) rfl) hS (lv_sub hl [0, 1, 2, 3, 4, 5] rfl)
                   · exact by
                      have t_6 : (Int32.toInt (z_minutesF (Int32.toNatClampNeg (nI l4_6)))) = (Int32.toInt mi) := tI_eq rfl rfl c_6
                      have hZ := (if_pos c_6).symm.trans hZ
                      refine lv_aload_n hx hb dX5_fitting_36 rfl (lv_at hl 2 rfl) ?_
                      refine va_get (D := D) (ci := 4) (v := .ref d_yards) (C := RX4) (T := TX4) (N := 13) hx hb hts hi4 hown hK hP 4 rfl rfl 0 (by decide) lf38 (fun _ h9 => h9) rfl dX5_fitting_37 ?_
                      refine lv_iload hx hb dX5_fitting_40 (lv_at hl 5 rfl) ?_
                      refine va_iald hx hb hK hP 5 0 rfl rfl (vp_in_nI (n := l5_18) (by omega) (by omega)) dX5_fitting_42 ?_
                      refine lv_aload_n hx hb dX5_fitting_43 rfl (lv_at hl 0 rfl) ?_
                      refine va_get (D := D) (ci := 5) (v := .ref z_yards) (C := RX5) (T := TX5) (N := 4) hx hb hts hi5 hown hK hP 0 rfl rfl 1 (by decide) lf15 (fun _ h9 => h9) rfl dX5_fitting_44 ?_
                      refine lv_iload hx hb dX5_fitting_47 (lv_at hl 4 rfl) ?_
                      refine va_iald hx hb hK hP 2 0 rfl rfl (vp_in_nI (n := l4_6) (by omega) (by omega)) dX5_fitting_49 ?_
                      have hj58_7 : ∀ (s0_58 : Bool) (H : Heap) (locs : List Loc) (ls : Array Slot), ((fX5_fitting_J58a z_nearF l4_6 l3_18 l5_18 rc18_3) s0_58 = E0) → va_P D vwCl [(z, kO 5 [.ref z_minutes, .ref z_yards, .ref z_near, .int (nI z_size)]), (z_minutes, kI k 8 z_minutesF), (z_yards, kI k 8 z_yardsF), (z_near, kZ k 8 z_nearF), (d, kO 4 [.ref d_yards, .ref d_paces, .ref d_stuck, .ref d_hirers, .ref d_places, .ref d_cameAt, .ref d_cooked, .int d_inside, .int d_night, .int d_minute, .int d_tasted, .int d_lastCook, .int (bB d_stirred)]), (d_yards, kI k 6 d_yardsF)] H → va_D A [(z, kO 5 [.ref z_minutes, .ref z_yards, .ref z_near, .int (nI z_size)]), (z_minutes, kI k 8 z_minutesF), (z_yards, kI k 8 z_yardsF), (z_near, kZ k 8 z_nearF), (d, kO 4 [.ref d_yards, .ref d_paces, .ref d_stuck, .ref d_hirers, .ref d_places, .ref d_cameAt, .ref d_cooked, .int d_inside, .int d_night, .int d_minute, .int d_tasted, .int d_lastCook, .int (bB d_stirred)]), (d_yards, kI k 6 d_yardsF)] → va_S A s.heap H locs → lv_has ls 6 [(0, .ref z), (1, .int mi), (2, .ref d), (3, .int l3_18), (4, .int (nI l4_6)), (5, .int (nI l5_18))] → W p l e R s m args below meth c H locs 0 0 Q (F0 m 58 ls [.int (bB s0_58)]) := by
                        intro s0_58 H locs ls hZ hP hD hS hl
                        refine lv_aload_n hx hb dX5_fitting_58 rfl (lv_at hl 0 rfl) ?_
                        refine va_get (D := D) (ci := 5) (v := .ref z_near) (C := RX5) (T := TX5) (N := 4) hx hb hts hi5 hown hK hP 0 rfl rfl 2 (by decide) lf18 (fun _ h9 => h9) rfl dX5_fitting_59 ?_
                        refine lv_iload hx hb dX5_fitting_62 (lv_at hl 4 rfl) ?_
                        refine va_zald hx hb hK hP 3 3 rfl rfl (vp_in_nI (n := l4_6) (by omega) (by omega)) dX5_fitting_64 ?_
                        have hj77_8 : ∀ (l3_77 : Int32) (H : Heap) (locs : List Loc) (ls : Array Slot), ((fX5_fitting_J77a l5_18 rc18_3) l3_77 = E0) → va_P D vwCl [(z, kO 5 [.ref z_minutes, .ref z_yards, .ref z_near, .int (nI z_size)]), (z_minutes, kI k 8 z_minutesF), (z_yards, kI k 8 z_yardsF), (z_near, kZ k 8 z_nearF), (d, kO 4 [.ref d_yards, .ref d_paces, .ref d_stuck, .ref d_hirers, .ref d_places, .ref d_cameAt, .ref d_cooked, .int d_inside, .int d_night, .int d_minute, .int d_tasted, .int d_lastCook, .int (bB d_stirred)]), (d_yards, kI k 6 d_yardsF)] H → va_D A [(z, kO 5 [.ref z_minutes, .ref z_yards, .ref z_near, .int (nI z_size)]), (z_minutes, kI k 8 z_minutesF), (z_yards, kI k 8 z_yardsF), (z_near, kZ k 8 z_nearF), (d, kO 4 [.ref d_yards, .ref d_paces, .ref d_stuck, .ref d_hirers, .ref d_places, .ref d_cameAt, .ref d_cooked, .int d_inside, .int d_night, .int d_minute, .int d_tasted, .int d_lastCook, .int (bB d_stirred)]), (d_yards, kI k 6 d_yardsF)] → va_S A s.heap H locs → lv_has ls 6 [(0, .ref z), (1, .int mi), (2, .ref d), (3, .int l3_77), (4, .int (nI l4_6)), (5, .int (nI l5_18))] → W p l e R s m args below meth c H locs 0 0 Q (F0 m 77 ls []) := by
                          intro l3_77 H locs ls hZ hP hD hS hl
                          refine lv_iinc (v := (nI (l5_18 + 1))) (lv' := [(5, .int (nI (l5_18 + 1))), (0, .ref z), (1, .int mi), (2, .ref d), (3, .int l3_77), (4, .int (nI l4_6))]) hx hb dX5_fitting_77 hl (k := 5) rfl (nI_1 _) (by decide) rfl (fun ls hl => ?_)
                          exact by
                           refine lv_goto (tgt := 18) hx hb dX5_fitting_80 (by decide) ?_
                           exact ih18 l3_77 (l5_18 + 1) _ _ _ (by omega) (by first | omega | assumption) (by rw [← hrc18_3]; exact hZ) (hP.sub [0, 1, 2, 3, 4, 5] rfl) (hD.sub [0, 1, 2, 3, 4, 5] (by decide +kernel) rfl) hS (lv_sub hl [1, 2, 3, 4, 5, 0] rfl)
                        refine lv_icmp_eq (tgt := 77) hx hb dX5_fitting_65 (by decide) (fun c_9 => ?_) (fun c_9 => ?_)
                        · exact by
                           have hZ := (if_pos c_9).symm.trans hZ
                           exact hj77_8 l3_18 _ _ _ hZ (hP.sub [0, 1, 2, 3, 4, 5] rfl) (hD.sub [0, 1, 2, 3, 4, 5] (by decide +kernel) rfl) hS (lv_sub hl [0, 1, 2, 3, 4, 5] rfl)
                        · exact by
                           have hZ := (if_neg c_9).symm.trans hZ
                           refine lv_iload_n hx hb dX5_fitting_68 rfl (lv_at hl 3 rfl) ?_
                           refine lv_iconst (v := 1) hx hb dX5_fitting_69 (by decide) ?_
                           refine lv_iload hx hb dX5_fitting_70 (lv_at hl 5 rfl) ?_
                           refine lv_ishl hx hb dX5_fitting_72 ?_
                           refine lv_iconst (v := (-1)) hx hb dX5_fitting_73 (by decide) ?_
                           refine lv_ixor hx hb dX5_fitting_74 ?_
                           refine lv_iand hx hb dX5_fitting_75 ?_
                           refine lv_istore_n (lv' := [(3, .int (l3_18 &&& ((1 <<< ((nI l5_18) &&& 31)) ^^^ (-1)))), (0, .ref z), (1, .int mi), (2, .ref d), (4, .int (nI l4_6)), (5, .int (nI l5_18))]) hx hb dX5_fitting_76 rfl hl (by decide) rfl (fun ls hl => ?_)
                           exact by
                            exact hj77_8 (l3_18 &&& ((1 <<< ((nI l5_18) &&& 31)) ^^^ (-1))) _ _ _ hZ (hP.sub [0, 1, 2, 3, 4, 5] rfl) (hD.sub [0, 1, 2, 3, 4, 5] (by decide +kernel) rfl) hS (lv_sub hl [1, 2, 3, 0, 4, 5] rfl)
                      refine lv_icmp_gt (tgt := 57) hx hb dX5_fitting_50 (by decide) (fun c_10 => ?_) (fun c_10 => ?_)
                      · exact by
                         have hZ := (if_pos c_10).symm.trans hZ
                         refine lv_iconst (v := 0) hx hb dX5_fitting_57 (by decide) ?_
                         exact hj58_7 false _ _ _ hZ (hP.sub [0, 1, 2, 3, 4, 5] rfl) (hD.sub [0, 1, 2, 3, 4, 5] (by decide +kernel) rfl) hS (lv_sub hl [0, 1, 2, 3, 4, 5] rfl)
                      · exact by
                         have hZ := (if_neg c_10).symm.trans hZ
                         refine lv_iconst (v := 1) hx hb dX5_fitting_53 (by decide) ?_
                         refine lv_goto (tgt := 58) hx hb dX5_fitting_54 (by decide) ?_
                         exact hj58_7 true _ _ _ hZ (hP.sub [0, 1, 2, 3, 4, 5] rfl) (hD.sub [0, 1, 2, 3, 4, 5] (by decide +kernel) rfl) hS (lv_sub hl [0, 1, 2, 3, 4, 5] rfl)
            exact hloop18 ((6 + 1 - 0) + 1) l3_6 0 _ _ _ (Nat.lt_succ_self _) (by first | omega | assumption) hZ (hP.sub [0, 1, 2, 3, 4, 5] rfl) (hD.sub [0, 1, 2, 3, 4, 5] (by decide +kernel) rfl) hS (lv_sub hl [1, 2, 3, 4, 5, 0] rfl)
    exact hloop6 ((8 + 1 - 0) + 1) (63 : Int32) 0 _ _ _ (Nat.lt_succ_self _) (by first | omega | assumption) hZ (hP.sub [0, 1, 2, 3, 4, 5] rfl) (hD.sub [0, 1, 2, 3, 4, 5] (by decide +kernel) rfl) hS (lv_sub hl [2, 3, 4, 1, 0] rfl)
