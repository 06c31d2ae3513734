theorem dX0_push_0 : decode cX0_push 0 = .ok (.aload_n 0, 1) := dk_aload_n_0 (by decide +kernel)
theorem dX0_push_1 : decode cX0_push 1 = .ok (.getfield 73, 3) := dk_getfield (by decide +kernel)
theorem dX0_push_4 : decode cX0_push 4 = .ok (.aload_n 0, 1) := dk_aload_n_0 (by decide +kernel)
theorem dX0_push_5 : decode cX0_push 5 = .ok (.getfield 15, 3) := dk_getfield (by decide +kernel)
theorem dX0_push_8 : decode cX0_push 8 = .ok (.arraylength, 1) := dk_arraylength (by decide +kernel)
theorem dX0_push_9 : decode cX0_push 9 = .ok (.if_icmp .ge 23, 3) := dk_if_icmp_ge (by decide +kernel)
theorem dX0_push_12 : decode cX0_push 12 = .ok (.aload_n 0, 1) := dk_aload_n_0 (by decide +kernel)
theorem dX0_push_13 : decode cX0_push 13 = .ok (.getfield 15, 3) := dk_getfield (by decide +kernel)
theorem dX0_push_16 : decode cX0_push 16 = .ok (.aload_n 0, 1) := dk_aload_n_0 (by decide +kernel)
theorem dX0_push_17 : decode cX0_push 17 = .ok (.getfield 73, 3) := dk_getfield (by decide +kernel)
theorem dX0_push_20 : decode cX0_push 20 = .ok (.iload_n 1, 1) := dk_iload_n_1 (by decide +kernel)
theorem dX0_push_21 : decode cX0_push 21 = .ok (.iastore, 1) := dk_iastore (by decide +kernel)
theorem dX0_push_22 : decode cX0_push 22 = .ok (.aload_n 0, 1) := dk_aload_n_0 (by decide +kernel)
theorem dX0_push_23 : decode cX0_push 23 = .ok (.dup, 1) := dk_dup (by decide +kernel)
theorem dX0_push_24 : decode cX0_push 24 = .ok (.getfield 73, 3) := dk_getfield (by decide +kernel)
theorem dX0_push_27 : decode cX0_push 27 = .ok (.iconst 1, 1) := dk_iconst_1 (by decide +kernel)
theorem dX0_push_28 : decode cX0_push 28 = .ok (.iadd, 1) := dk_iadd (by decide +kernel)
theorem dX0_push_29 : decode cX0_push 29 = .ok (.putfield 73, 3) := dk_putfield (by decide +kernel)
theorem dX0_push_32 : decode cX0_push 32 = .ok (.return_, 1) := dk_return_ (by decide +kernel)
set_option maxHeartbeats 4000000 in
set_option maxRecDepth 100000 in
theorem sX0_push (l : Launch) (D : va_G) (k : Nat → ClassId) (sz : Nat) (w : Nat) (n : Int32) (w_code : Nat) (w_stack : Nat) (w_facts : Nat) (w_length : Nat) (w_top : Nat) (w_stackF : Nat → Int32) (h_w_length : w_length ≤ 1000) (h_w_top : w_top ≤ 24) : Met l yX0_push wsX0_push ({ frames := 0, cells := 0, slots := 0, locals := 0 }) (va_Pc [.ref w, .int n] (kz_Pre D k [(w, kO 0 [.ref w_code, .ref w_stack, .ref w_facts, .int (nI w_length), .int (nI w_top)]), (w_stack, kI k 24 w_stackF)] sz)) (va_Qv (fun (uu : Nat × (Nat → Int32)) => (uu.1 ≤ 24) ∧ ((uu.1, uu.2) = (fX0_push n w_top w_stackF))) (fun uu zt => kz_B D (va_A [(w, kO 0 [.ref w_code, .ref w_stack, .ref w_facts, .int (nI w_length), .int (nI w_top)]), (w_stack, kI k 24 w_stackF)] sz) [(w, kO 0 [.ref w_code, .ref w_stack, .ref w_facts, .int (nI w_length), .int (nI uu.1)]), (w_stack, kI k 24 uu.2)] zt) (va_A [(w, kO 0 [.ref w_code, .ref w_stack, .ref w_facts, .int (nI w_length), .int (nI w_top)]), (w_stack, kI k 24 w_stackF)] sz)) 0 0 (va_A [(w, kO 0 [.ref w_code, .ref w_stack, .ref w_facts, .int (nI w_length), .int (nI w_top)]), (w_stack, kI k 24 w_stackF)] sz) := by
  refine Met.ofW (cc := cX0_push) (maxL := 2) (ret := none) (by decide) rfl ?_
  intro p e s m args below meth c s₁ B hml hv
  obtain ⟨hav, hsz, hP, hK, hD0, hE⟩ := hv
  have hx := B.exec
  have hb := B.bytes
  have hr := B.returns
  have hts := atoms_spec (ws := wsX0_push) B.pre
  have hown : s.vm.findClass RX0 = some m.cls := findClass_of_methodNamed B.named
  have hlocks := B.notSynchronized
  have hi0 : ∀ w ∈ u_ws RX0 TX0 5, w ∈ wsX0_push := fun w h9 => List.mem_cons_of_mem _ (List.mem_append_right _ h9)
  have lf73 := hts (.fieldLink RX0 73 "LastCook$Law" "top" "I") (List.mem_cons_of_mem _ (List.mem_append_left _ (List.mem_of_getElem? (i := 0) rfl)))
  have lf15 := hts (.fieldLink RX0 15 "LastCook$Law" "stack" "[I") (List.mem_cons_of_mem _ (List.mem_append_left _ (List.mem_of_getElem? (i := 1) rfl)))
  subst hsz
  have hD := hD0.self (sz := s.heap.size)
  generalize hAe : va_A [(w, kO 0 [.ref w_code, .ref w_stack, .ref w_facts, .int (nI w_length), .int (nI w_top)]), (w_stack, kI k 24 w_stackF)] s.heap.size = A at hD ⊢
  have hA : ∀ q : Nat, s.heap.size ≤ q → A q := fun q h => by rw [← hAe]; exact Or.inr h
  have hS : va_S A s.heap s.heap [] := va_S.rf
  have hl := lv_entry ([.ref w, .int n]) (n := 2) (Nat.le_of_ble_eq_true rfl)
  rw [show entryFrame m args 2 = entryFrame m ([.ref w, .int n] : List Value).toArray 2 by rw [hav], lg_entry_eq]
  generalize (lg_sl ([.ref w, .int n]) ++ List.replicate (2 - (lg_sl ([.ref w, .int n])).length) Slot.unset).toArray = ls at hl ⊢
  have hl : lv_has ls 2 [(0, .ref w), (1, .int n)] := hl
  obtain ⟨R, hR⟩ : ∃ R, R = (headSpec wsX0_push ({ frames := 0, cells := 0, slots := 0, locals := 0 } : Room)).room := ⟨_, rfl⟩
  rw [← hR]
  generalize hQ : MQ below _ args s 0 0 A = Q
  replace hQ := hQ.symm
  obtain ⟨H, hH⟩ : ∃ H, H = s.heap := ⟨_, rfl⟩
  rw [← hH] at hP ⊢
  have hS : va_S A s.heap H [] := by rw [hH]; exact hS
  obtain ⟨E0, hE0⟩ : ∃ E0 : Nat × (Nat → Int32), E0 = (fX0_push n w_top w_stackF) := ⟨_, rfl⟩
  have hZ : (fX0_push n w_top w_stackF) = E0 := hE0.symm
  refine lv_aload_n hx hb dX0_push_0 rfl (lv_at hl 0 rfl) ?_
  refine va_get (D := D) (ci := 0) (v := .int (nI w_top)) (C := RX0) (T := TX0) (N := 5) hx hb hts hi0 hown hK hP 0 rfl rfl 4 (by decide) lf73 (fun _ h9 => h9) rfl dX0_push_1 ?_
  refine lv_aload_n hx hb dX0_push_4 rfl (lv_at hl 0 rfl) ?_
  refine va_get (D := D) (ci := 0) (v := .ref w_stack) (C := RX0) (T := TX0) (N := 5) hx hb hts hi0 hown hK hP 0 rfl rfl 1 (by decide) lf15 (fun _ h9 => h9) rfl dX0_push_5 ?_
  refine va_alen (v := 24) hx hb hK hP 1 0 rfl rfl rfl dX0_push_8 ?_
  have hj32_1 : ∀ (fw_4_32 : Nat) (aw_stack_32 : Nat → Int32) (H : Heap) (locs : List Loc) (ls : Array Slot), (fw_4_32 ≤ 24) → (fX0_push_J32a fw_4_32 aw_stack_32 = E0) → va_P D vwCl [(w, kO 0 [.ref w_code, .ref w_stack, .ref w_facts, .int (nI w_length), .int (nI fw_4_32)]), (w_stack, kI k 24 aw_stack_32)] H → va_D A [(w, kO 0 [.ref w_code, .ref w_stack, .ref w_facts, .int (nI w_length), .int (nI fw_4_32)]), (w_stack, kI k 24 aw_stack_32)] → va_S A s.heap H locs → lv_has ls 2 [(0, .ref w), (1, .int n)] → W p l e R s m args below meth c H locs 0 0 Q (F0 m 32 ls []) := by
    intro fw_4_32 aw_stack_32 H locs ls i_fw_4_32 hZ hP hD hS hl
    rw [hQ]
    have hP9 := hP.sub (ws' := [(w, kO 0 [.ref w_code, .ref w_stack, .ref w_facts, .int (nI w_length), .int (nI fw_4_32)]), (w_stack, kI k 24 aw_stack_32)]) [0, 1] rfl
    have hD9 := hD.sub (ws' := [(w, kO 0 [.ref w_code, .ref w_stack, .ref w_facts, .int (nI w_length), .int (nI fw_4_32)]), (w_stack, kI k 24 aw_stack_32)]) [0, 1] (by decide +kernel) rfl
    exact W.vret hx hb hr (fun zt ht hW => ⟨⟨⟨fw_4_32, aw_stack_32⟩, rfl, ⟨(by first | omega | (dsimp only; omega) | assumption), (hZ.trans hE0)⟩, by rw [ht]; exact hP9, hD9⟩, hS.F ht⟩) hS.2.2 dX0_push_32
  refine lv_icmp_ge (tgt := 32) hx hb dX0_push_9 (by decide) (fun c_2 => ?_) (fun c_2 => ?_)
  · exact by
     have k_2 : 24 ≤ w_top := (nI_leI (a := 24) (b := w_top) (by omega) (by omega)).mp c_2
     have hZ := (if_pos k_2).symm.trans hZ
     exact hj32_1 w_top w_stackF _ _ _ (by first | omega | assumption) hZ (hP.sub [0, 1] rfl) (hD.sub [0, 1] (by decide +kernel) rfl) hS (lv_sub hl [0, 1] rfl)
  · exact by
     have k_2 : ¬ (24 ≤ w_top) := fun h => c_2 ((nI_leI (a := 24) (b := w_top) (by omega) (by omega)).mpr h)
     have hZ := (if_neg k_2).symm.trans hZ
     refine lv_aload_n hx hb dX0_push_12 rfl (lv_at hl 0 rfl) ?_
     refine va_get (D := D) (ci := 0) (v := .ref w_stack) (C := RX0) (T := TX0) (N := 5) hx hb hts hi0 hown hK hP 0 rfl rfl 1 (by decide) lf15 (fun _ h9 => h9) rfl dX0_push_13 ?_
     refine lv_aload_n hx hb dX0_push_16 rfl (lv_at hl 0 rfl) ?_
     refine va_get (D := D) (ci := 0) (v := .int (nI w_top)) (C := RX0) (T := TX0) (N := 5) hx hb hts hi0 hown hK hP 0 rfl rfl 4 (by decide) lf73 (fun _ h9 => h9) rfl dX0_push_17 ?_
     refine lv_iload_n hx hb dX0_push_20 rfl (lv_at hl 1 rfl) ?_
     refine va_iast hx hb hK hP hD hS 1 0 rfl rfl (vp_in_nI (n := w_top) (by omega) (by omega)) dX0_push_21 (fun H locs hP hD hS => ?_)
     exact by
      have hP : va_P D vwCl [(w, kO 0 [.ref w_code, .ref w_stack, .ref w_facts, .int (nI w_length), .int (nI w_top)]), (w_stack, kI k 24 (upd w_stackF (Int32.toNatClampNeg (nI w_top)) n))] H := hP
      have hD : va_D A [(w, kO 0 [.ref w_code, .ref w_stack, .ref w_facts, .int (nI w_length), .int (nI w_top)]), (w_stack, kI k 24 (upd w_stackF (Int32.toNatClampNeg (nI w_top)) n))] := hD
      refine lv_aload_n hx hb dX0_push_22 rfl (lv_at hl 0 rfl) ?_
      refine lv_dup hx hb dX0_push_23 rfl ?_
      refine va_get (D := D) (ci := 0) (v := .int (nI w_top)) (C := RX0) (T := TX0) (N := 5) hx hb hts hi0 hown hK hP 0 rfl rfl 4 (by decide) lf73 (fun _ h9 => h9) rfl dX0_push_24 ?_
      refine lv_iconst (v := 1) hx hb dX0_push_27 (by decide) ?_
      refine lv_iadd hx hb dX0_push_28 ?_
      refine lv_topi (fun x3 ex3 => ?_)
      exact by
       obtain rfl : x3 = (nI (w_top + 1)) := ex3.trans (nI_add w_top 1)
       refine va_put (D := D) (ci := 0) (v := .int (nI (w_top + 1))) (ty := .int) (C := RX0) (T := TX0) (N := 5) hx hb hts hi0 tyX0 tyX0_ok nmX0 hown hK hP hD hS 0 rfl rfl 4 (by decide) lf73 (fun _ h9 => h9) rfl (by decide +kernel) rfl rfl (Nat.le_of_ble_eq_true rfl) dX0_push_29 (fun H locs hP hD hS => ?_)
       exact by
        have hP : va_P D vwCl [(w, kO 0 [.ref w_code, .ref w_stack, .ref w_facts, .int (nI w_length), .int (nI (w_top + 1))]), (w_stack, kI k 24 (upd w_stackF (Int32.toNatClampNeg (nI w_top)) n))] H := hP
        have hD : va_D A [(w, kO 0 [.ref w_code, .ref w_stack, .ref w_facts, .int (nI w_length), .int (nI (w_top + 1))]), (w_stack, kI k 24 (upd w_stackF (Int32.toNatClampNeg (nI w_top)) n))] := hD
        exact hj32_1 (w_top + 1) (upd w_stackF (Int32.toNatClampNeg (nI w_top)) n) _ _ _ (by first | omega | assumption) hZ (hP.sub [0, 1] rfl) (hD.sub [0, 1] (by decide +kernel) rfl) hS (lv_sub hl [0, 1] rfl)
theorem dX0_join_0 : decode cX0_join 0 = .ok (.iload_n 0, 1) := dk_iload_n_0 (by decide +kernel)
theorem dX0_join_1 : decode cX0_join 1 = .ok (.tableswitch 97 (-11) (-6) #[93, 89, 78, 67, 53, 39], 39) := by decide +kernel
theorem dX0_join_40 : decode cX0_join 40 = .ok (.iload_n 1, 1) := dk_iload_n_1 (by decide +kernel)
theorem dX0_join_41 : decode cX0_join 41 = .ok (.ifCond .eq 11, 3) := dk_ifCond_eq (by decide +kernel)
theorem dX0_join_44 : decode cX0_join 44 = .ok (.iload_n 2, 1) := dk_iload_n_2 (by decide +kernel)
theorem dX0_join_45 : decode cX0_join 45 = .ok (.ifCond .eq 7, 3) := dk_ifCond_eq (by decide +kernel)
theorem dX0_join_48 : decode cX0_join 48 = .ok (.iconst 1, 1) := dk_iconst_1 (by decide +kernel)
theorem dX0_join_49 : decode cX0_join 49 = .ok (.goto 4, 3) := dk_goto (by decide +kernel)
theorem dX0_join_52 : decode cX0_join 52 = .ok (.iconst 0, 1) := dk_iconst_0 (by decide +kernel)
theorem dX0_join_53 : decode cX0_join 53 = .ok (.ireturn, 1) := dk_ireturn (by decide +kernel)
theorem dX0_join_54 : decode cX0_join 54 = .ok (.iload_n 1, 1) := dk_iload_n_1 (by decide +kernel)
theorem dX0_join_55 : decode cX0_join 55 = .ok (.ifCond .ne 7, 3) := dk_ifCond_ne (by decide +kernel)
theorem dX0_join_58 : decode cX0_join 58 = .ok (.iload_n 2, 1) := dk_iload_n_2 (by decide +kernel)
theorem dX0_join_59 : decode cX0_join 59 = .ok (.ifCond .eq 7, 3) := dk_ifCond_eq (by decide +kernel)
theorem dX0_join_62 : decode cX0_join 62 = .ok (.iconst 1, 1) := dk_iconst_1 (by decide +kernel)
theorem dX0_join_63 : decode cX0_join 63 = .ok (.goto 4, 3) := dk_goto (by decide +kernel)
theorem dX0_join_66 : decode cX0_join 66 = .ok (.iconst 0, 1) := dk_iconst_0 (by decide +kernel)
theorem dX0_join_67 : decode cX0_join 67 = .ok (.ireturn, 1) := dk_ireturn (by decide +kernel)
theorem dX0_join_68 : decode cX0_join 68 = .ok (.iload_n 1, 1) := dk_iload_n_1 (by decide +kernel)
theorem dX0_join_69 : decode cX0_join 69 = .ok (.iload_n 2, 1) := dk_iload_n_2 (by decide +kernel)
theorem dX0_join_70 : decode cX0_join 70 = .ok (.if_icmp .ge 7, 3) := dk_if_icmp_ge (by decide +kernel)
theorem dX0_join_73 : decode cX0_join 73 = .ok (.iconst 1, 1) := dk_iconst_1 (by decide +kernel)
theorem dX0_join_74 : decode cX0_join 74 = .ok (.goto 4, 3) := dk_goto (by decide +kernel)
theorem dX0_join_77 : decode cX0_join 77 = .ok (.iconst 0, 1) := dk_iconst_0 (by decide +kernel)
theorem dX0_join_78 : decode cX0_join 78 = .ok (.ireturn, 1) := dk_ireturn (by decide +kernel)
theorem dX0_join_79 : decode cX0_join 79 = .ok (.iload_n 1, 1) := dk_iload_n_1 (by decide +kernel)
theorem dX0_join_80 : decode cX0_join 80 = .ok (.iload_n 2, 1) := dk_iload_n_2 (by decide +kernel)
theorem dX0_join_81 : decode cX0_join 81 = .ok (.if_icmp .ne 7, 3) := dk_if_icmp_ne (by decide +kernel)
theorem dX0_join_84 : decode cX0_join 84 = .ok (.iconst 1, 1) := dk_iconst_1 (by decide +kernel)
theorem dX0_join_85 : decode cX0_join 85 = .ok (.goto 4, 3) := dk_goto (by decide +kernel)
theorem dX0_join_88 : decode cX0_join 88 = .ok (.iconst 0, 1) := dk_iconst_0 (by decide +kernel)
theorem dX0_join_89 : decode cX0_join 89 = .ok (.ireturn, 1) := dk_ireturn (by decide +kernel)
theorem dX0_join_90 : decode cX0_join 90 = .ok (.iload_n 1, 1) := dk_iload_n_1 (by decide +kernel)
theorem dX0_join_91 : decode cX0_join 91 = .ok (.iload_n 2, 1) := dk_iload_n_2 (by decide +kernel)
theorem dX0_join_92 : decode cX0_join 92 = .ok (.iadd, 1) := dk_iadd (by decide +kernel)
theorem dX0_join_93 : decode cX0_join 93 = .ok (.ireturn, 1) := dk_ireturn (by decide +kernel)
theorem dX0_join_94 : decode cX0_join 94 = .ok (.iload_n 1, 1) := dk_iload_n_1 (by decide +kernel)
theorem dX0_join_95 : decode cX0_join 95 = .ok (.iload_n 2, 1) := dk_iload_n_2 (by decide +kernel)
theorem dX0_join_96 : decode cX0_join 96 = .ok (.isub, 1) := dk_isub (by decide +kernel)
theorem dX0_join_97 : decode cX0_join 97 = .ok (.ireturn, 1) := dk_ireturn (by decide +kernel)
theorem dX0_join_98 : decode cX0_join 98 = .ok (.iload_n 1, 1) := dk_iload_n_1 (by decide +kernel)
theorem dX0_join_99 : decode cX0_join 99 = .ok (.iload_n 2, 1) := dk_iload_n_2 (by decide +kernel)
theorem dX0_join_100 : decode cX0_join 100 = .ok (.imul, 1) := dk_imul (by decide +kernel)
theorem dX0_join_101 : decode cX0_join 101 = .ok (.ireturn, 1) := dk_ireturn (by decide +kernel)
set_option maxHeartbeats 4000000 in
set_option maxRecDepth 100000 in
theorem sX0_join (l : Launch) (D : va_G) (k : Nat → ClassId) (sz : Nat) (op : Int32) (x : Int32) (y : Int32) : Met l yX0_join wsX0_join ({ frames := 0, cells := 0, slots := 0, locals := 0 }) (va_Pc [.int op, .int x, .int y] (kz_Pre D k [] sz)) (va_Qi (fun (rr : Int32) (uu : Unit) => ((rr) = (fX0_join op x y))) (fun uu zt => kz_B D (va_A [] sz) [] zt) (va_A [] sz)) 0 0 (va_A [] sz) := by
  refine Met.ofW (cc := cX0_join) (maxL := 3) (ret := (some .int)) (by decide) rfl ?_
  intro p e s m args below meth c s₁ B hml hv
  obtain ⟨hav, hsz, hP, hK, hD0, hE⟩ := hv
  have hx := B.exec
  have hb := B.bytes
  have hr := B.returns
  have hts := atoms_spec (ws := wsX0_join) B.pre
  have hown : s.vm.findClass RX0 = some m.cls := findClass_of_methodNamed B.named
  have hlocks := B.notSynchronized
  subst hsz
  have hD := hD0.self (sz := s.heap.size)
  generalize hAe : va_A [] s.heap.size = A at hD ⊢
  have hA : ∀ q : Nat, s.heap.size ≤ q → A q := fun q h => by rw [← hAe]; exact Or.inr h
  have hS : va_S A s.heap s.heap [] := va_S.rf
  have hl := lv_entry ([.int op, .int x, .int y]) (n := 3) (Nat.le_of_ble_eq_true rfl)
  rw [show entryFrame m args 3 = entryFrame m ([.int op, .int x, .int y] : List Value).toArray 3 by rw [hav], lg_entry_eq]
  generalize (lg_sl ([.int op, .int x, .int y]) ++ List.replicate (3 - (lg_sl ([.int op, .int x, .int y])).length) Slot.unset).toArray = ls at hl ⊢
  have hl : lv_has ls 3 [(0, .int op), (1, .int x), (2, .int y)] := hl
  obtain ⟨R, hR⟩ : ∃ R, R = (headSpec wsX0_join ({ frames := 0, cells := 0, slots := 0, locals := 0 } : Room)).room := ⟨_, rfl⟩
  rw [← hR]
  generalize hQ : MQ below _ args s 0 0 A = Q
  replace hQ := hQ.symm
  obtain ⟨H, hH⟩ : ∃ H, H = s.heap := ⟨_, rfl⟩
  rw [← hH] at hP ⊢
  have hS : va_S A s.heap H [] := by rw [hH]; exact hS
  obtain ⟨E0, hE0⟩ : ∃ E0 : Int32, E0 = (fX0_join op x y) := ⟨_, rfl⟩
  have hZ : (fX0_join op x y) = E0 := hE0.symm
  refine lv_iload_n hx hb dX0_join_0 rfl (lv_at hl 0 rfl) ?_
  by_cases w1_0 : op = (-11)
  · exact by
     have hZ := (if_pos w1_0).symm.trans hZ
     refine lv_topi (fun x2 ex2 => ?_)
     exact by
      obtain rfl : x2 = (-11) := ex2.trans w1_0
      refine lv_tableIn (off := 93) (tgt := 94) hx hb dX0_join_1 (by decide) (by decide) (by decide) (by decide) ?_
      refine lv_iload_n hx hb dX0_join_94 rfl (lv_at hl 1 rfl) ?_
      refine lv_iload_n hx hb dX0_join_95 rfl (lv_at hl 2 rfl) ?_
      refine lv_isub hx hb dX0_join_96 ?_
      rw [hQ]
      have hP9 := hP.sub (ws' := []) [] rfl
      have hD9 := hD.sub (ws' := []) [] (by decide) rfl
      exact W.iret (v := (x - y)) hx hb hr (fun zt ht hW => ⟨⟨(x - y), (), rfl, (hZ.trans hE0), by rw [ht]; exact hP9, hD9⟩, hS.F ht⟩) hS.2.2 dX0_join_97
  have hZ := (if_neg w1_0).symm.trans hZ
  by_cases w1_1 : op = (-10)
  · exact by
     have hZ := (if_pos w1_1).symm.trans hZ
     refine lv_topi (fun x3 ex3 => ?_)
     exact by
      obtain rfl : x3 = (-10) := ex3.trans w1_1
      refine lv_tableIn (off := 89) (tgt := 90) hx hb dX0_join_1 (by decide) (by decide) (by decide) (by decide) ?_
      refine lv_iload_n hx hb dX0_join_90 rfl (lv_at hl 1 rfl) ?_
      refine lv_iload_n hx hb dX0_join_91 rfl (lv_at hl 2 rfl) ?_
      refine lv_iadd hx hb dX0_join_92 ?_
      rw [hQ]
      have hP9 := hP.sub (ws' := []) [] rfl
      have hD9 := hD.sub (ws' := []) [] (by decide) rfl
      exact W.iret (v := (x + y)) hx hb hr (fun zt ht hW => ⟨⟨(x + y), (), rfl, (hZ.trans hE0), by rw [ht]; exact hP9, hD9⟩, hS.F ht⟩) hS.2.2 dX0_join_93
  have hZ := (if_neg w1_1).symm.trans hZ
  by_cases w1_2 : op = (-9)
  · exact by
     have hZ := (if_pos w1_2).symm.trans hZ
     refine lv_topi (fun x4 ex4 => ?_)
     exact by
      obtain rfl : x4 = (-9) := ex4.trans w1_2
      refine lv_tableIn (off := 78) (tgt := 79) hx hb dX0_join_1 (by decide) (by decide) (by decide) (by decide) ?_
      refine lv_iload_n hx hb dX0_join_79 rfl (lv_at hl 1 rfl) ?_
      refine lv_iload_n hx hb dX0_join_80 rfl (lv_at hl 2 rfl) ?_
      have hj89_5 : ∀ (s0_89 : Bool) (H : Heap) (locs : List Loc) (ls : Array Slot), (fX0_join_J89a s0_89 = E0) → va_P D vwCl [] H → va_D A [] → va_S A s.heap H locs → lv_has ls 3 [(0, .int op), (1, .int x), (2, .int y)] → W p l e R s m args below meth c H locs 0 0 Q (F0 m 89 ls [.int (bB s0_89)]) := by
        intro s0_89 H locs ls hZ hP hD hS hl
        rw [hQ]
        have hP9 := hP.sub (ws' := []) [] rfl
        have hD9 := hD.sub (ws' := []) [] (by decide) rfl
        exact W.iret (v := (bB s0_89)) hx hb hr (fun zt ht hW => ⟨⟨(bB s0_89), (), rfl, (hZ.trans hE0), by rw [ht]; exact hP9, hD9⟩, hS.F ht⟩) hS.2.2 dX0_join_89
      refine lv_icmp_ne (tgt := 88) hx hb dX0_join_81 (by decide) (fun c_6 => ?_) (fun c_6 => ?_)
      · exact by
         have t_6 : (Int32.toInt x) ≠ (Int32.toInt y) := tI_ne rfl rfl c_6
         have hZ := (if_neg c_6).symm.trans hZ
         refine lv_iconst (v := 0) hx hb dX0_join_88 (by decide) ?_
         exact hj89_5 false _ _ _ hZ (hP.sub [] rfl) (hD.sub [] (by decide) rfl) hS (lv_sub hl [0, 1, 2] rfl)
      · exact by
         have t_6 : (Int32.toInt x) = (Int32.toInt y) := tI_eq rfl rfl c_6
         have hZ := (if_pos c_6).symm.trans hZ
         refine lv_iconst (v := 1) hx hb dX0_join_84 (by decide) ?_
         refine lv_goto (tgt := 89) hx hb dX0_join_85 (by decide) ?_
         exact hj89_5 true _ _ _ hZ (hP.sub [] rfl) (hD.sub [] (by decide) rfl) hS (lv_sub hl [0, 1, 2] rfl)
  have hZ := (if_neg w1_2).symm.trans hZ
  by_cases w1_3 : op = (-8)
  · exact by
     have hZ := (if_pos w1_3).symm.trans hZ
     refine lv_topi (fun x7 ex7 => ?_)
     exact by
      obtain rfl : x7 = (-8) := ex7.trans w1_3
      refine lv_tableIn (off := 67) (tgt := 68) hx hb dX0_join_1 (by decide) (by decide) (by decide) (by decide) ?_
      refine lv_iload_n hx hb dX0_join_68 rfl (lv_at hl 1 rfl) ?_
      refine lv_iload_n hx hb dX0_join_69 rfl (lv_at hl 2 rfl) ?_
      have hj78_8 : ∀ (s0_78 : Bool) (H : Heap) (locs : List Loc) (ls : Array Slot), (fX0_join_J78a s0_78 = E0) → va_P D vwCl [] H → va_D A [] → va_S A s.heap H locs → lv_has ls 3 [(0, .int op), (1, .int x), (2, .int y)] → W p l e R s m args below meth c H locs 0 0 Q (F0 m 78 ls [.int (bB s0_78)]) := by
        intro s0_78 H locs ls hZ hP hD hS hl
        rw [hQ]
        have hP9 := hP.sub (ws' := []) [] rfl
        have hD9 := hD.sub (ws' := []) [] (by decide) rfl
        exact W.iret (v := (bB s0_78)) hx hb hr (fun zt ht hW => ⟨⟨(bB s0_78), (), rfl, (hZ.trans hE0), by rw [ht]; exact hP9, hD9⟩, hS.F ht⟩) hS.2.2 dX0_join_78
      refine lv_icmp_ge (tgt := 77) hx hb dX0_join_70 (by decide) (fun c_9 => ?_) (fun c_9 => ?_)
      · exact by
         have t_9 : (Int32.toInt y) ≤ (Int32.toInt x) := tI_le rfl rfl c_9
         have hZ := (if_pos c_9).symm.trans hZ
         refine lv_iconst (v := 0) hx hb dX0_join_77 (by decide) ?_
         exact hj78_8 false _ _ _ hZ (hP.sub [] rfl) (hD.sub [] (by decide) rfl) hS (lv_sub hl [0, 1, 2] rfl)
      · exact by
         have t_9 : (Int32.toInt y) > (Int32.toInt x) := tI_nle rfl rfl c_9
         have hZ := (if_neg c_9).symm.trans hZ
         refine lv_iconst (v := 1) hx hb dX0_join_73 (by decide) ?_
         refine lv_goto (tgt := 78) hx hb dX0_join_74 (by decide) ?_
         exact hj78_8 true _ _ _ hZ (hP.sub [] rfl) (hD.sub [] (by decide) rfl) hS (lv_sub hl [0, 1, 2] rfl)
  have hZ := (if_neg w1_3).symm.trans hZ
  by_cases w1_4 : op = (-7)
  · exact by
     have hZ := (if_pos w1_4).symm.trans hZ
     refine lv_topi (fun x10 ex10 => ?_)
     exact by
      obtain rfl : x10 = (-7) := ex10.trans w1_4
      refine lv_tableIn (off := 53) (tgt := 54) hx hb dX0_join_1 (by decide) (by decide) (by decide) (by decide) ?_
      refine lv_iload_n hx hb dX0_join_54 rfl (lv_at hl 1 rfl) ?_
      have hj67_11 : ∀ (s0_67 : Bool) (H : Heap) (locs : List Loc) (ls : Array Slot), (fX0_join_J67a s0_67 = E0) → va_P D vwCl [] H → va_D A [] → va_S A s.heap H locs → lv_has ls 3 [(0, .int op), (1, .int x), (2, .int y)] → W p l e R s m args below meth c H locs 0 0 Q (F0 m 67 ls [.int (bB s0_67)]) := by
        intro s0_67 H locs ls hZ hP hD hS hl
        rw [hQ]
        have hP9 := hP.sub (ws' := []) [] rfl
        have hD9 := hD.sub (ws' := []) [] (by decide) rfl
        exact W.iret (v := (bB s0_67)) hx hb hr (fun zt ht hW => ⟨⟨(bB s0_67), (), rfl, (hZ.trans hE0), by rw [ht]; exact hP9, hD9⟩, hS.F ht⟩) hS.2.2 dX0_join_67
      have hj62_12 : ∀ (H : Heap) (locs : List Loc) (ls : Array Slot), (fX0_join_J62a = E0) → va_P D vwCl [] H → va_D A [] → va_S A s.heap H locs → lv_has ls 3 [(0, .int op), (1, .int x), (2, .int y)] → W p l e R s m args below meth c H locs 0 0 Q (F0 m 62 ls []) := by
        intro H locs ls hZ hP hD hS hl
        refine lv_iconst (v := 1) hx hb dX0_join_62 (by decide) ?_
        refine lv_goto (tgt := 67) hx hb dX0_join_63 (by decide) ?_
        exact hj67_11 true _ _ _ hZ (hP.sub [] rfl) (hD.sub [] (by decide) rfl) hS (lv_sub hl [0, 1, 2] rfl)
      refine lv_if_ne (tgt := 62) hx hb dX0_join_55 (by decide) (fun c_13 => ?_) (fun c_13 => ?_)
      · exact by
         have t_13 : (Int32.toInt x) ≠ 0 := tI_ne rfl (by decide) c_13
         have hZ := (if_neg c_13).symm.trans hZ
         exact hj62_12 _ _ _ hZ (hP.sub [] rfl) (hD.sub [] (by decide) rfl) hS (lv_sub hl [0, 1, 2] rfl)
      · exact by
         have t_13 : (Int32.toInt x) = 0 := tI_eq rfl (by decide) c_13
         have hZ := (if_pos c_13).symm.trans hZ
         refine lv_iload_n hx hb dX0_join_58 rfl (lv_at hl 2 rfl) ?_
         refine lv_if_eq (tgt := 66) hx hb dX0_join_59 (by decide) (fun c_14 => ?_) (fun c_14 => ?_)
         · exact by
            have t_14 : (Int32.toInt y) = 0 := tI_eq rfl (by decide) c_14
            have hZ := (if_pos c_14).symm.trans hZ
            refine lv_iconst (v := 0) hx hb dX0_join_66 (by decide) ?_
            exact hj67_11 false _ _ _ hZ (hP.sub [] rfl) (hD.sub [] (by decide) rfl) hS (lv_sub hl [0, 1, 2] rfl)
         · exact by
            have t_14 : (Int32.toInt y) ≠ 0 := tI_ne rfl (by decide) c_14
            have hZ := (if_neg c_14).symm.trans hZ
            exact hj62_12 _ _ _ hZ (hP.sub [] rfl) (hD.sub [] (by decide) rfl) hS (lv_sub hl [0, 1, 2] rfl)
  have hZ := (if_neg w1_4).symm.trans hZ
  by_cases w1_5 : op = (-6)
  · exact by
     have hZ := (if_pos w1_5).symm.trans hZ
     refine lv_topi (fun x15 ex15 => ?_)
     exact by
      obtain rfl : x15 = (-6) := ex15.trans w1_5
      refine lv_tableIn (off := 39) (tgt := 40) hx hb dX0_join_1 (by decide) (by decide) (by decide) (by decide) ?_
      refine lv_iload_n hx hb dX0_join_40 rfl (lv_at hl 1 rfl) ?_
      have hj53_16 : ∀ (s0_53 : Bool) (H : Heap) (locs : List Loc) (ls : Array Slot), (fX0_join_J53a s0_53 = E0) → va_P D vwCl [] H → va_D A [] → va_S A s.heap H locs → lv_has ls 3 [(0, .int op), (1, .int x), (2, .int y)] → W p l e R s m args below meth c H locs 0 0 Q (F0 m 53 ls [.int (bB s0_53)]) := by
        intro s0_53 H locs ls hZ hP hD hS hl
        rw [hQ]
        have hP9 := hP.sub (ws' := []) [] rfl
        have hD9 := hD.sub (ws' := []) [] (by decide) rfl
        exact W.iret (v := (bB s0_53)) hx hb hr (fun zt ht hW => ⟨⟨(bB s0_53), (), rfl, (hZ.trans hE0), by rw [ht]; exact hP9, hD9⟩, hS.F ht⟩) hS.2.2 dX0_join_53
      have hj52_17 : ∀ (H : Heap) (locs : List Loc) (ls : Array Slot), (fX0_join_J52a = E0) → va_P D vwCl [] H → va_D A [] → va_S A s.heap H locs → lv_has ls 3 [(0, .int op), (1, .int x), (2, .int y)] → W p l e R s m args below meth c H locs 0 0 Q (F0 m 52 ls []) := by
        intro H locs ls hZ hP hD hS hl
        refine lv_iconst (v := 0) hx hb dX0_join_52 (by decide) ?_
        exact hj53_16 false _ _ _ hZ (hP.sub [] rfl) (hD.sub [] (by decide) rfl) hS (lv_sub hl [0, 1, 2] rfl)
      refine lv_if_eq (tgt := 52) hx hb dX0_join_41 (by decide) (fun c_18 => ?_) (fun c_18 => ?_)
      · exact by
         have t_18 : (Int32.toInt x) = 0 := tI_eq rfl (by decide) c_18
         have hZ := (if_pos c_18).symm.trans hZ
         exact hj52_17 _ _ _ hZ (hP.sub [] rfl) (hD.sub [] (by decide) rfl) hS (lv_sub hl [0, 1, 2] rfl)
      · exact by
         have t_18 : (Int32.toInt x) ≠ 0 := tI_ne rfl (by decide) c_18
         have hZ := (if_neg c_18).symm.trans hZ
         refine lv_iload_n hx hb dX0_join_44 rfl (lv_at hl 2 rfl) ?_
         refine lv_if_eq (tgt := 52) hx hb dX0_join_45 (by decide) (fun c_19 => ?_) (fun c_19 => ?_)
         · exact by
            have t_19 : (Int32.toInt y) = 0 := tI_eq rfl (by decide) c_19
            have hZ := (if_pos c_19).symm.trans hZ
            exact hj52_17 _ _ _ hZ (hP.sub [] rfl) (hD.sub [] (by decide) rfl) hS (lv_sub hl [0, 1, 2] rfl)
         · exact by
            have t_19 : (Int32.toInt y) ≠ 0 := tI_ne rfl (by decide) c_19
            have hZ := (if_neg c_19).symm.trans hZ
            refine lv_iconst (v := 1) hx hb dX0_join_48 (by decide) ?_
            refine lv_goto (tgt := 53) hx hb dX0_join_49 (by decide) ?_
            exact hj53_16 true _ _ _ hZ (hP.sub [] rfl) (hD.sub [] (by decide) rfl) hS (lv_sub hl [0, 1, 2] rfl)
  have hZ := (if_neg w1_5).symm.trans hZ
  have z1_0 := lv_neT w1_0 (a := -11) (by decide)
  have z1_1 := lv_neT w1_1 (a := -10) (by decide)
  have z1_2 := lv_neT w1_2 (a := -9) (by decide)
  have z1_3 := lv_neT w1_3 (a := -8) (by decide)
  have z1_4 := lv_neT w1_4 (a := -7) (by decide)
  have z1_5 := lv_neT w1_5 (a := -6) (by decide)
  refine lv_tableOut (tgt := 98) hx hb dX0_join_1 (by omega) (by decide) ?_
  refine lv_iload_n hx hb dX0_join_98 rfl (lv_at hl 1 rfl) ?_
  refine lv_iload_n hx hb dX0_join_99 rfl (lv_at hl 2 rfl) ?_
  refine lv_imul hx hb dX0_join_100 ?_
  rw [hQ]
  have hP9 := hP.sub (ws' := []) [] rfl
  have hD9 := hD.sub (ws' := []) [] (by decide) rfl
  exact W.iret (v := (x * y)) hx hb hr (fun zt ht hW => ⟨⟨(x * y), (), rfl, (hZ.trans hE0), by rw [ht]; exact hP9, hD9⟩, hS.F ht⟩) hS.2.2 dX0_join_101
theorem dX0_work_0 : decode cX0_work 0 = .ok (.iload_n 1, 1) := dk_iload_n_1 (by decide +kernel)
theorem dX0_work_1 : decode cX0_work 1 = .ok (.ifCond .lt 11, 3) := dk_ifCond_lt (by decide +kernel)
theorem dX0_work_4 : decode cX0_work 4 = .ok (.aload_n 0, 1) := dk_aload_n_0 (by decide +kernel)
theorem dX0_work_5 : decode cX0_work 5 = .ok (.iload_n 1, 1) := dk_iload_n_1 (by decide +kernel)
theorem dX0_work_6 : decode cX0_work 6 = .ok (.invokevirtual 88, 3) := dk_invokevirtual (by decide +kernel)
theorem dX0_work_9 : decode cX0_work 9 = .ok (.goto 124, 3) := dk_goto (by decide +kernel)
theorem dX0_work_12 : decode cX0_work 12 = .ok (.iload_n 1, 1) := dk_iload_n_1 (by decide +kernel)
theorem dX0_work_13 : decode cX0_work 13 = .ok (.bipush (-5), 2) := dk_bipush (by decide +kernel)
theorem dX0_work_15 : decode cX0_work 15 = .ok (.if_icmp .le 18, 3) := dk_if_icmp_le (by decide +kernel)
theorem dX0_work_18 : decode cX0_work 18 = .ok (.aload_n 0, 1) := dk_aload_n_0 (by decide +kernel)
theorem dX0_work_19 : decode cX0_work 19 = .ok (.aload_n 0, 1) := dk_aload_n_0 (by decide +kernel)
theorem dX0_work_20 : decode cX0_work 20 = .ok (.getfield 18, 3) := dk_getfield (by decide +kernel)
theorem dX0_work_23 : decode cX0_work 23 = .ok (.iconst (-1), 1) := dk_iconst_m1 (by decide +kernel)
theorem dX0_work_24 : decode cX0_work 24 = .ok (.iload_n 1, 1) := dk_iload_n_1 (by decide +kernel)
theorem dX0_work_25 : decode cX0_work 25 = .ok (.isub, 1) := dk_isub (by decide +kernel)
theorem dX0_work_26 : decode cX0_work 26 = .ok (.iaload, 1) := dk_iaload (by decide +kernel)
theorem dX0_work_27 : decode cX0_work 27 = .ok (.invokevirtual 88, 3) := dk_invokevirtual (by decide +kernel)
theorem dX0_work_30 : decode cX0_work 30 = .ok (.goto 103, 3) := dk_goto (by decide +kernel)
theorem dX0_work_33 : decode cX0_work 33 = .ok (.iload_n 1, 1) := dk_iload_n_1 (by decide +kernel)
theorem dX0_work_34 : decode cX0_work 34 = .ok (.bipush (-5), 2) := dk_bipush (by decide +kernel)
theorem dX0_work_36 : decode cX0_work 36 = .ok (.if_icmp .ne 44, 3) := dk_if_icmp_ne (by decide +kernel)
theorem dX0_work_39 : decode cX0_work 39 = .ok (.aload_n 0, 1) := dk_aload_n_0 (by decide +kernel)
theorem dX0_work_40 : decode cX0_work 40 = .ok (.getfield 73, 3) := dk_getfield (by decide +kernel)
theorem dX0_work_43 : decode cX0_work 43 = .ok (.iconst 1, 1) := dk_iconst_1 (by decide +kernel)
theorem dX0_work_44 : decode cX0_work 44 = .ok (.if_icmp .lt 36, 3) := dk_if_icmp_lt (by decide +kernel)
theorem dX0_work_47 : decode cX0_work 47 = .ok (.aload_n 0, 1) := dk_aload_n_0 (by decide +kernel)
theorem dX0_work_48 : decode cX0_work 48 = .ok (.getfield 15, 3) := dk_getfield (by decide +kernel)
theorem dX0_work_51 : decode cX0_work 51 = .ok (.aload_n 0, 1) := dk_aload_n_0 (by decide +kernel)
theorem dX0_work_52 : decode cX0_work 52 = .ok (.getfield 73, 3) := dk_getfield (by decide +kernel)
theorem dX0_work_55 : decode cX0_work 55 = .ok (.iconst 1, 1) := dk_iconst_1 (by decide +kernel)
theorem dX0_work_56 : decode cX0_work 56 = .ok (.isub, 1) := dk_isub (by decide +kernel)
theorem dX0_work_57 : decode cX0_work 57 = .ok (.aload_n 0, 1) := dk_aload_n_0 (by decide +kernel)
theorem dX0_work_58 : decode cX0_work 58 = .ok (.getfield 15, 3) := dk_getfield (by decide +kernel)
theorem dX0_work_61 : decode cX0_work 61 = .ok (.aload_n 0, 1) := dk_aload_n_0 (by decide +kernel)
theorem dX0_work_62 : decode cX0_work 62 = .ok (.getfield 73, 3) := dk_getfield (by decide +kernel)
theorem dX0_work_65 : decode cX0_work 65 = .ok (.iconst 1, 1) := dk_iconst_1 (by decide +kernel)
theorem dX0_work_66 : decode cX0_work 66 = .ok (.isub, 1) := dk_isub (by decide +kernel)
theorem dX0_work_67 : decode cX0_work 67 = .ok (.iaload, 1) := dk_iaload (by decide +kernel)
theorem dX0_work_68 : decode cX0_work 68 = .ok (.ifCond .ne 7, 3) := dk_ifCond_ne (by decide +kernel)
theorem dX0_work_71 : decode cX0_work 71 = .ok (.iconst 1, 1) := dk_iconst_1 (by decide +kernel)
theorem dX0_work_72 : decode cX0_work 72 = .ok (.goto 4, 3) := dk_goto (by decide +kernel)
theorem dX0_work_75 : decode cX0_work 75 = .ok (.iconst 0, 1) := dk_iconst_0 (by decide +kernel)
theorem dX0_work_76 : decode cX0_work 76 = .ok (.iastore, 1) := dk_iastore (by decide +kernel)
theorem dX0_work_77 : decode cX0_work 77 = .ok (.goto 56, 3) := dk_goto (by decide +kernel)
theorem dX0_work_80 : decode cX0_work 80 = .ok (.aload_n 0, 1) := dk_aload_n_0 (by decide +kernel)
theorem dX0_work_81 : decode cX0_work 81 = .ok (.getfield 73, 3) := dk_getfield (by decide +kernel)
theorem dX0_work_84 : decode cX0_work 84 = .ok (.iconst 2, 1) := dk_iconst_2 (by decide +kernel)
theorem dX0_work_85 : decode cX0_work 85 = .ok (.if_icmp .lt 48, 3) := dk_if_icmp_lt (by decide +kernel)
theorem dX0_work_88 : decode cX0_work 88 = .ok (.aload_n 0, 1) := dk_aload_n_0 (by decide +kernel)
theorem dX0_work_89 : decode cX0_work 89 = .ok (.dup, 1) := dk_dup (by decide +kernel)
theorem dX0_work_90 : decode cX0_work 90 = .ok (.getfield 73, 3) := dk_getfield (by decide +kernel)
theorem dX0_work_93 : decode cX0_work 93 = .ok (.iconst 1, 1) := dk_iconst_1 (by decide +kernel)
theorem dX0_work_94 : decode cX0_work 94 = .ok (.isub, 1) := dk_isub (by decide +kernel)
theorem dX0_work_95 : decode cX0_work 95 = .ok (.putfield 73, 3) := dk_putfield (by decide +kernel)
theorem dX0_work_98 : decode cX0_work 98 = .ok (.aload_n 0, 1) := dk_aload_n_0 (by decide +kernel)
theorem dX0_work_99 : decode cX0_work 99 = .ok (.getfield 15, 3) := dk_getfield (by decide +kernel)
theorem dX0_work_102 : decode cX0_work 102 = .ok (.aload_n 0, 1) := dk_aload_n_0 (by decide +kernel)
theorem dX0_work_103 : decode cX0_work 103 = .ok (.getfield 73, 3) := dk_getfield (by decide +kernel)
theorem dX0_work_106 : decode cX0_work 106 = .ok (.iconst 1, 1) := dk_iconst_1 (by decide +kernel)
theorem dX0_work_107 : decode cX0_work 107 = .ok (.isub, 1) := dk_isub (by decide +kernel)
theorem dX0_work_108 : decode cX0_work 108 = .ok (.iload_n 1, 1) := dk_iload_n_1 (by decide +kernel)
theorem dX0_work_109 : decode cX0_work 109 = .ok (.aload_n 0, 1) := dk_aload_n_0 (by decide +kernel)
theorem dX0_work_110 : decode cX0_work 110 = .ok (.getfield 15, 3) := dk_getfield (by decide +kernel)
theorem dX0_work_113 : decode cX0_work 113 = .ok (.aload_n 0, 1) := dk_aload_n_0 (by decide +kernel)
theorem dX0_work_114 : decode cX0_work 114 = .ok (.getfield 73, 3) := dk_getfield (by decide +kernel)
theorem dX0_work_117 : decode cX0_work 117 = .ok (.iconst 1, 1) := dk_iconst_1 (by decide +kernel)
theorem dX0_work_118 : decode cX0_work 118 = .ok (.isub, 1) := dk_isub (by decide +kernel)
theorem dX0_work_119 : decode cX0_work 119 = .ok (.iaload, 1) := dk_iaload (by decide +kernel)
theorem dX0_work_120 : decode cX0_work 120 = .ok (.aload_n 0, 1) := dk_aload_n_0 (by decide +kernel)
theorem dX0_work_121 : decode cX0_work 121 = .ok (.getfield 15, 3) := dk_getfield (by decide +kernel)
theorem dX0_work_124 : decode cX0_work 124 = .ok (.aload_n 0, 1) := dk_aload_n_0 (by decide +kernel)
theorem dX0_work_125 : decode cX0_work 125 = .ok (.getfield 73, 3) := dk_getfield (by decide +kernel)
theorem dX0_work_128 : decode cX0_work 128 = .ok (.iaload, 1) := dk_iaload (by decide +kernel)
theorem dX0_work_129 : decode cX0_work 129 = .ok (.invokestatic 91, 3) := dk_invokestatic (by decide +kernel)
theorem dX0_work_132 : decode cX0_work 132 = .ok (.iastore, 1) := dk_iastore (by decide +kernel)
theorem dX0_work_133 : decode cX0_work 133 = .ok (.return_, 1) := dk_return_ (by decide +kernel)
set_option maxRecDepth 20000 in
theorem ggX0_work_X0_join : GoodIn wsX0_work wsX0_join := goodIn_sub (sub_cons (List.mem_cons_of_mem _ (List.mem_append_left _ (List.mem_of_getElem? (i := 10) rfl))) sub_nil) gw_X0_join
set_option maxRecDepth 20000 in
theorem gX0_work_X0_join : GoodIn wsX0_work (va_wsS RX0 91 yX0_join wsX0_join) := goodIn_app (goodIn_of _ (by decide +kernel)) ggX0_work_X0_join
set_option maxRecDepth 20000 in
theorem ggX0_work_X0_push : GoodIn wsX0_work wsX0_push := goodIn_sub (sub_cons (List.mem_cons_of_mem _ (List.mem_append_left _ (List.mem_of_getElem? (i := 7) rfl))) (sub_app (sub_cons (List.mem_cons_of_mem _ (List.mem_append_left _ (List.mem_of_getElem? (i := 1) rfl))) (sub_cons (List.mem_cons_of_mem _ (List.mem_append_left _ (List.mem_of_getElem? (i := 2) rfl))) sub_nil)) (fun w h9 => (List.mem_cons_of_mem _ (List.mem_append_right _ h9))))) gw_X0_push
set_option maxRecDepth 20000 in
theorem gX0_work_X0_push : GoodIn wsX0_work (wsV RX0 88 RX0 yX0_push wsX0_push) := goodIn_app (goodIn_sub (sub_cons (List.mem_cons_of_mem _ (List.mem_append_left _ (List.mem_of_getElem? (i := 3) rfl))) (sub_cons (List.mem_cons_of_mem _ (List.mem_append_left _ (List.mem_of_getElem? (i := 4) rfl))) (sub_cons (List.mem_cons_of_mem _ (List.mem_append_left _ (List.mem_of_getElem? (i := 5) rfl))) (sub_cons (List.mem_cons_of_mem _ (List.mem_append_left _ (List.mem_of_getElem? (i := 6) rfl))) sub_nil)))) (by decide +kernel)) ggX0_work_X0_push
set_option maxHeartbeats 4000000 in
set_option maxRecDepth 100000 in
theorem sX0_work (l : Launch) (D : va_G) (k : Nat → ClassId) (sz : Nat) (w : Nat) (st : Int32) (w_code : Nat) (w_stack : Nat) (w_facts : Nat) (w_length : Nat) (w_top : Nat) (w_stackF : Nat → Int32) (w_factsF : Nat → Int32) (h_w_length : w_length ≤ 1000) (h_w_top : w_top ≤ 24) : Met l yX0_work wsX0_work ({ frames := 1, cells := 0, slots := 0, locals := 70 }) (va_Pc [.ref w, .int st] (kz_Pre D k [(w, kO 0 [.ref w_code, .ref w_stack, .ref w_facts, .int (nI w_length), .int (nI w_top)]), (w_stack, kI k 24 w_stackF), (w_facts, kI k 4 w_factsF)] sz)) (va_Qv (fun (uu : Nat × (Nat → Int32)) => (uu.1 ≤ 24) ∧ ((uu.1, uu.2) = (fX0_work st w_top w_stackF w_factsF))) (fun uu zt => kz_B D (va_A [(w, kO 0 [.ref w_code, .ref w_stack, .ref w_facts, .int (nI w_length), .int (nI w_top)]), (w_stack, kI k 24 w_stackF), (w_facts, kI k 4 w_factsF)] sz) [(w, kO 0 [.ref w_code, .ref w_stack, .ref w_facts, .int (nI w_length), .int (nI uu.1)]), (w_stack, kI k 24 uu.2), (w_facts, kI k 4 w_factsF)] zt) (va_A [(w, kO 0 [.ref w_code, .ref w_stack, .ref w_facts, .int (nI w_length), .int (nI w_top)]), (w_stack, kI k 24 w_stackF), (w_facts, kI k 4 w_factsF)] sz)) 0 0 (va_A [(w, kO 0 [.ref w_code, .ref w_stack, .ref w_facts, .int (nI w_length), .int (nI w_top)]), (w_stack, kI k 24 w_stackF), (w_facts, kI k 4 w_factsF)] sz) := by
  refine Met.ofW (cc := cX0_work) (maxL := 2) (ret := none) (by decide) rfl ?_
  intro p e s m args below meth c s₁ B hml hv
  obtain ⟨hav, hsz, hP, hK, hD0, hE⟩ := hv
  have hx := B.exec
  have hb := B.bytes
  have hr := B.returns
  have hts := atoms_spec (ws := wsX0_work) B.pre
  have hown : s.vm.findClass RX0 = some m.cls := findClass_of_methodNamed B.named
  have hlocks := B.notSynchronized
  have hi0 : ∀ w ∈ u_ws RX0 TX0 5, w ∈ wsX0_work := fun w h9 => List.mem_cons_of_mem _ (List.mem_append_right _ h9)
  have lf73 := hts (.fieldLink RX0 73 "LastCook$Law" "top" "I") (List.mem_cons_of_mem _ (List.mem_append_left _ (List.mem_of_getElem? (i := 1) rfl)))
  have lf15 := hts (.fieldLink RX0 15 "LastCook$Law" "stack" "[I") (List.mem_cons_of_mem _ (List.mem_append_left _ (List.mem_of_getElem? (i := 2) rfl)))
  have lf18 := hts (.fieldLink RX0 18 "LastCook$Law" "facts" "[I") (List.mem_cons_of_mem _ (List.mem_append_left _ (List.mem_of_getElem? (i := 0) rfl)))
  subst hsz
  have hD := hD0.self (sz := s.heap.size)
  generalize hAe : va_A [(w, kO 0 [.ref w_code, .ref w_stack, .ref w_facts, .int (nI w_length), .int (nI w_top)]), (w_stack, kI k 24 w_stackF), (w_facts, kI k 4 w_factsF)] s.heap.size = A at hD ⊢
  have hA : ∀ q : Nat, s.heap.size ≤ q → A q := fun q h => by rw [← hAe]; exact Or.inr h
  have hS : va_S A s.heap s.heap [] := va_S.rf
  have hl := lv_entry ([.ref w, .int st]) (n := 2) (Nat.le_of_ble_eq_true rfl)
  rw [show entryFrame m args 2 = entryFrame m ([.ref w, .int st] : List Value).toArray 2 by rw [hav], lg_entry_eq]
  generalize (lg_sl ([.ref w, .int st]) ++ List.replicate (2 - (lg_sl ([.ref w, .int st])).length) Slot.unset).toArray = ls at hl ⊢
  have hl : lv_has ls 2 [(0, .ref w), (1, .int st)] := hl
  obtain ⟨R, hR⟩ : ∃ R, R = (headSpec wsX0_work ({ frames := 1, cells := 0, slots := 0, locals := 70 } : Room)).room := ⟨_, rfl⟩
  rw [← hR]
  generalize hQ : MQ below _ args s 0 0 A = Q
  replace hQ := hQ.symm
  obtain ⟨H, hH⟩ : ∃ H, H = s.heap := ⟨_, rfl⟩
  rw [← hH] at hP ⊢
  have hS : va_S A s.heap H [] := by rw [hH]; exact hS
  obtain ⟨E0, hE0⟩ : ∃ E0 : Nat × (Nat → Int32), E0 = (fX0_work st w_top w_stackF w_factsF) := ⟨_, rfl⟩
  have hZ : (fX0_work st w_top w_stackF w_factsF) = E0 := hE0.symm
  refine lv_iload_n hx hb dX0_work_0 rfl (lv_at hl 1 rfl) ?_
  have hj133_1 : ∀ (fw_4_133 : Nat) (aw_stack_133 : Nat → Int32) (H : Heap) (locs : List Loc) (ls : Array Slot), (fw_4_133 ≤ 24) → (fX0_work_J133a fw_4_133 aw_stack_133 = E0) → va_P D vwCl [(w, kO 0 [.ref w_code, .ref w_stack, .ref w_facts, .int (nI w_length), .int (nI fw_4_133)]), (w_stack, kI k 24 aw_stack_133), (w_facts, kI k 4 w_factsF)] H → va_D A [(w, kO 0 [.ref w_code, .ref w_stack, .ref w_facts, .int (nI w_length), .int (nI fw_4_133)]), (w_stack, kI k 24 aw_stack_133), (w_facts, kI k 4 w_factsF)] → va_S A s.heap H locs → lv_has ls 2 [(0, .ref w), (1, .int st)] → W p l e R s m args below meth c H locs 0 0 Q (F0 m 133 ls []) := by
    intro fw_4_133 aw_stack_133 H locs ls i_fw_4_133 hZ hP hD hS hl
    rw [hQ]
    have hP9 := hP.sub (ws' := [(w, kO 0 [.ref w_code, .ref w_stack, .ref w_facts, .int (nI w_length), .int (nI fw_4_133)]), (w_stack, kI k 24 aw_stack_133), (w_facts, kI k 4 w_factsF)]) [0, 1, 2] rfl
    have hD9 := hD.sub (ws' := [(w, kO 0 [.ref w_code, .ref w_stack, .ref w_facts, .int (nI w_length), .int (nI fw_4_133)]), (w_stack, kI k 24 aw_stack_133), (w_facts, kI k 4 w_factsF)]) [0, 1, 2] (by decide +kernel) rfl
    exact W.vret hx hb hr (fun zt ht hW => ⟨⟨⟨fw_4_133, aw_stack_133⟩, rfl, ⟨(by first | omega | (dsimp only; omega) | assumption), (hZ.trans hE0)⟩, by rw [ht]; exact hP9, hD9⟩, hS.F ht⟩) hS.2.2 dX0_work_133
  refine lv_if_lt (tgt := 12) hx hb dX0_work_1 (by decide) (fun c_2 => ?_) (fun c_2 => ?_)
  · exact by
     have t_2 : (Int32.toInt st) < 0 := tI_lt rfl (by decide) c_2
     have hZ := (if_pos c_2).symm.trans hZ
     refine lv_iload_n hx hb dX0_work_12 rfl (lv_at hl 1 rfl) ?_
     refine lv_bipush (v := (-5)) hx hb dX0_work_13 (by decide) ?_
     refine lv_icmp_le (tgt := 33) hx hb dX0_work_15 (by decide) (fun c_3 => ?_) (fun c_3 => ?_)
     · exact by
        have t_3 : (Int32.toInt st) ≤ (-5) := tI_le rfl (by decide) c_3
        have hZ := (if_pos c_3).symm.trans hZ
        refine lv_iload_n hx hb dX0_work_33 rfl (lv_at hl 1 rfl) ?_
        refine lv_bipush (v := (-5)) hx hb dX0_work_34 (by decide) ?_
        have hj80_4 : ∀ (H : Heap) (locs : List Loc) (ls : Array Slot), ((fX0_work_J80a st w_top w_stackF) = E0) → va_P D vwCl [(w, kO 0 [.ref w_code, .ref w_stack, .ref w_facts, .int (nI w_length), .int (nI w_top)]), (w_stack, kI k 24 w_stackF), (w_facts, kI k 4 w_factsF)] H → va_D A [(w, kO 0 [.ref w_code, .ref w_stack, .ref w_facts, .int (nI w_length), .int (nI w_top)]), (w_stack, kI k 24 w_stackF), (w_facts, kI k 4 w_factsF)] → va_S A s.heap H locs → lv_has ls 2 [(0, .ref w), (1, .int st)] → W p l e R s m args below meth c H locs 0 0 Q (F0 m 80 ls []) := by
          intro H locs ls hZ hP hD hS hl
          refine lv_aload_n hx hb dX0_work_80 rfl (lv_at hl 0 rfl) ?_
          refine va_get (D := D) (ci := 0) (v := .int (nI w_top)) (C := RX0) (T := TX0) (N := 5) hx hb hts hi0 hown hK hP 0 rfl rfl 4 (by decide) lf73 (fun _ h9 => h9) rfl dX0_work_81 ?_
          refine lv_iconst (v := 2) hx hb dX0_work_84 (by decide) ?_
          refine lv_icmp_lt (tgt := 133) hx hb dX0_work_85 (by decide) (fun c_5 => ?_) (fun c_5 => ?_)
          · exact by
             have k_5 : w_top < 2 := (nI_ltI (a := w_top) (b := 2) (by omega) (by omega)).mp c_5
             have hZ := (if_pos k_5).symm.trans hZ
             exact hj133_1 w_top w_stackF _ _ _ (by first | omega | assumption) hZ (hP.sub [0, 1, 2] rfl) (hD.sub [0, 1, 2] (by decide +kernel) rfl) hS (lv_sub hl [0, 1] rfl)
          · exact by
             have k_5 : ¬ (w_top < 2) := fun h => c_5 ((nI_ltI (a := w_top) (b := 2) (by omega) (by omega)).mpr h)
             have hZ := (if_neg k_5).symm.trans hZ
             refine lv_aload_n hx hb dX0_work_88 rfl (lv_at hl 0 rfl) ?_
             refine lv_dup hx hb dX0_work_89 rfl ?_
             refine va_get (D := D) (ci := 0) (v := .int (nI w_top)) (C := RX0) (T := TX0) (N := 5) hx hb hts hi0 hown hK hP 0 rfl rfl 4 (by decide) lf73 (fun _ h9 => h9) rfl dX0_work_90 ?_
             refine lv_iconst (v := 1) hx hb dX0_work_93 (by decide) ?_
             refine lv_isub hx hb dX0_work_94 ?_
             refine lv_topi (fun x6 ex6 => ?_)
             exact by
              obtain rfl : x6 = (nI (w_top - 1)) := ex6.trans (nI_sub_ (a := w_top) (b := 1) (by omega) (by omega))
              refine va_put (D := D) (ci := 0) (v := .int (nI (w_top - 1))) (ty := .int) (C := RX0) (T := TX0) (N := 5) hx hb hts hi0 tyX0 tyX0_ok nmX0 hown hK hP hD hS 0 rfl rfl 4 (by decide) lf73 (fun _ h9 => h9) rfl (by decide +kernel) rfl rfl (Nat.le_of_ble_eq_true rfl) dX0_work_95 (fun H locs hP hD hS => ?_)
              exact by
               have hP : va_P D vwCl [(w, kO 0 [.ref w_code, .ref w_stack, .ref w_facts, .int (nI w_length), .int (nI (w_top - 1))]), (w_stack, kI k 24 w_stackF), (w_facts, kI k 4 w_factsF)] H := hP
               have hD : va_D A [(w, kO 0 [.ref w_code, .ref w_stack, .ref w_facts, .int (nI w_length), .int (nI (w_top - 1))]), (w_stack, kI k 24 w_stackF), (w_facts, kI k 4 w_factsF)] := hD
               refine lv_aload_n hx hb dX0_work_98 rfl (lv_at hl 0 rfl) ?_
               refine va_get (D := D) (ci := 0) (v := .ref w_stack) (C := RX0) (T := TX0) (N := 5) hx hb hts hi0 hown hK hP 0 rfl rfl 1 (by decide) lf15 (fun _ h9 => h9) rfl dX0_work_99 ?_
               refine lv_aload_n hx hb dX0_work_102 rfl (lv_at hl 0 rfl) ?_
               refine va_get (D := D) (ci := 0) (v := .int (nI (w_top - 1))) (C := RX0) (T := TX0) (N := 5) hx hb hts hi0 hown hK hP 0 rfl rfl 4 (by decide) lf73 (fun _ h9 => h9) rfl dX0_work_103 ?_
               refine lv_iconst (v := 1) hx hb dX0_work_106 (by decide) ?_
               refine lv_isub hx hb dX0_work_107 ?_
               refine lv_topi (fun x7 ex7 => ?_)
               exact by
                obtain rfl : x7 = (nI ((w_top - 1) - 1)) := ex7.trans (nI_sub_ (a := (w_top - 1)) (b := 1) (by omega) (by omega))
                refine lv_iload_n hx hb dX0_work_108 rfl (lv_at hl 1 rfl) ?_
                refine lv_aload_n hx hb dX0_work_109 rfl (lv_at hl 0 rfl) ?_
                refine va_get (D := D) (ci := 0) (v := .ref w_stack) (C := RX0) (T := TX0) (N := 5) hx hb hts hi0 hown hK hP 0 rfl rfl 1 (by decide) lf15 (fun _ h9 => h9) rfl dX0_work_110 ?_
                refine lv_aload_n hx hb dX0_work_113 rfl (lv_at hl 0 rfl) ?_
                refine va_get (D := D) (ci := 0) (v := .int (nI (w_top - 1))) (C := RX0) (T := TX0) (N := 5) hx hb hts hi0 hown hK hP 0 rfl rfl 4 (by decide) lf73 (fun _ h9 => h9) rfl dX0_work_114 ?_
                refine lv_iconst (v := 1) hx hb dX0_work_117 (by decide) ?_
                refine lv_isub hx hb dX0_work_118 ?_
                refine lv_topi (fun x8 ex8 => ?_)
                exact by
                 obtain rfl : x8 = (nI ((w_top - 1) - 1)) := ex8.trans (nI_sub_ (a := (w_top - 1)) (b := 1) (by omega) (by omega))
                 refine va_iald hx hb hK hP 1 0 rfl rfl (vp_in_nI (n := ((w_top - 1) - 1)) (by omega) (by omega)) dX0_work_119 ?_
                 refine lv_aload_n hx hb dX0_work_120 rfl (lv_at hl 0 rfl) ?_
                 refine va_get (D := D) (ci := 0) (v := .ref w_stack) (C := RX0) (T := TX0) (N := 5) hx hb hts hi0 hown hK hP 0 rfl rfl 1 (by decide) lf15 (fun _ h9 => h9) rfl dX0_work_121 ?_
                 refine lv_aload_n hx hb dX0_work_124 rfl (lv_at hl 0 rfl) ?_
                 refine va_get (D := D) (ci := 0) (v := .int (nI (w_top - 1))) (C := RX0) (T := TX0) (N := 5) hx hb hts hi0 hown hK hP 0 rfl rfl 4 (by decide) lf73 (fun _ h9 => h9) rfl dX0_work_125 ?_
                 refine va_iald hx hb hK hP 1 0 rfl rfl (vp_in_nI (n := (w_top - 1)) (by omega) (by omega)) dX0_work_128 ?_
                 refine kz_Si (As := [.int st, .int (w_stackF (Int32.toNatClampNeg (nI ((w_top - 1) - 1)))), .int (w_stackF (Int32.toNatClampNeg (nI (w_top - 1))))]) (rest := [.int (nI ((w_top - 1) - 1)), .ref w_stack]) (wc := []) (wr := [(w, kO 0 [.ref w_code, .ref w_stack, .ref w_facts, .int (nI w_length), .int (nI (w_top - 1))]), (w_stack, kI k 24 w_stackF), (w_facts, kI k 4 w_factsF)]) ⟨hx, hb, hml, hown, hts⟩ hK hE hP hD hS hA (sX0_join l D k H.size st (w_stackF (Int32.toNatClampNeg (nI ((w_top - 1) - 1)))) (w_stackF (Int32.toNatClampNeg (nI (w_top - 1))))) (va_cwS 3 hts gX0_work_X0_join rfl rfl rfl (by decide +kernel) (by rw [hR]; exact ⟨Nat.le_of_ble_eq_true rfl, Nat.le_of_ble_eq_true rfl⟩)) [] [0, 1, 2] rfl rfl (by decide +kernel) (by decide +kernel) (by decide +kernel) rfl hl.1 rfl (Nat.le_of_ble_eq_true rfl) dX0_work_129 (by rw [hR]; exact ⟨Nat.le_of_ble_eq_true rfl, Nat.le_of_ble_eq_true rfl⟩) (fun r9 u9 H locs hw9 hP hD hS => ?_)
                 exact by
                  try dsimp only at hw9
                  have hP : va_P D vwCl [(w, kO 0 [.ref w_code, .ref w_stack, .ref w_facts, .int (nI w_length), .int (nI (w_top - 1))]), (w_stack, kI k 24 w_stackF), (w_facts, kI k 4 w_factsF)] H := hP
                  have hD : va_D A [(w, kO 0 [.ref w_code, .ref w_stack, .ref w_facts, .int (nI w_length), .int (nI (w_top - 1))]), (w_stack, kI k 24 w_stackF), (w_facts, kI k 4 w_factsF)] := hD
                  have hw9_0 := hw9
                  have hZ := bn1_e hw9_0 hZ
                  refine va_iast hx hb hK hP hD hS 1 0 rfl rfl (vp_in_nI (n := ((w_top - 1) - 1)) (by omega) (by omega)) dX0_work_132 (fun H locs hP hD hS => ?_)
                  exact by
                   have hP : va_P D vwCl [(w, kO 0 [.ref w_code, .ref w_stack, .ref w_facts, .int (nI w_length), .int (nI (w_top - 1))]), (w_stack, kI k 24 (upd w_stackF (Int32.toNatClampNeg (nI ((w_top - 1) - 1))) r9)), (w_facts, kI k 4 w_factsF)] H := hP
                   have hD : va_D A [(w, kO 0 [.ref w_code, .ref w_stack, .ref w_facts, .int (nI w_length), .int (nI (w_top - 1))]), (w_stack, kI k 24 (upd w_stackF (Int32.toNatClampNeg (nI ((w_top - 1) - 1))) r9)), (w_facts, kI k 4 w_factsF)] := hD
                   exact hj133_1 (w_top - 1) (upd w_stackF (Int32.toNatClampNeg (nI ((w_top - 1) - 1))) r9) _ _ _ (by first | omega | assumption) hZ (hP.sub [0, 1, 2] rfl) (hD.sub [0, 1, 2] (by decide +kernel) rfl) hS (lv_sub hl [0, 1] rfl)
        refine lv_icmp_ne (tgt := 80) hx hb dX0_work_36 (by decide) (fun c_10 => ?_) (fun c_10 => ?_)
        · exact by
           have t_10 : (Int32.toInt st) ≠ (-5) := tI_ne rfl (by decide) c_10
           have hZ := (if_neg c_10).symm.trans hZ
           exact hj80_4 _ _ _ hZ (hP.sub [0, 1, 2] rfl) (hD.sub [0, 1, 2] (by decide +kernel) rfl) hS (lv_sub hl [0, 1] rfl)
        · exact by
           have t_10 : (Int32.toInt st) = (-5) := tI_eq rfl (by decide) c_10
           have hZ := (if_pos c_10).symm.trans hZ
           refine lv_aload_n hx hb dX0_work_39 rfl (lv_at hl 0 rfl) ?_
           refine va_get (D := D) (ci := 0) (v := .int (nI w_top)) (C := RX0) (T := TX0) (N := 5) hx hb hts hi0 hown hK hP 0 rfl rfl 4 (by decide) lf73 (fun _ h9 => h9) rfl dX0_work_40 ?_
           refine lv_iconst (v := 1) hx hb dX0_work_43 (by decide) ?_
           refine lv_icmp_lt (tgt := 80) hx hb dX0_work_44 (by decide) (fun c_11 => ?_) (fun c_11 => ?_)
           · exact by
              have k_11 : w_top < 1 := (nI_ltI (a := w_top) (b := 1) (by omega) (by omega)).mp c_11
              have hZ := (if_pos k_11).symm.trans hZ
              exact hj80_4 _ _ _ hZ (hP.sub [0, 1, 2] rfl) (hD.sub [0, 1, 2] (by decide +kernel) rfl) hS (lv_sub hl [0, 1] rfl)
           · exact by
              have k_11 : ¬ (w_top < 1) := fun h => c_11 ((nI_ltI (a := w_top) (b := 1) (by omega) (by omega)).mpr h)
              have hZ := (if_neg k_11).symm.trans hZ
              refine lv_aload_n hx hb dX0_work_47 rfl (lv_at hl 0 rfl) ?_
              refine va_get (D := D) (ci := 0) (v := .ref w_stack) (C := RX0) (T := TX0) (N := 5) hx hb hts hi0 hown hK hP 0 rfl rfl 1 (by decide) lf15 (fun _ h9 => h9) rfl dX0_work_48 ?_
              refine lv_aload_n hx hb dX0_work_51 rfl (lv_at hl 0 rfl) ?_
              refine va_get (D := D) (ci := 0) (v := .int (nI w_top)) (C := RX0) (T := TX0) (N := 5) hx hb hts hi0 hown hK hP 0 rfl rfl 4 (by decide) lf73 (fun _ h9 => h9) rfl dX0_work_52 ?_
              refine lv_iconst (v := 1) hx hb dX0_work_55 (by decide) ?_
              refine lv_isub hx hb dX0_work_56 ?_
              refine lv_topi (fun x12 ex12 => ?_)
              exact by
               obtain rfl : x12 = (nI (w_top - 1)) := ex12.trans (nI_sub_ (a := w_top) (b := 1) (by omega) (by omega))
               refine lv_aload_n hx hb dX0_work_57 rfl (lv_at hl 0 rfl) ?_
               refine va_get (D := D) (ci := 0) (v := .ref w_stack) (C := RX0) (T := TX0) (N := 5) hx hb hts hi0 hown hK hP 0 rfl rfl 1 (by decide) lf15 (fun _ h9 => h9) rfl dX0_work_58 ?_
               refine lv_aload_n hx hb dX0_work_61 rfl (lv_at hl 0 rfl) ?_
               refine va_get (D := D) (ci := 0) (v := .int (nI w_top)) (C := RX0) (T := TX0) (N := 5) hx hb hts hi0 hown hK hP 0 rfl rfl 4 (by decide) lf73 (fun _ h9 => h9) rfl dX0_work_62 ?_
               refine lv_iconst (v := 1) hx hb dX0_work_65 (by decide) ?_
               refine lv_isub hx hb dX0_work_66 ?_
               refine lv_topi (fun x13 ex13 => ?_)
               exact by
                obtain rfl : x13 = (nI (w_top - 1)) := ex13.trans (nI_sub_ (a := w_top) (b := 1) (by omega) (by omega))
                refine va_iald hx hb hK hP 1 0 rfl rfl (vp_in_nI (n := (w_top - 1)) (by omega) (by omega)) dX0_work_67 ?_
                have hj76_14 : ∀ (s2_76 : Bool) (H : Heap) (locs : List Loc) (ls : Array Slot), ((fX0_work_J76a w_top w_stackF) s2_76 = E0) → va_P D vwCl [(w, kO 0 [.ref w_code, .ref w_stack, .ref w_facts, .int (nI w_length), .int (nI w_top)]), (w_stack, kI k 24 w_stackF), (w_facts, kI k 4 w_factsF)] H → va_D A [(w, kO 0 [.ref w_code, .ref w_stack, .ref w_facts, .int (nI w_length), .int (nI w_top)]), (w_stack, kI k 24 w_stackF), (w_facts, kI k 4 w_factsF)] → va_S A s.heap H locs → lv_has ls 2 [(0, .ref w), (1, .int st)] → W p l e R s m args below meth c H locs 0 0 Q (F0 m 76 ls [.int (bB s2_76), .int (nI (w_top - 1)), .ref w_stack]) := by
                  intro s2_76 H locs ls hZ hP hD hS hl
                  refine va_iast hx hb hK hP hD hS 1 0 rfl rfl (vp_in_nI (n := (w_top - 1)) (by omega) (by omega)) dX0_work_76 (fun H locs hP hD hS => ?_)
                  exact by
                   have hP : va_P D vwCl [(w, kO 0 [.ref w_code, .ref w_stack, .ref w_facts, .int (nI w_length), .int (nI w_top)]), (w_stack, kI k 24 (upd w_stackF (Int32.toNatClampNeg (nI (w_top - 1))) (bB s2_76))), (w_facts, kI k 4 w_factsF)] H := hP
                   have hD : va_D A [(w, kO 0 [.ref w_code, .ref w_stack, .ref w_facts, .int (nI w_length), .int (nI w_top)]), (w_stack, kI k 24 (upd w_stackF (Int32.toNatClampNeg (nI (w_top - 1))) (bB s2_76))), (w_facts, kI k 4 w_factsF)] := hD
                   refine lv_goto (tgt := 133) hx hb dX0_work_77 (by decide) ?_
                   exact hj133_1 w_top (upd w_stackF (Int32.toNatClampNeg (nI (w_top - 1))) (bB s2_76)) _ _ _ (by first | omega | assumption) hZ (hP.sub [0, 1, 2] rfl) (hD.sub [0, 1, 2] (by decide +kernel) rfl) hS (lv_sub hl [0, 1] rfl)
                refine lv_if_ne (tgt := 75) hx hb dX0_work_68 (by decide) (fun c_15 => ?_) (fun c_15 => ?_)
                · exact by
                   have hZ := (if_neg c_15).symm.trans hZ
                   refine lv_iconst (v := 0) hx hb dX0_work_75 (by decide) ?_
                   exact hj76_14 false _ _ _ hZ (hP.sub [0, 1, 2] rfl) (hD.sub [0, 1, 2] (by decide +kernel) rfl) hS (lv_sub hl [0, 1] rfl)
                · exact by
                   have hZ := (if_pos c_15).symm.trans hZ
                   refine lv_iconst (v := 1) hx hb dX0_work_71 (by decide) ?_
                   refine lv_goto (tgt := 76) hx hb dX0_work_72 (by decide) ?_
                   exact hj76_14 true _ _ _ hZ (hP.sub [0, 1, 2] rfl) (hD.sub [0, 1, 2] (by decide +kernel) rfl) hS (lv_sub hl [0, 1] rfl)
     · exact by
        have t_3 : (Int32.toInt st) > (-5) := tI_nle rfl (by decide) c_3
        have hZ := (if_neg c_3).symm.trans hZ
        refine lv_aload_n hx hb dX0_work_18 rfl (lv_at hl 0 rfl) ?_
        refine lv_aload_n hx hb dX0_work_19 rfl (lv_at hl 0 rfl) ?_
        refine va_get (D := D) (ci := 0) (v := .ref w_facts) (C := RX0) (T := TX0) (N := 5) hx hb hts hi0 hown hK hP 0 rfl rfl 2 (by decide) lf18 (fun _ h9 => h9) rfl dX0_work_20 ?_
        refine lv_iconst (v := (-1)) hx hb dX0_work_23 (by decide) ?_
        refine lv_iload_n hx hb dX0_work_24 rfl (lv_at hl 1 rfl) ?_
        refine lv_isub hx hb dX0_work_25 ?_
        have ta_16 : Int32.toInt ((-1) - st) = (-1) - (Int32.toInt st) := tI_sub (by decide) rfl (by omega) (by omega)
        refine va_iald hx hb hK hP 2 0 rfl rfl (vp_in_iff.mpr (by omega)) dX0_work_26 ?_
        refine kz_Vv (As := [.int (w_factsF (Int32.toNatClampNeg ((-1) - st)))]) (rest := []) (wc := [(w, kO 0 [.ref w_code, .ref w_stack, .ref w_facts, .int (nI w_length), .int (nI w_top)]), (w_stack, kI k 24 w_stackF)]) (wr := [(w_facts, kI k 4 w_factsF)]) ⟨hx, hb, hml, hown, hts⟩ hK hE hP hD hS hA (sX0_push l D k H.size w (w_factsF (Int32.toNatClampNeg ((-1) - st))) w_code w_stack w_facts w_length w_top w_stackF (by first | omega | assumption | decide) (by first | omega | assumption | decide)) (cwV 1 hts gX0_work_X0_push rfl rfl rfl (by decide +kernel) (by rw [hR]; exact ⟨Nat.le_of_ble_eq_true rfl, Nat.le_of_ble_eq_true rfl⟩)) [0, 1] [2] rfl rfl (by decide +kernel) (by decide +kernel) (by decide +kernel) 0 rfl rfl rfl hl.1 rfl (Nat.le_of_ble_eq_true rfl) dX0_work_27 (by rw [hR]; exact ⟨Nat.le_of_ble_eq_true rfl, Nat.le_of_ble_eq_true rfl⟩) (fun u17 H locs hw17 hP hD hS => ?_)
        exact by
         obtain ⟨u_w_417, u_w_stack17⟩ := u17
         try dsimp only at hw17
         have hP : va_P D vwCl [(w_facts, kI k 4 w_factsF), (w, kO 0 [.ref w_code, .ref w_stack, .ref w_facts, .int (nI w_length), .int (nI u_w_417)]), (w_stack, kI k 24 u_w_stack17)] H := hP
         have hD : va_D A [(w_facts, kI k 4 w_factsF), (w, kO 0 [.ref w_code, .ref w_stack, .ref w_facts, .int (nI w_length), .int (nI u_w_417)]), (w_stack, kI k 24 u_w_stack17)] := hD
         obtain ⟨hw17_0, hw17_1⟩ := hw17
         have hZ := bn2_e hw17_1 hZ
         refine lv_goto (tgt := 133) hx hb dX0_work_30 (by decide) ?_
         exact hj133_1 u_w_417 u_w_stack17 _ _ _ (by first | omega | assumption) hZ (hP.sub [1, 2, 0] rfl) (hD.sub [1, 2, 0] (by decide +kernel) rfl) hS (lv_sub hl [0, 1] rfl)
  · exact by
     have t_2 : (Int32.toInt st) ≥ 0 := tI_nlt rfl (by decide) c_2
     have hZ := (if_neg c_2).symm.trans hZ
     refine lv_aload_n hx hb dX0_work_4 rfl (lv_at hl 0 rfl) ?_
     refine lv_iload_n hx hb dX0_work_5 rfl (lv_at hl 1 rfl) ?_
     refine kz_Vv (As := [.int st]) (rest := []) (wc := [(w, kO 0 [.ref w_code, .ref w_stack, .ref w_facts, .int (nI w_length), .int (nI w_top)]), (w_stack, kI k 24 w_stackF)]) (wr := [(w_facts, kI k 4 w_factsF)]) ⟨hx, hb, hml, hown, hts⟩ hK hE hP hD hS hA (sX0_push l D k H.size w st w_code w_stack w_facts w_length w_top w_stackF (by first | omega | assumption | decide) (by first | omega | assumption | decide)) (cwV 1 hts gX0_work_X0_push rfl rfl rfl (by decide +kernel) (by rw [hR]; exact ⟨Nat.le_of_ble_eq_true rfl, Nat.le_of_ble_eq_true rfl⟩)) [0, 1] [2] rfl rfl (by decide +kernel) (by decide +kernel) (by decide +kernel) 0 rfl rfl rfl hl.1 rfl (Nat.le_of_ble_eq_true rfl) dX0_work_6 (by rw [hR]; exact ⟨Nat.le_of_ble_eq_true rfl, Nat.le_of_ble_eq_true rfl⟩) (fun u18 H locs hw18 hP hD hS => ?_)
     exact by
      obtain ⟨u_w_418, u_w_stack18⟩ := u18
      try dsimp only at hw18
      have hP : va_P D vwCl [(w_facts, kI k 4 w_factsF), (w, kO 0 [.ref w_code, .ref w_stack, .ref w_facts, .int (nI w_length), .int (nI u_w_418)]), (w_stack, kI k 24 u_w_stack18)] H := hP
      have hD : va_D A [(w_facts, kI k 4 w_factsF), (w, kO 0 [.ref w_code, .ref w_stack, .ref w_facts, .int (nI w_length), .int (nI u_w_418)]), (w_stack, kI k 24 u_w_stack18)] := hD
      obtain ⟨hw18_0, hw18_1⟩ := hw18
      have hZ := bn2_e hw18_1 hZ
      refine lv_goto (tgt := 133) hx hb dX0_work_9 (by decide) ?_
      exact hj133_1 u_w_418 u_w_stack18 _ _ _ (by first | omega | assumption) hZ (hP.sub [1, 2, 0] rfl) (hD.sub [1, 2, 0] (by decide +kernel) rfl) hS (lv_sub hl [0, 1] rfl)
theorem dX0_taste_0 : decode cX0_taste 0 = .ok (.aload_n 0, 1) := dk_aload_n_0 (by decide +kernel)
theorem dX0_taste_1 : decode cX0_taste 1 = .ok (.getfield 18, 3) := dk_getfield (by decide +kernel)
theorem dX0_taste_4 : decode cX0_taste 4 = .ok (.iconst 0, 1) := dk_iconst_0 (by decide +kernel)
theorem dX0_taste_5 : decode cX0_taste 5 = .ok (.iload_n 1, 1) := dk_iload_n_1 (by decide +kernel)
theorem dX0_taste_6 : decode cX0_taste 6 = .ok (.iastore, 1) := dk_iastore (by decide +kernel)
theorem dX0_taste_7 : decode cX0_taste 7 = .ok (.aload_n 0, 1) := dk_aload_n_0 (by decide +kernel)
theorem dX0_taste_8 : decode cX0_taste 8 = .ok (.getfield 18, 3) := dk_getfield (by decide +kernel)
theorem dX0_taste_11 : decode cX0_taste 11 = .ok (.iconst 1, 1) := dk_iconst_1 (by decide +kernel)
theorem dX0_taste_12 : decode cX0_taste 12 = .ok (.iload_n 2, 1) := dk_iload_n_2 (by decide +kernel)
theorem dX0_taste_13 : decode cX0_taste 13 = .ok (.iastore, 1) := dk_iastore (by decide +kernel)
theorem dX0_taste_14 : decode cX0_taste 14 = .ok (.aload_n 0, 1) := dk_aload_n_0 (by decide +kernel)
theorem dX0_taste_15 : decode cX0_taste 15 = .ok (.getfield 18, 3) := dk_getfield (by decide +kernel)
theorem dX0_taste_18 : decode cX0_taste 18 = .ok (.iconst 2, 1) := dk_iconst_2 (by decide +kernel)
theorem dX0_taste_19 : decode cX0_taste 19 = .ok (.iload_n 3, 1) := dk_iload_n_3 (by decide +kernel)
theorem dX0_taste_20 : decode cX0_taste 20 = .ok (.iastore, 1) := dk_iastore (by decide +kernel)
theorem dX0_taste_21 : decode cX0_taste 21 = .ok (.aload_n 0, 1) := dk_aload_n_0 (by decide +kernel)
theorem dX0_taste_22 : decode cX0_taste 22 = .ok (.getfield 18, 3) := dk_getfield (by decide +kernel)
theorem dX0_taste_25 : decode cX0_taste 25 = .ok (.iconst 3, 1) := dk_iconst_3 (by decide +kernel)
theorem dX0_taste_26 : decode cX0_taste 26 = .ok (.iload 4, 2) := dk_iload (by decide +kernel)
theorem dX0_taste_28 : decode cX0_taste 28 = .ok (.iastore, 1) := dk_iastore (by decide +kernel)
theorem dX0_taste_29 : decode cX0_taste 29 = .ok (.aload_n 0, 1) := dk_aload_n_0 (by decide +kernel)
theorem dX0_taste_30 : decode cX0_taste 30 = .ok (.iconst 0, 1) := dk_iconst_0 (by decide +kernel)
theorem dX0_taste_31 : decode cX0_taste 31 = .ok (.putfield 73, 3) := dk_putfield (by decide +kernel)
theorem dX0_taste_34 : decode cX0_taste 34 = .ok (.iconst 0, 1) := dk_iconst_0 (by decide +kernel)
theorem dX0_taste_35 : decode cX0_taste 35 = .ok (.istore 5, 2) := dk_istore (by decide +kernel)
theorem dX0_taste_37 : decode cX0_taste 37 = .ok (.iload 5, 2) := dk_iload (by decide +kernel)
theorem dX0_taste_39 : decode cX0_taste 39 = .ok (.aload_n 0, 1) := dk_aload_n_0 (by decide +kernel)
theorem dX0_taste_40 : decode cX0_taste 40 = .ok (.getfield 21, 3) := dk_getfield (by decide +kernel)
theorem dX0_taste_43 : decode cX0_taste 43 = .ok (.if_icmp .ge 20, 3) := dk_if_icmp_ge (by decide +kernel)
theorem dX0_taste_46 : decode cX0_taste 46 = .ok (.aload_n 0, 1) := dk_aload_n_0 (by decide +kernel)
theorem dX0_taste_47 : decode cX0_taste 47 = .ok (.aload_n 0, 1) := dk_aload_n_0 (by decide +kernel)
theorem dX0_taste_48 : decode cX0_taste 48 = .ok (.getfield 9, 3) := dk_getfield (by decide +kernel)
theorem dX0_taste_51 : decode cX0_taste 51 = .ok (.iload 5, 2) := dk_iload (by decide +kernel)
theorem dX0_taste_53 : decode cX0_taste 53 = .ok (.iaload, 1) := dk_iaload (by decide +kernel)
theorem dX0_taste_54 : decode cX0_taste 54 = .ok (.invokevirtual 76, 3) := dk_invokevirtual (by decide +kernel)
theorem dX0_taste_57 : decode cX0_taste 57 = .ok (.iinc 5 1, 3) := dk_iinc (by decide +kernel)
theorem dX0_taste_60 : decode cX0_taste 60 = .ok (.goto (-23), 3) := dk_goto (by decide +kernel)
theorem dX0_taste_63 : decode cX0_taste 63 = .ok (.aload_n 0, 1) := dk_aload_n_0 (by decide +kernel)
theorem dX0_taste_64 : decode cX0_taste 64 = .ok (.getfield 73, 3) := dk_getfield (by decide +kernel)
theorem dX0_taste_67 : decode cX0_taste 67 = .ok (.ifCond .le 17, 3) := dk_ifCond_le (by decide +kernel)
theorem dX0_taste_70 : decode cX0_taste 70 = .ok (.aload_n 0, 1) := dk_aload_n_0 (by decide +kernel)
theorem dX0_taste_71 : decode cX0_taste 71 = .ok (.getfield 15, 3) := dk_getfield (by decide +kernel)
theorem dX0_taste_74 : decode cX0_taste 74 = .ok (.aload_n 0, 1) := dk_aload_n_0 (by decide +kernel)
theorem dX0_taste_75 : decode cX0_taste 75 = .ok (.getfield 73, 3) := dk_getfield (by decide +kernel)
theorem dX0_taste_78 : decode cX0_taste 78 = .ok (.iconst 1, 1) := dk_iconst_1 (by decide +kernel)
theorem dX0_taste_79 : decode cX0_taste 79 = .ok (.isub, 1) := dk_isub (by decide +kernel)
theorem dX0_taste_80 : decode cX0_taste 80 = .ok (.iaload, 1) := dk_iaload (by decide +kernel)
theorem dX0_taste_81 : decode cX0_taste 81 = .ok (.goto 4, 3) := dk_goto (by decide +kernel)
theorem dX0_taste_84 : decode cX0_taste 84 = .ok (.iload_n 1, 1) := dk_iload_n_1 (by decide +kernel)
theorem dX0_taste_85 : decode cX0_taste 85 = .ok (.istore 5, 2) := dk_istore (by decide +kernel)
theorem dX0_taste_87 : decode cX0_taste 87 = .ok (.bipush (-99), 2) := dk_bipush (by decide +kernel)
theorem dX0_taste_89 : decode cX0_taste 89 = .ok (.bipush 99, 2) := dk_bipush (by decide +kernel)
theorem dX0_taste_91 : decode cX0_taste 91 = .ok (.iload 5, 2) := dk_iload (by decide +kernel)
theorem dX0_taste_93 : decode cX0_taste 93 = .ok (.invokestatic 79, 3) := dk_invokestatic (by decide +kernel)
theorem dX0_taste_96 : decode cX0_taste 96 = .ok (.invokestatic 85, 3) := dk_invokestatic (by decide +kernel)
theorem dX0_taste_99 : decode cX0_taste 99 = .ok (.ireturn, 1) := dk_ireturn (by decide +kernel)
set_option maxRecDepth 20000 in
theorem ggX0_taste_X0_work : GoodIn wsX0_taste wsX0_work := goodIn_sub (sub_cons (List.mem_cons_of_mem _ (List.mem_append_left _ (List.mem_of_getElem? (i := 16) rfl))) (sub_app (sub_cons (List.mem_cons_of_mem _ (List.mem_append_left _ (List.mem_of_getElem? (i := 0) rfl))) (sub_cons (List.mem_cons_of_mem _ (List.mem_append_left _ (List.mem_of_getElem? (i := 1) rfl))) (sub_cons (List.mem_cons_of_mem _ (List.mem_append_left _ (List.mem_of_getElem? (i := 4) rfl))) (sub_cons (List.mem_cons_of_mem _ (List.mem_append_left _ (List.mem_of_getElem? (i := 17) rfl))) (sub_cons (List.mem_cons_of_mem _ (List.mem_append_left _ (List.mem_of_getElem? (i := 18) rfl))) (sub_cons (List.mem_cons_of_mem _ (List.mem_append_left _ (List.mem_of_getElem? (i := 19) rfl))) (sub_cons (List.mem_cons_of_mem _ (List.mem_append_left _ (List.mem_of_getElem? (i := 15) rfl))) (sub_cons (List.mem_cons_of_mem _ (List.mem_append_left _ (List.mem_of_getElem? (i := 20) rfl))) (sub_cons (List.mem_cons_of_mem _ (List.mem_append_left _ (List.mem_of_getElem? (i := 21) rfl))) (sub_cons (List.mem_cons_of_mem _ (List.mem_append_left _ (List.mem_of_getElem? (i := 22) rfl))) (sub_cons (List.mem_cons_of_mem _ (List.mem_append_left _ (List.mem_of_getElem? (i := 23) rfl))) sub_nil))))))))))) (fun w h9 => (List.mem_cons_of_mem _ (List.mem_append_right _ h9))))) gw_X0_work
set_option maxRecDepth 20000 in
theorem gX0_taste_X0_work : GoodIn wsX0_taste (wsV RX0 76 RX0 yX0_work wsX0_work) := goodIn_app (goodIn_sub (sub_cons (List.mem_cons_of_mem _ (List.mem_append_left _ (List.mem_of_getElem? (i := 12) rfl))) (sub_cons (List.mem_cons_of_mem _ (List.mem_append_left _ (List.mem_of_getElem? (i := 13) rfl))) (sub_cons (List.mem_cons_of_mem _ (List.mem_append_left _ (List.mem_of_getElem? (i := 14) rfl))) (sub_cons (List.mem_cons_of_mem _ (List.mem_append_left _ (List.mem_of_getElem? (i := 15) rfl))) sub_nil)))) (by decide +kernel)) ggX0_taste_X0_work
set_option maxHeartbeats 4000000 in
set_option maxRecDepth 100000 in
theorem sX0_taste (l : Launch) (D : va_G) (k : Nat → ClassId) (sz : Nat) (w : Nat) (q0 : Int32) (q1 : Int32) (q2 : Int32) (q3 : Int32) (w_code : Nat) (w_stack : Nat) (w_facts : Nat) (w_length : Nat) (w_top : Nat) (w_codeF : Nat → Int32) (w_stackF : Nat → Int32) (w_factsF : Nat → Int32) (h_w_length : w_length ≤ 1000) (h_w_top : w_top ≤ 24) : Met l yX0_taste wsX0_taste ({ frames := 2, cells := 0, slots := 0, locals := 140 }) (va_Pc [.ref w, .int q0, .int q1, .int q2, .int q3] (kz_Pre D k [(w, kO 0 [.ref w_code, .ref w_stack, .ref w_facts, .int (nI w_length), .int (nI w_top)]), (w_code, kI k 1000 w_codeF), (w_stack, kI k 24 w_stackF), (w_facts, kI k 4 w_factsF)] sz)) (va_Qi (fun (rr : Int32) (uu : Nat × (Nat → Int32) × (Nat → Int32)) => (uu.1 ≤ 24) ∧ ((uu.1, uu.2.1, uu.2.2, rr) = (fX0_taste q0 q1 q2 q3 w_length w_codeF w_stackF w_factsF))) (fun uu zt => kz_B D (va_A [(w, kO 0 [.ref w_code, .ref w_stack, .ref w_facts, .int (nI w_length), .int (nI w_top)]), (w_code, kI k 1000 w_codeF), (w_stack, kI k 24 w_stackF), (w_facts, kI k 4 w_factsF)] sz) [(w, kO 0 [.ref w_code, .ref w_stack, .ref w_facts, .int (nI w_length), .int (nI uu.1)]), (w_code, kI k 1000 w_codeF), (w_stack, kI k 24 uu.2.1), (w_facts, kI k 4 uu.2.2)] zt) (va_A [(w, kO 0 [.ref w_code, .ref w_stack, .ref w_facts, .int (nI w_length), .int (nI w_top)]), (w_code, kI k 1000 w_codeF), (w_stack, kI k 24 w_stackF), (w_facts, kI k 4 w_factsF)] sz)) 0 0 (va_A [(w, kO 0 [.ref w_code, .ref w_stack, .ref w_facts, .int (nI w_length), .int (nI w_top)]), (w_code, kI k 1000 w_codeF), (w_stack, kI k 24 w_stackF), (w_facts, kI k 4 w_factsF)] sz) := by
  refine Met.ofW (cc := cX0_taste) (maxL := 6) (ret := (some .int)) (by decide) rfl ?_
  intro p e s m args below meth c s₁ B hml hv
  obtain ⟨hav, hsz, hP, hK, hD0, hE⟩ := hv
  have hx := B.exec
  have hb := B.bytes
  have hr := B.returns
  have hts := atoms_spec (ws := wsX0_taste) B.pre
  have hown : s.vm.findClass RX0 = some m.cls := findClass_of_methodNamed B.named
  have hlocks := B.notSynchronized
  have hi0 : ∀ w ∈ u_ws RX0 TX0 5, w ∈ wsX0_taste := fun w h9 => List.mem_cons_of_mem _ (List.mem_append_right _ h9)
  have lf18 := hts (.fieldLink RX0 18 "LastCook$Law" "facts" "[I") (List.mem_cons_of_mem _ (List.mem_append_left _ (List.mem_of_getElem? (i := 0) rfl)))
  have lf73 := hts (.fieldLink RX0 73 "LastCook$Law" "top" "I") (List.mem_cons_of_mem _ (List.mem_append_left _ (List.mem_of_getElem? (i := 1) rfl)))
  have lf21 := hts (.fieldLink RX0 21 "LastCook$Law" "length" "I") (List.mem_cons_of_mem _ (List.mem_append_left _ (List.mem_of_getElem? (i := 2) rfl)))
  have lm79 := hts (.methodLink RX0 79 Lib.Math.min.name) (List.mem_cons_of_mem _ (List.mem_append_left _ (List.mem_of_getElem? (i := 5) rfl)))
  have lmtmin := hts (.static Lib.Math.min.name) (List.mem_cons_of_mem _ (List.mem_append_left _ (List.mem_of_getElem? (i := 6) rfl)))
  have lim := hts (.initialized "java/lang/Math") (List.mem_cons_of_mem _ (List.mem_append_left _ (List.mem_of_getElem? (i := 7) rfl)))
  have lmcmin := hts (.code Lib.Math.min.name Lib.Math.min.code 2 (some .int)) (List.mem_cons_of_mem _ (List.mem_append_left _ (List.mem_of_getElem? (i := 8) rfl)))
  have lm85 := hts (.methodLink RX0 85 Lib.Math.max.name) (List.mem_cons_of_mem _ (List.mem_append_left _ (List.mem_of_getElem? (i := 9) rfl)))
  have lmtmax := hts (.static Lib.Math.max.name) (List.mem_cons_of_mem _ (List.mem_append_left _ (List.mem_of_getElem? (i := 10) rfl)))
  have lmcmax := hts (.code Lib.Math.max.name Lib.Math.max.code 2 (some .int)) (List.mem_cons_of_mem _ (List.mem_append_left _ (List.mem_of_getElem? (i := 11) rfl)))
  have lf15 := hts (.fieldLink RX0 15 "LastCook$Law" "stack" "[I") (List.mem_cons_of_mem _ (List.mem_append_left _ (List.mem_of_getElem? (i := 4) rfl)))
  have lf9 := hts (.fieldLink RX0 9 "LastCook$Law" "code" "[I") (List.mem_cons_of_mem _ (List.mem_append_left _ (List.mem_of_getElem? (i := 3) rfl)))
  subst hsz
  have hD := hD0.self (sz := s.heap.size)
  generalize hAe : va_A [(w, kO 0 [.ref w_code, .ref w_stack, .ref w_facts, .int (nI w_length), .int (nI w_top)]), (w_code, kI k 1000 w_codeF), (w_stack, kI k 24 w_stackF), (w_facts, kI k 4 w_factsF)] s.heap.size = A at hD ⊢
  have hA : ∀ q : Nat, s.heap.size ≤ q → A q := fun q h => by rw [← hAe]; exact Or.inr h
  have hS : va_S A s.heap s.heap [] := va_S.rf
  have hl := lv_entry ([.ref w, .int q0, .int q1, .int q2, .int q3]) (n := 6) (Nat.le_of_ble_eq_true rfl)
  rw [show entryFrame m args 6 = entryFrame m ([.ref w, .int q0, .int q1, .int q2, .int q3] : List Value).toArray 6 by rw [hav], lg_entry_eq]
  generalize (lg_sl ([.ref w, .int q0, .int q1, .int q2, .int q3]) ++ List.replicate (6 - (lg_sl ([.ref w, .int q0, .int q1, .int q2, .int q3])).length) Slot.unset).toArray = ls at hl ⊢
  have hl : lv_has ls 6 [(0, .ref w), (1, .int q0), (2, .int q1), (3, .int q2), (4, .int q3)] := hl
  obtain ⟨R, hR⟩ : ∃ R, R = (headSpec wsX0_taste ({ frames := 2, cells := 0, slots := 0, locals := 140 } : Room)).room := ⟨_, rfl⟩
  rw [← hR]
  generalize hQ : MQ below _ args s 0 0 A = Q
  replace hQ := hQ.symm
  obtain ⟨H, hH⟩ : ∃ H, H = s.heap := ⟨_, rfl⟩
  rw [← hH] at hP ⊢
  have hS : va_S A s.heap H [] := by rw [hH]; exact hS
  obtain ⟨E0, hE0⟩ : ∃ E0 : Nat × (Nat → Int32) × (Nat → Int32) × Int32, E0 = (fX0_taste q0 q1 q2 q3 w_length w_codeF w_stackF w_factsF) := ⟨_, rfl⟩
  have hZ : (fX0_taste q0 q1 q2 q3 w_length w_codeF w_stackF w_factsF) = E0 := hE0.symm
  refine lv_aload_n hx hb dX0_taste_0 rfl (lv_at hl 0 rfl) ?_
  refine va_get (D := D) (ci := 0) (v := .ref w_facts) (C := RX0) (T := TX0) (N := 5) hx hb hts hi0 hown hK hP 0 rfl rfl 2 (by decide) lf18 (fun _ h9 => h9) rfl dX0_taste_1 ?_
  refine lv_iconst (v := 0) hx hb dX0_taste_4 (by decide) ?_
  refine lv_iload_n hx hb dX0_taste_5 rfl (lv_at hl 1 rfl) ?_
  refine va_iast hx hb hK hP hD hS 3 0 rfl rfl (vp_in_iff.mpr (by decide)) dX0_taste_6 (fun H locs hP hD hS => ?_)
  exact by
   have hP : va_P D vwCl [(w, kO 0 [.ref w_code, .ref w_stack, .ref w_facts, .int (nI w_length), .int (nI w_top)]), (w_code, kI k 1000 w_codeF), (w_stack, kI k 24 w_stackF), (w_facts, kI k 4 (upd w_factsF (Int32.toNatClampNeg 0) q0))] H := hP
   have hD : va_D A [(w, kO 0 [.ref w_code, .ref w_stack, .ref w_facts, .int (nI w_length), .int (nI w_top)]), (w_code, kI k 1000 w_codeF), (w_stack, kI k 24 w_stackF), (w_facts, kI k 4 (upd w_factsF (Int32.toNatClampNeg 0) q0))] := hD
   refine lv_aload_n hx hb dX0_taste_7 rfl (lv_at hl 0 rfl) ?_
   refine va_get (D := D) (ci := 0) (v := .ref w_facts) (C := RX0) (T := TX0) (N := 5) hx hb hts hi0 hown hK hP 0 rfl rfl 2 (by decide) lf18 (fun _ h9 => h9) rfl dX0_taste_8 ?_
   refine lv_iconst (v := 1) hx hb dX0_taste_11 (by decide) ?_
   refine lv_iload_n hx hb dX0_taste_12 rfl (lv_at hl 2 rfl) ?_
   refine va_iast hx hb hK hP hD hS 3 0 rfl rfl (vp_in_iff.mpr (by decide)) dX0_taste_13 (fun H locs hP hD hS => ?_)
   exact by
    have hP : va_P D vwCl [(w, kO 0 [.ref w_code, .ref w_stack, .ref w_facts, .int (nI w_length), .int (nI w_top)]), (w_code, kI k 1000 w_codeF), (w_stack, kI k 24 w_stackF), (w_facts, kI k 4 (upd (upd w_factsF (Int32.toNatClampNeg 0) q0) (Int32.toNatClampNeg 1) q1))] H := hP
    have hD : va_D A [(w, kO 0 [.ref w_code, .ref w_stack, .ref w_facts, .int (nI w_length), .int (nI w_top)]), (w_code, kI k 1000 w_codeF), (w_stack, kI k 24 w_stackF), (w_facts, kI k 4 (upd (upd w_factsF (Int32.toNatClampNeg 0) q0) (Int32.toNatClampNeg 1) q1))] := hD
    refine lv_aload_n hx hb dX0_taste_14 rfl (lv_at hl 0 rfl) ?_
    refine va_get (D := D) (ci := 0) (v := .ref w_facts) (C := RX0) (T := TX0) (N := 5) hx hb hts hi0 hown hK hP 0 rfl rfl 2 (by decide) lf18 (fun _ h9 => h9) rfl dX0_taste_15 ?_
    refine lv_iconst (v := 2) hx hb dX0_taste_18 (by decide) ?_
    refine lv_iload_n hx hb dX0_taste_19 rfl (lv_at hl 3 rfl) ?_
    refine va_iast hx hb hK hP hD hS 3 0 rfl rfl (vp_in_iff.mpr (by decide)) dX0_taste_20 (fun H locs hP hD hS => ?_)
    exact by
     have hP : va_P D vwCl [(w, kO 0 [.ref w_code, .ref w_stack, .ref w_facts, .int (nI w_length), .int (nI w_top)]), (w_code, kI k 1000 w_codeF), (w_stack, kI k 24 w_stackF), (w_facts, kI k 4 (upd (upd (upd w_factsF (Int32.toNatClampNeg 0) q0) (Int32.toNatClampNeg 1) q1) (Int32.toNatClampNeg 2) q2))] H := hP
     have hD : va_D A [(w, kO 0 [.ref w_code, .ref w_stack, .ref w_facts, .int (nI w_length), .int (nI w_top)]), (w_code, kI k 1000 w_codeF), (w_stack, kI k 24 w_stackF), (w_facts, kI k 4 (upd (upd (upd w_factsF (Int32.toNatClampNeg 0) q0) (Int32.toNatClampNeg 1) q1) (Int32.toNatClampNeg 2) q2))] := hD
     refine lv_aload_n hx hb dX0_taste_21 rfl (lv_at hl 0 rfl) ?_
     refine va_get (D := D) (ci := 0) (v := .ref w_facts) (C := RX0) (T := TX0) (N := 5) hx hb hts hi0 hown hK hP 0 rfl rfl 2 (by decide) lf18 (fun _ h9 => h9) rfl dX0_taste_22 ?_
     refine lv_iconst (v := 3) hx hb dX0_taste_25 (by decide) ?_
     refine lv_iload hx hb dX0_taste_26 (lv_at hl 4 rfl) ?_
     refine va_iast hx hb hK hP hD hS 3 0 rfl rfl (vp_in_iff.mpr (by decide)) dX0_taste_28 (fun H locs hP hD hS => ?_)
     exact by
      have hP : va_P D vwCl [(w, kO 0 [.ref w_code, .ref w_stack, .ref w_facts, .int (nI w_length), .int (nI w_top)]), (w_code, kI k 1000 w_codeF), (w_stack, kI k 24 w_stackF), (w_facts, kI k 4 (upd (upd (upd (upd w_factsF (Int32.toNatClampNeg 0) q0) (Int32.toNatClampNeg 1) q1) (Int32.toNatClampNeg 2) q2) (Int32.toNatClampNeg 3) q3))] H := hP
      have hD : va_D A [(w, kO 0 [.ref w_code, .ref w_stack, .ref w_facts, .int (nI w_length), .int (nI w_top)]), (w_code, kI k 1000 w_codeF), (w_stack, kI k 24 w_stackF), (w_facts, kI k 4 (upd (upd (upd (upd w_factsF (Int32.toNatClampNeg 0) q0) (Int32.toNatClampNeg 1) q1) (Int32.toNatClampNeg 2) q2) (Int32.toNatClampNeg 3) q3))] := hD
      refine lv_aload_n hx hb dX0_taste_29 rfl (lv_at hl 0 rfl) ?_
      refine lv_iconst (v := 0) hx hb dX0_taste_30 (by decide) ?_
      refine va_put (D := D) (ci := 0) (v := .int 0) (ty := .int) (C := RX0) (T := TX0) (N := 5) hx hb hts hi0 tyX0 tyX0_ok nmX0 hown hK hP hD hS 0 rfl rfl 4 (by decide) lf73 (fun _ h9 => h9) rfl (by decide +kernel) rfl rfl (Nat.le_of_ble_eq_true rfl) dX0_taste_31 (fun H locs hP hD hS => ?_)
      exact by
       have hP : va_P D vwCl [(w, kO 0 [.ref w_code, .ref w_stack, .ref w_facts, .int (nI w_length), .int 0]), (w_code, kI k 1000 w_codeF), (w_stack, kI k 24 w_stackF), (w_facts, kI k 4 (upd (upd (upd (upd w_factsF (Int32.toNatClampNeg 0) q0) (Int32.toNatClampNeg 1) q1) (Int32.toNatClampNeg 2) q2) (Int32.toNatClampNeg 3) q3))] H := hP
       have hD : va_D A [(w, kO 0 [.ref w_code, .ref w_stack, .ref w_facts, .int (nI w_length), .int 0]), (w_code, kI k 1000 w_codeF), (w_stack, kI k 24 w_stackF), (w_facts, kI k 4 (upd (upd (upd (upd w_factsF (Int32.toNatClampNeg 0) q0) (Int32.toNatClampNeg 1) q1) (Int32.toNatClampNeg 2) q2) (Int32.toNatClampNeg 3) q3))] := hD
       refine lv_iconst (v := 0) hx hb dX0_taste_34 (by decide) ?_
       refine lv_istore (lv' := [(5, .int 0), (0, .ref w), (1, .int q0), (2, .int q1), (3, .int q2), (4, .int q3)]) hx hb dX0_taste_35 hl (by decide) rfl (fun ls hl => ?_)
       exact by
        have hloop37 : ∀ (nq : Nat) (l5_37 : Nat) (fw_4_37 : Nat) (aw_stack_37 : Nat → Int32) (H : Heap) (locs : List Loc) (ls : Array Slot), (1000 + 1 - l5_37) < nq → (l5_37 ≤ 1000) → (fw_4_37 ≤ 24) → (lp (fun _ _ _ => (0, (fun _ => 0), (fun _ => 0), (0 : Int32))) (fX0_taste_B37a q0 q1 q2 q3 w_length w_codeF w_factsF) nq l5_37 fw_4_37 aw_stack_37 = E0) → va_P D vwCl [(w, kO 0 [.ref w_code, .ref w_stack, .ref w_facts, .int (nI w_length), .int (nI fw_4_37)]), (w_code, kI k 1000 w_codeF), (w_stack, kI k 24 aw_stack_37), (w_facts, kI k 4 (upd (upd (upd (upd w_factsF (Int32.toNatClampNeg 0) q0) (Int32.toNatClampNeg 1) q1) (Int32.toNatClampNeg 2) q2) (Int32.toNatClampNeg 3) q3))] H → va_D A [(w, kO 0 [.ref w_code, .ref w_stack, .ref w_facts, .int (nI w_length), .int (nI fw_4_37)]), (w_code, kI k 1000 w_codeF), (w_stack, kI k 24 aw_stack_37), (w_facts, kI k 4 (upd (upd (upd (upd w_factsF (Int32.toNatClampNeg 0) q0) (Int32.toNatClampNeg 1) q1) (Int32.toNatClampNeg 2) q2) (Int32.toNatClampNeg 3) q3))] → va_S A s.heap H locs → lv_has ls 6 [(0, .ref w), (1, .int q0), (2, .int q1), (3, .int q2), (4, .int q3), (5, .int (nI l5_37))] → W p l e R s m args below meth c H locs 0 0 Q (F0 m 37 ls []) := by
          intro n37
          induction n37 with
          | zero => intro l5_37 fw_4_37 aw_stack_37 H locs ls hm; exact absurd hm (Nat.not_lt_zero _)
          | succ n37 ih37 =>
            intro l5_37 fw_4_37 aw_stack_37 H locs ls hm37 i_l5_37 i_fw_4_37 hZ hP hD hS hl
            obtain ⟨rc37_1, hrc37_1⟩ : ∃ r : Nat → Nat → (Nat → Int32) → Nat × (Nat → Int32) × (Nat → Int32) × Int32, r = lp (fun _ _ _ => (0, (fun _ => 0), (fun _ => 0), (0 : Int32))) (fX0_taste_B37a q0 q1 q2 q3 w_length w_codeF w_factsF) n37 := ⟨_, rfl⟩
            have hZ : (fX0_taste_B37a q0 q1 q2 q3 w_length w_codeF w_factsF) rc37_1 l5_37 fw_4_37 aw_stack_37 = E0 := by rw [hrc37_1]; exact hZ
            refine lv_iload hx hb dX0_taste_37 (lv_at hl 5 rfl) ?_
            refine lv_aload_n hx hb dX0_taste_39 rfl (lv_at hl 0 rfl) ?_
            refine va_get (D := D) (ci := 0) (v := .int (nI w_length)) (C := RX0) (T := TX0) (N := 5) hx hb hts hi0 hown hK hP 0 rfl rfl 3 (by decide) lf21 (fun _ h9 => h9) rfl dX0_taste_40 ?_
            refine lv_icmp_ge (tgt := 63) hx hb dX0_taste_43 (by decide) (fun c_2 => ?_) (fun c_2 => ?_)
            · exact by
               have k_2 : w_length ≤ l5_37 := (nI_leI (a := w_length) (b := l5_37) (by omega) (by omega)).mp c_2
               have hZ := (if_pos k_2).symm.trans hZ
               refine lv_aload_n hx hb dX0_taste_63 rfl (lv_at hl 0 rfl) ?_
               refine va_get (D := D) (ci := 0) (v := .int (nI fw_4_37)) (C := RX0) (T := TX0) (N := 5) hx hb hts hi0 hown hK hP 0 rfl rfl 4 (by decide) lf73 (fun _ h9 => h9) rfl dX0_taste_64 ?_
               have hj85_3 : ∀ (s0_85 : Int32) (H : Heap) (locs : List Loc) (ls : Array Slot), ((fX0_taste_J85a q0 q1 q2 q3 w_factsF fw_4_37 aw_stack_37) s0_85 = E0) → va_P D vwCl [(w, kO 0 [.ref w_code, .ref w_stack, .ref w_facts, .int (nI w_length), .int (nI fw_4_37)]), (w_code, kI k 1000 w_codeF), (w_stack, kI k 24 aw_stack_37), (w_facts, kI k 4 (upd (upd (upd (upd w_factsF (Int32.toNatClampNeg 0) q0) (Int32.toNatClampNeg 1) q1) (Int32.toNatClampNeg 2) q2) (Int32.toNatClampNeg 3) q3))] H → va_D A [(w, kO 0 [.ref w_code, .ref w_stack, .ref w_facts, .int (nI w_length), .int (nI fw_4_37)]), (w_code, kI k 1000 w_codeF), (w_stack, kI k 24 aw_stack_37), (w_facts, kI k 4 (upd (upd (upd (upd w_factsF (Int32.toNatClampNeg 0) q0) (Int32.toNatClampNeg 1) q1) (Int32.toNatClampNeg 2) q2) (Int32.toNatClampNeg 3) q3))] → va_S A s.heap H locs → lv_has ls 6 [(0, .ref w), (1, .int q0), (2, .int q1), (3, .int q2), (4, .int q3), (5, .int (nI l5_37))] → W p l e R s m args below meth c H locs 0 0 Q (F0 m 85 ls [.int s0_85]) := by
                 intro s0_85 H locs ls hZ hP hD hS hl
                 refine lv_istore (lv' := [(5, .int s0_85), (0, .ref w), (1, .int q0), (2, .int q1), (3, .int q2), (4, .int q3)]) hx hb dX0_taste_85 hl (by decide) rfl (fun ls hl => ?_)
                 exact by
                  refine lv_bipush (v := (-99)) hx hb dX0_taste_87 (by decide) ?_
                  refine lv_bipush (v := 99) hx hb dX0_taste_89 (by decide) ?_
                  refine lv_iload hx hb dX0_taste_91 (lv_at hl 0 rfl) ?_
                  refine va_mmin hx hb (hml.trans hl.1.symm) hown lm79 lmtmin lim lmcmin (by rw [hR]; exact Nat.le_of_ble_eq_true rfl) (by rw [hR]; exact Nat.le_of_ble_eq_true rfl) (by first | omega | (rw [hR]; exact Nat.le_of_ble_eq_true rfl)) (by first | omega | (rw [hR]; exact Nat.le_of_ble_eq_true rfl)) dX0_taste_93 ?_
                  refine va_mmax hx hb (hml.trans hl.1.symm) hown lm85 lmtmax lim lmcmax (by rw [hR]; exact Nat.le_of_ble_eq_true rfl) (by rw [hR]; exact Nat.le_of_ble_eq_true rfl) (by first | omega | (rw [hR]; exact Nat.le_of_ble_eq_true rfl)) (by first | omega | (rw [hR]; exact Nat.le_of_ble_eq_true rfl)) dX0_taste_96 ?_
                  rw [hQ]
                  have hP9 := hP.sub (ws' := [(w, kO 0 [.ref w_code, .ref w_stack, .ref w_facts, .int (nI w_length), .int (nI fw_4_37)]), (w_code, kI k 1000 w_codeF), (w_stack, kI k 24 aw_stack_37), (w_facts, kI k 4 (upd (upd (upd (upd w_factsF (Int32.toNatClampNeg 0) q0) (Int32.toNatClampNeg 1) q1) (Int32.toNatClampNeg 2) q2) (Int32.toNatClampNeg 3) q3))]) [0, 1, 2, 3] rfl
                  have hD9 := hD.sub (ws' := [(w, kO 0 [.ref w_code, .ref w_stack, .ref w_facts, .int (nI w_length), .int (nI fw_4_37)]), (w_code, kI k 1000 w_codeF), (w_stack, kI k 24 aw_stack_37), (w_facts, kI k 4 (upd (upd (upd (upd w_factsF (Int32.toNatClampNeg 0) q0) (Int32.toNatClampNeg 1) q1) (Int32.toNatClampNeg 2) q2) (Int32.toNatClampNeg 3) q3))]) [0, 1, 2, 3] (by decide +kernel) rfl
                  exact W.iret (v := (if (-99) < (if s0_85 < 99 then s0_85 else 99) then (if s0_85 < 99 then s0_85 else 99) else (-99))) hx hb hr (fun zt ht hW => ⟨⟨(if (-99) < (if s0_85 < 99 then s0_85 else 99) then (if s0_85 < 99 then s0_85 else 99) else (-99)), ⟨fw_4_37, aw_stack_37, (upd (upd (upd (upd w_factsF (Int32.toNatClampNeg 0) q0) (Int32.toNatClampNeg 1) q1) (Int32.toNatClampNeg 2) q2) (Int32.toNatClampNeg 3) q3)⟩, rfl, ⟨(by first | omega | (dsimp only; omega) | assumption), (hZ.trans hE0)⟩, by rw [ht]; exact hP9, hD9⟩, hS.F ht⟩) hS.2.2 dX0_taste_99
               refine lv_if_le (tgt := 84) hx hb dX0_taste_67 (by decide) (fun c_4 => ?_) (fun c_4 => ?_)
               · exact by
                  have k_4 : fw_4_37 ≤ 0 := (nI_leI (a := fw_4_37) (b := 0) (by omega) (by omega)).mp c_4
                  have hZ := (if_pos k_4).symm.trans hZ
                  refine lv_iload_n hx hb dX0_taste_84 rfl (lv_at hl 1 rfl) ?_
                  exact hj85_3 q0 _ _ _ hZ (hP.sub [0, 1, 2, 3] rfl) (hD.sub [0, 1, 2, 3] (by decide +kernel) rfl) hS (lv_sub hl [0, 1, 2, 3, 4, 5] rfl)
               · exact by
                  have k_4 : ¬ (fw_4_37 ≤ 0) := fun h => c_4 ((nI_leI (a := fw_4_37) (b := 0) (by omega) (by omega)).mpr h)
                  have hZ := (if_neg k_4).symm.trans hZ
                  refine lv_aload_n hx hb dX0_taste_70 rfl (lv_at hl 0 rfl) ?_
                  refine va_get (D := D) (ci := 0) (v := .ref w_stack) (C := RX0) (T := TX0) (N := 5) hx hb hts hi0 hown hK hP 0 rfl rfl 1 (by decide) lf15 (fun _ h9 => h9) rfl dX0_taste_71 ?_
                  refine lv_aload_n hx hb dX0_taste_74 rfl (lv_at hl 0 rfl) ?_
                  refine va_get (D := D) (ci := 0) (v := .int (nI fw_4_37)) (C := RX0) (T := TX0) (N := 5) hx hb hts hi0 hown hK hP 0 rfl rfl 4 (by decide) lf73 (fun _ h9 => h9) rfl dX0_taste_75 ?_
                  refine lv_iconst (v := 1) hx hb dX0_taste_78 (by decide) ?_
                  refine lv_isub hx hb dX0_taste_79 ?_
                  refine lv_topi (fun x5 ex5 => ?_)
                  exact by
                   obtain rfl : x5 = (nI (fw_4_37 - 1)) := ex5.trans (nI_sub_ (a := fw_4_37) (b := 1) (by omega) (by omega))
                   refine va_iald hx hb hK hP 2 0 rfl rfl (vp_in_nI (n := (fw_4_37 - 1)) (by omega) (by omega)) dX0_taste_80 ?_
                   refine lv_goto (tgt := 85) hx hb dX0_taste_81 (by decide) ?_
                   exact hj85_3 (aw_stack_37 (Int32.toNatClampNeg (nI (fw_4_37 - 1)))) _ _ _ hZ (hP.sub [0, 1, 2, 3] rfl) (hD.sub [0, 1, 2, 3] (by decide +kernel) rfl) hS (lv_sub hl [0, 1, 2, 3, 4, 5] rfl)
            · exact by
               have k_2 : ¬ (w_length ≤ l5_37) := fun h => c_2 ((nI_leI (a := w_length) (b := l5_37) (by omega) (by omega)).mpr h)
               have hZ := (if_neg k_2).symm.trans hZ
               refine lv_aload_n hx hb dX0_taste_46 rfl (lv_at hl 0 rfl) ?_
               refine lv_aload_n hx hb dX0_taste_47 rfl (lv_at hl 0 rfl) ?_
               refine va_get (D := D) (ci := 0) (v := .ref w_code) (C := RX0) (T := TX0) (N := 5) hx hb hts hi0 hown hK hP 0 rfl rfl 0 (by decide) lf9 (fun _ h9 => h9) rfl dX0_taste_48 ?_
               refine lv_iload hx hb dX0_taste_51 (lv_at hl 5 rfl) ?_
               refine va_iald hx hb hK hP 1 0 rfl rfl (vp_in_nI (n := l5_37) (by omega) (by omega)) dX0_taste_53 ?_
               refine kz_Vv (As := [.int (w_codeF (Int32.toNatClampNeg (nI l5_37)))]) (rest := []) (wc := [(w, kO 0 [.ref w_code, .ref w_stack, .ref w_facts, .int (nI w_length), .int (nI fw_4_37)]), (w_stack, kI k 24 aw_stack_37), (w_facts, kI k 4 (upd (upd (upd (upd w_factsF (Int32.toNatClampNeg 0) q0) (Int32.toNatClampNeg 1) q1) (Int32.toNatClampNeg 2) q2) (Int32.toNatClampNeg 3) q3))]) (wr := [(w_code, kI k 1000 w_codeF)]) ⟨hx, hb, hml, hown, hts⟩ hK hE hP hD hS hA (sX0_work l D k H.size w (w_codeF (Int32.toNatClampNeg (nI l5_37))) w_code w_stack w_facts w_length fw_4_37 aw_stack_37 (upd (upd (upd (upd w_factsF (Int32.toNatClampNeg 0) q0) (Int32.toNatClampNeg 1) q1) (Int32.toNatClampNeg 2) q2) (Int32.toNatClampNeg 3) q3) (by first | omega | assumption | decide) (by first | omega | assumption | decide)) (cwV 1 hts gX0_taste_X0_work rfl rfl rfl (by decide +kernel) (by rw [hR]; exact ⟨Nat.le_of_ble_eq_true rfl, Nat.le_of_ble_eq_true rfl⟩)) [0, 2, 3] [1] rfl rfl (by decide +kernel) (by decide +kernel) (by decide +kernel) 0 rfl rfl rfl hl.1 rfl (Nat.le_of_ble_eq_true rfl) dX0_taste_54 (by rw [hR]; exact ⟨Nat.le_of_ble_eq_true rfl, Nat.le_of_ble_eq_true rfl⟩) (fun u6 H locs hw6 hP hD hS => ?_)
               exact by
                obtain ⟨u_w_46, u_w_stack6⟩ := u6
                try dsimp only at hw6
                have hP : va_P D vwCl [(w_code, kI k 1000 w_codeF), (w, kO 0 [.ref w_code, .ref w_stack, .ref w_facts, .int (nI w_length), .int (nI u_w_46)]), (w_stack, kI k 24 u_w_stack6), (w_facts, kI k 4 (upd (upd (upd (upd w_factsF (Int32.toNatClampNeg 0) q0) (Int32.toNatClampNeg 1) q1) (Int32.toNatClampNeg 2) q2) (Int32.toNatClampNeg 3) q3))] H := hP
                have hD : va_D A [(w_code, kI k 1000 w_codeF), (w, kO 0 [.ref w_code, .ref w_stack, .ref w_facts, .int (nI w_length), .int (nI u_w_46)]), (w_stack, kI k 24 u_w_stack6), (w_facts, kI k 4 (upd (upd (upd (upd w_factsF (Int32.toNatClampNeg 0) q0) (Int32.toNatClampNeg 1) q1) (Int32.toNatClampNeg 2) q2) (Int32.toNatClampNeg 3) q3))] := hD
                obtain ⟨hw6_0, hw6_1⟩ := hw6
                have hZ := bn2_e hw6_1 hZ
                refine lv_iinc (v := (nI (l5_37 + 1))) (lv' := [(5, .int (nI (l5_37 + 1))), (0, .ref w), (1, .int q0), (2, .int q1), (3, .int q2), (4, .int q3)]) hx hb dX0_taste_57 hl (k := 5) rfl (nI_1 _) (by decide) rfl (fun ls hl => ?_)
                exact by
                 refine lv_goto (tgt := 37) hx hb dX0_taste_60 (by decide) ?_
                 exact ih37 (l5_37 + 1) u_w_46 u_w_stack6 _ _ _ (by omega) (by first | omega | assumption) (by first | omega | assumption) (by rw [← hrc37_1]; exact hZ) (hP.sub [1, 0, 2, 3] rfl) (hD.sub [1, 0, 2, 3] (by decide +kernel) rfl) hS (lv_sub hl [1, 2, 3, 4, 5, 0] rfl)
        exact hloop37 ((1000 + 1 - 0) + 1) 0 0 w_stackF _ _ _ (Nat.lt_succ_self _) (by first | omega | assumption) (by first | omega | assumption) hZ (hP.sub [0, 1, 2, 3] rfl) (hD.sub [0, 1, 2, 3] (by decide +kernel) rfl) hS (lv_sub hl [1, 2, 3, 4, 5, 0] rfl)
theorem dX0_write_0 : decode cX0_write 0 = .ok (.aload_n 0, 1) := dk_aload_n_0 (by decide +kernel)
theorem dX0_write_1 : decode cX0_write 1 = .ok (.getfield 21, 3) := dk_getfield (by decide +kernel)
theorem dX0_write_4 : decode cX0_write 4 = .ok (.aload_n 0, 1) := dk_aload_n_0 (by decide +kernel)
theorem dX0_write_5 : decode cX0_write 5 = .ok (.getfield 9, 3) := dk_getfield (by decide +kernel)
theorem dX0_write_8 : decode cX0_write 8 = .ok (.arraylength, 1) := dk_arraylength (by decide +kernel)
theorem dX0_write_9 : decode cX0_write 9 = .ok (.if_icmp .ge 23, 3) := dk_if_icmp_ge (by decide +kernel)
theorem dX0_write_12 : decode cX0_write 12 = .ok (.aload_n 0, 1) := dk_aload_n_0 (by decide +kernel)
theorem dX0_write_13 : decode cX0_write 13 = .ok (.getfield 9, 3) := dk_getfield (by decide +kernel)
theorem dX0_write_16 : decode cX0_write 16 = .ok (.aload_n 0, 1) := dk_aload_n_0 (by decide +kernel)
theorem dX0_write_17 : decode cX0_write 17 = .ok (.getfield 21, 3) := dk_getfield (by decide +kernel)
theorem dX0_write_20 : decode cX0_write 20 = .ok (.iload_n 1, 1) := dk_iload_n_1 (by decide +kernel)
theorem dX0_write_21 : decode cX0_write 21 = .ok (.iastore, 1) := dk_iastore (by decide +kernel)
theorem dX0_write_22 : decode cX0_write 22 = .ok (.aload_n 0, 1) := dk_aload_n_0 (by decide +kernel)
theorem dX0_write_23 : decode cX0_write 23 = .ok (.dup, 1) := dk_dup (by decide +kernel)
theorem dX0_write_24 : decode cX0_write 24 = .ok (.getfield 21, 3) := dk_getfield (by decide +kernel)
theorem dX0_write_27 : decode cX0_write 27 = .ok (.iconst 1, 1) := dk_iconst_1 (by decide +kernel)
theorem dX0_write_28 : decode cX0_write 28 = .ok (.iadd, 1) := dk_iadd (by decide +kernel)
theorem dX0_write_29 : decode cX0_write 29 = .ok (.putfield 21, 3) := dk_putfield (by decide +kernel)
theorem dX0_write_32 : decode cX0_write 32 = .ok (.return_, 1) := dk_return_ (by decide +kernel)
set_option maxHeartbeats 4000000 in
set_option maxRecDepth 100000 in
theorem sX0_write (l : Launch) (D : va_G) (k : Nat → ClassId) (sz : Nat) (w : Nat) (st : Int32) (w_code : Nat) (w_stack : Nat) (w_facts : Nat) (w_length : Nat) (w_top : Nat) (w_codeF : Nat → Int32) (h_w_length : w_length ≤ 1000) (h_w_top : w_top ≤ 24) : Met l yX0_write wsX0_write ({ frames := 0, cells := 0, slots := 0, locals := 0 }) (va_Pc [.ref w, .int st] (kz_Pre D k [(w, kO 0 [.ref w_code, .ref w_stack, .ref w_facts, .int (nI w_length), .int (nI w_top)]), (w_code, kI k 1000 w_codeF)] sz)) (va_Qv (fun (uu : Nat × (Nat → Int32)) => (uu.1 ≤ 1000) ∧ ((uu.1, uu.2) = (fX0_write st w_length w_codeF))) (fun uu zt => kz_B D (va_A [(w, kO 0 [.ref w_code, .ref w_stack, .ref w_facts, .int (nI w_length), .int (nI w_top)]), (w_code, kI k 1000 w_codeF)] sz) [(w, kO 0 [.ref w_code, .ref w_stack, .ref w_facts, .int (nI uu.1), .int (nI w_top)]), (w_code, kI k 1000 uu.2)] zt) (va_A [(w, kO 0 [.ref w_code, .ref w_stack, .ref w_facts, .int (nI w_length), .int (nI w_top)]), (w_code, kI k 1000 w_codeF)] sz)) 0 0 (va_A [(w, kO 0 [.ref w_code, .ref w_stack, .ref w_facts, .int (nI w_length), .int (nI w_top)]), (w_code, kI k 1000 w_codeF)] sz) := by
  refine Met.ofW (cc := cX0_write) (maxL := 2) (ret := none) (by decide) rfl ?_
  intro p e s m args below meth c s₁ B hml hv
  obtain ⟨hav, hsz, hP, hK, hD0, hE⟩ := hv
  have hx := B.exec
  have hb := B.bytes
  have hr := B.returns
  have hts := atoms_spec (ws := wsX0_write) B.pre
  have hown : s.vm.findClass RX0 = some m.cls := findClass_of_methodNamed B.named
  have hlocks := B.notSynchronized
  have hi0 : ∀ w ∈ u_ws RX0 TX0 5, w ∈ wsX0_write := fun w h9 => List.mem_cons_of_mem _ (List.mem_append_right _ h9)
  have lf21 := hts (.fieldLink RX0 21 "LastCook$Law" "length" "I") (List.mem_cons_of_mem _ (List.mem_append_left _ (List.mem_of_getElem? (i := 0) rfl)))
  have lf9 := hts (.fieldLink RX0 9 "LastCook$Law" "code" "[I") (List.mem_cons_of_mem _ (List.mem_append_left _ (List.mem_of_getElem? (i := 1) rfl)))
  subst hsz
  have hD := hD0.self (sz := s.heap.size)
  generalize hAe : va_A [(w, kO 0 [.ref w_code, .ref w_stack, .ref w_facts, .int (nI w_length), .int (nI w_top)]), (w_code, kI k 1000 w_codeF)] s.heap.size = A at hD ⊢
  have hA : ∀ q : Nat, s.heap.size ≤ q → A q := fun q h => by rw [← hAe]; exact Or.inr h
  have hS : va_S A s.heap s.heap [] := va_S.rf
  have hl := lv_entry ([.ref w, .int st]) (n := 2) (Nat.le_of_ble_eq_true rfl)
  rw [show entryFrame m args 2 = entryFrame m ([.ref w, .int st] : List Value).toArray 2 by rw [hav], lg_entry_eq]
  generalize (lg_sl ([.ref w, .int st]) ++ List.replicate (2 - (lg_sl ([.ref w, .int st])).length) Slot.unset).toArray = ls at hl ⊢
  have hl : lv_has ls 2 [(0, .ref w), (1, .int st)] := hl
  obtain ⟨R, hR⟩ : ∃ R, R = (headSpec wsX0_write ({ frames := 0, cells := 0, slots := 0, locals := 0 } : Room)).room := ⟨_, rfl⟩
  rw [← hR]
  generalize hQ : MQ below _ args s 0 0 A = Q
  replace hQ := hQ.symm
  obtain ⟨H, hH⟩ : ∃ H, H = s.heap := ⟨_, rfl⟩
  rw [← hH] at hP ⊢
  have hS : va_S A s.heap H [] := by rw [hH]; exact hS
  obtain ⟨E0, hE0⟩ : ∃ E0 : Nat × (Nat → Int32), E0 = (fX0_write st w_length w_codeF) := ⟨_, rfl⟩
  have hZ : (fX0_write st w_length w_codeF) = E0 := hE0.symm
  refine lv_aload_n hx hb dX0_write_0 rfl (lv_at hl 0 rfl) ?_
  refine va_get (D := D) (ci := 0) (v := .int (nI w_length)) (C := RX0) (T := TX0) (N := 5) hx hb hts hi0 hown hK hP 0 rfl rfl 3 (by decide) lf21 (fun _ h9 => h9) rfl dX0_write_1 ?_
  refine lv_aload_n hx hb dX0_write_4 rfl (lv_at hl 0 rfl) ?_
  refine va_get (D := D) (ci := 0) (v := .ref w_code) (C := RX0) (T := TX0) (N := 5) hx hb hts hi0 hown hK hP 0 rfl rfl 0 (by decide) lf9 (fun _ h9 => h9) rfl dX0_write_5 ?_
  refine va_alen (v := 1000) hx hb hK hP 1 0 rfl rfl rfl dX0_write_8 ?_
  have hj32_1 : ∀ (fw_3_32 : Nat) (aw_code_32 : Nat → Int32) (H : Heap) (locs : List Loc) (ls : Array Slot), (fw_3_32 ≤ 1000) → (fX0_write_J32a fw_3_32 aw_code_32 = E0) → va_P D vwCl [(w, kO 0 [.ref w_code, .ref w_stack, .ref w_facts, .int (nI fw_3_32), .int (nI w_top)]), (w_code, kI k 1000 aw_code_32)] H → va_D A [(w, kO 0 [.ref w_code, .ref w_stack, .ref w_facts, .int (nI fw_3_32), .int (nI w_top)]), (w_code, kI k 1000 aw_code_32)] → va_S A s.heap H locs → lv_has ls 2 [(0, .ref w), (1, .int st)] → W p l e R s m args below meth c H locs 0 0 Q (F0 m 32 ls []) := by
    intro fw_3_32 aw_code_32 H locs ls i_fw_3_32 hZ hP hD hS hl
    rw [hQ]
    have hP9 := hP.sub (ws' := [(w, kO 0 [.ref w_code, .ref w_stack, .ref w_facts, .int (nI fw_3_32), .int (nI w_top)]), (w_code, kI k 1000 aw_code_32)]) [0, 1] rfl
    have hD9 := hD.sub (ws' := [(w, kO 0 [.ref w_code, .ref w_stack, .ref w_facts, .int (nI fw_3_32), .int (nI w_top)]), (w_code, kI k 1000 aw_code_32)]) [0, 1] (by decide +kernel) rfl
    exact W.vret hx hb hr (fun zt ht hW => ⟨⟨⟨fw_3_32, aw_code_32⟩, rfl, ⟨(by first | omega | (dsimp only; omega) | assumption), (hZ.trans hE0)⟩, by rw [ht]; exact hP9, hD9⟩, hS.F ht⟩) hS.2.2 dX0_write_32
  refine lv_icmp_ge (tgt := 32) hx hb dX0_write_9 (by decide) (fun c_2 => ?_) (fun c_2 => ?_)
  · exact by
     have k_2 : 1000 ≤ w_length := (nI_leI (a := 1000) (b := w_length) (by omega) (by omega)).mp c_2
     have hZ := (if_pos k_2).symm.trans hZ
     exact hj32_1 w_length w_codeF _ _ _ (by first | omega | assumption) hZ (hP.sub [0, 1] rfl) (hD.sub [0, 1] (by decide +kernel) rfl) hS (lv_sub hl [0, 1] rfl)
  · exact by
     have k_2 : ¬ (1000 ≤ w_length) := fun h => c_2 ((nI_leI (a := 1000) (b := w_length) (by omega) (by omega)).mpr h)
     have hZ := (if_neg k_2).symm.trans hZ
     refine lv_aload_n hx hb dX0_write_12 rfl (lv_at hl 0 rfl) ?_
     refine va_get (D := D) (ci := 0) (v := .ref w_code) (C := RX0) (T := TX0) (N := 5) hx hb hts hi0 hown hK hP 0 rfl rfl 0 (by decide) lf9 (fun _ h9 => h9) rfl dX0_write_13 ?_
     refine lv_aload_n hx hb dX0_write_16 rfl (lv_at hl 0 rfl) ?_
     refine va_get (D := D) (ci := 0) (v := .int (nI w_length)) (C := RX0) (T := TX0) (N := 5) hx hb hts hi0 hown hK hP 0 rfl rfl 3 (by decide) lf21 (fun _ h9 => h9) rfl dX0_write_17 ?_
     refine lv_iload_n hx hb dX0_write_20 rfl (lv_at hl 1 rfl) ?_
     refine va_iast hx hb hK hP hD hS 1 0 rfl rfl (vp_in_nI (n := w_length) (by omega) (by omega)) dX0_write_21 (fun H locs hP hD hS => ?_)
     exact by
      have hP : va_P D vwCl [(w, kO 0 [.ref w_code, .ref w_stack, .ref w_facts, .int (nI w_length), .int (nI w_top)]), (w_code, kI k 1000 (upd w_codeF (Int32.toNatClampNeg (nI w_length)) st))] H := hP
      have hD : va_D A [(w, kO 0 [.ref w_code, .ref w_stack, .ref w_facts, .int (nI w_length), .int (nI w_top)]), (w_code, kI k 1000 (upd w_codeF (Int32.toNatClampNeg (nI w_length)) st))] := hD
      refine lv_aload_n hx hb dX0_write_22 rfl (lv_at hl 0 rfl) ?_
      refine lv_dup hx hb dX0_write_23 rfl ?_
      refine va_get (D := D) (ci := 0) (v := .int (nI w_length)) (C := RX0) (T := TX0) (N := 5) hx hb hts hi0 hown hK hP 0 rfl rfl 3 (by decide) lf21 (fun _ h9 => h9) rfl dX0_write_24 ?_
      refine lv_iconst (v := 1) hx hb dX0_write_27 (by decide) ?_
      refine lv_iadd hx hb dX0_write_28 ?_
      refine lv_topi (fun x3 ex3 => ?_)
      exact by
       obtain rfl : x3 = (nI (w_length + 1)) := ex3.trans (nI_add w_length 1)
       refine va_put (D := D) (ci := 0) (v := .int (nI (w_length + 1))) (ty := .int) (C := RX0) (T := TX0) (N := 5) hx hb hts hi0 tyX0 tyX0_ok nmX0 hown hK hP hD hS 0 rfl rfl 3 (by decide) lf21 (fun _ h9 => h9) rfl (by decide +kernel) rfl rfl (Nat.le_of_ble_eq_true rfl) dX0_write_29 (fun H locs hP hD hS => ?_)
       exact by
        have hP : va_P D vwCl [(w, kO 0 [.ref w_code, .ref w_stack, .ref w_facts, .int (nI (w_length + 1)), .int (nI w_top)]), (w_code, kI k 1000 (upd w_codeF (Int32.toNatClampNeg (nI w_length)) st))] H := hP
        have hD : va_D A [(w, kO 0 [.ref w_code, .ref w_stack, .ref w_facts, .int (nI (w_length + 1)), .int (nI w_top)]), (w_code, kI k 1000 (upd w_codeF (Int32.toNatClampNeg (nI w_length)) st))] := hD
        exact hj32_1 (w_length + 1) (upd w_codeF (Int32.toNatClampNeg (nI w_length)) st) _ _ _ (by first | omega | assumption) hZ (hP.sub [0, 1] rfl) (hD.sub [0, 1] (by decide +kernel) rfl) hS (lv_sub hl [0, 1] rfl)
theorem dX0_clear_0 : decode cX0_clear 0 = .ok (.aload_n 0, 1) := dk_aload_n_0 (by decide +kernel)
theorem dX0_clear_1 : decode cX0_clear 1 = .ok (.iconst 0, 1) := dk_iconst_0 (by decide +kernel)
theorem dX0_clear_2 : decode cX0_clear 2 = .ok (.putfield 21, 3) := dk_putfield (by decide +kernel)
theorem dX0_clear_5 : decode cX0_clear 5 = .ok (.return_, 1) := dk_return_ (by decide +kernel)
set_option maxHeartbeats 4000000 in
set_option maxRecDepth 100000 in
theorem sX0_clear (l : Launch) (D : va_G) (k : Nat → ClassId) (sz : Nat) (w : Nat) (w_code : Nat) (w_stack : Nat) (w_facts : Nat) (w_length : Nat) (w_top : Nat) (h_w_length : w_length ≤ 1000) (h_w_top : w_top ≤ 24) : Met l yX0_clear wsX0_clear ({ frames := 0, cells := 0, slots := 0, locals := 0 }) (va_Pc [.ref w] (kz_Pre D k [(w, kO 0 [.ref w_code, .ref w_stack, .ref w_facts, .int (nI w_length), .int (nI w_top)])] sz)) (va_Qv (fun (uu : Nat) => (uu ≤ 1000) ∧ ((uu) = fX0_clear)) (fun uu zt => kz_B D (va_A [(w, kO 0 [.ref w_code, .ref w_stack, .ref w_facts, .int (nI w_length), .int (nI w_top)])] sz) [(w, kO 0 [.ref w_code, .ref w_stack, .ref w_facts, .int (nI uu), .int (nI w_top)])] zt) (va_A [(w, kO 0 [.ref w_code, .ref w_stack, .ref w_facts, .int (nI w_length), .int (nI w_top)])] sz)) 0 0 (va_A [(w, kO 0 [.ref w_code, .ref w_stack, .ref w_facts, .int (nI w_length), .int (nI w_top)])] sz) := by
  refine Met.ofW (cc := cX0_clear) (maxL := 1) (ret := none) (by decide) rfl ?_
  intro p e s m args below meth c s₁ B hml hv
  obtain ⟨hav, hsz, hP, hK, hD0, hE⟩ := hv
  have hx := B.exec
  have hb := B.bytes
  have hr := B.returns
  have hts := atoms_spec (ws := wsX0_clear) B.pre
  have hown : s.vm.findClass RX0 = some m.cls := findClass_of_methodNamed B.named
  have hlocks := B.notSynchronized
  have hi0 : ∀ w ∈ u_ws RX0 TX0 5, w ∈ wsX0_clear := fun w h9 => List.mem_cons_of_mem _ (List.mem_append_right _ h9)
  have lf21 := hts (.fieldLink RX0 21 "LastCook$Law" "length" "I") (List.mem_cons_of_mem _ (List.mem_append_left _ (List.mem_of_getElem? (i := 0) rfl)))
  subst hsz
  have hD := hD0.self (sz := s.heap.size)
  generalize hAe : va_A [(w, kO 0 [.ref w_code, .ref w_stack, .ref w_facts, .int (nI w_length), .int (nI w_top)])] s.heap.size = A at hD ⊢
  have hA : ∀ q : Nat, s.heap.size ≤ q → A q := fun q h => by rw [← hAe]; exact Or.inr h
  have hS : va_S A s.heap s.heap [] := va_S.rf
  have hl := lv_entry ([.ref w]) (n := 1) (Nat.le_of_ble_eq_true rfl)
  rw [show entryFrame m args 1 = entryFrame m ([.ref w] : List Value).toArray 1 by rw [hav], lg_entry_eq]
  generalize (lg_sl ([.ref w]) ++ List.replicate (1 - (lg_sl ([.ref w])).length) Slot.unset).toArray = ls at hl ⊢
  have hl : lv_has ls 1 [(0, .ref w)] := hl
  obtain ⟨R, hR⟩ : ∃ R, R = (headSpec wsX0_clear ({ frames := 0, cells := 0, slots := 0, locals := 0 } : Room)).room := ⟨_, rfl⟩
  rw [← hR]
  generalize hQ : MQ below _ args s 0 0 A = Q
  replace hQ := hQ.symm
  obtain ⟨H, hH⟩ : ∃ H, H = s.heap := ⟨_, rfl⟩
  rw [← hH] at hP ⊢
  have hS : va_S A s.heap H [] := by rw [hH]; exact hS
  obtain ⟨E0, hE0⟩ : ∃ E0 : Nat, E0 = fX0_clear := ⟨_, rfl⟩
  have hZ : fX0_clear = E0 := hE0.symm
  refine lv_aload_n hx hb dX0_clear_0 rfl (lv_at hl 0 rfl) ?_
  refine lv_iconst (v := 0) hx hb dX0_clear_1 (by decide) ?_
  refine va_put (D := D) (ci := 0) (v := .int 0) (ty := .int) (C := RX0) (T := TX0) (N := 5) hx hb hts hi0 tyX0 tyX0_ok nmX0 hown hK hP hD hS 0 rfl rfl 3 (by decide) lf21 (fun _ h9 => h9) rfl (by decide +kernel) rfl rfl (Nat.le_of_ble_eq_true rfl) dX0_clear_2 (fun H locs hP hD hS => ?_)
  exact by
   have hP : va_P D vwCl [(w, kO 0 [.ref w_code, .ref w_stack, .ref w_facts, .int 0, .int (nI w_top)])] H := hP
   have hD : va_D A [(w, kO 0 [.ref w_code, .ref w_stack, .ref w_facts, .int 0, .int (nI w_top)])] := hD
   rw [hQ]
   have hP9 := hP.sub (ws' := [(w, kO 0 [.ref w_code, .ref w_stack, .ref w_facts, .int (nI 0), .int (nI w_top)])]) [0] rfl
   have hD9 := hD.sub (ws' := [(w, kO 0 [.ref w_code, .ref w_stack, .ref w_facts, .int (nI 0), .int (nI w_top)])]) [0] (by decide +kernel) rfl
   exact W.vret hx hb hr (fun zt ht hW => ⟨⟨0, rfl, ⟨(by first | omega | (dsimp only; omega) | assumption), (hZ.trans hE0)⟩, by rw [ht]; exact hP9, hD9⟩, hS.F ht⟩) hS.2.2 dX0_clear_5
