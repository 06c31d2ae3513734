theorem dX4_cameIn_0 : decode cX4_cameIn 0 = .ok (.iconst 0, 1) := dk_iconst_0 (by decide +kernel)
theorem dX4_cameIn_1 : decode cX4_cameIn 1 = .ok (.istore_n 2, 1) := dk_istore_n_2 (by decide +kernel)
theorem dX4_cameIn_2 : decode cX4_cameIn 2 = .ok (.iconst 0, 1) := dk_iconst_0 (by decide +kernel)
theorem dX4_cameIn_3 : decode cX4_cameIn 3 = .ok (.istore_n 3, 1) := dk_istore_n_3 (by decide +kernel)
theorem dX4_cameIn_4 : decode cX4_cameIn 4 = .ok (.iload_n 3, 1) := dk_iload_n_3 (by decide +kernel)
theorem dX4_cameIn_5 : decode cX4_cameIn 5 = .ok (.bipush 6, 2) := dk_bipush (by decide +kernel)
theorem dX4_cameIn_7 : decode cX4_cameIn 7 = .ok (.if_icmp .ge 22, 3) := dk_if_icmp_ge (by decide +kernel)
theorem dX4_cameIn_10 : decode cX4_cameIn 10 = .ok (.aload_n 0, 1) := dk_aload_n_0 (by decide +kernel)
theorem dX4_cameIn_11 : decode cX4_cameIn 11 = .ok (.getfield 27, 3) := dk_getfield (by decide +kernel)
theorem dX4_cameIn_14 : decode cX4_cameIn 14 = .ok (.iload_n 3, 1) := dk_iload_n_3 (by decide +kernel)
theorem dX4_cameIn_15 : decode cX4_cameIn 15 = .ok (.iaload, 1) := dk_iaload (by decide +kernel)
theorem dX4_cameIn_16 : decode cX4_cameIn 16 = .ok (.iload_n 1, 1) := dk_iload_n_1 (by decide +kernel)
theorem dX4_cameIn_17 : decode cX4_cameIn 17 = .ok (.if_icmp .ne 6, 3) := dk_if_icmp_ne (by decide +kernel)
theorem dX4_cameIn_20 : decode cX4_cameIn 20 = .ok (.iinc 2 1, 3) := dk_iinc (by decide +kernel)
theorem dX4_cameIn_23 : decode cX4_cameIn 23 = .ok (.iinc 3 1, 3) := dk_iinc (by decide +kernel)
theorem dX4_cameIn_26 : decode cX4_cameIn 26 = .ok (.goto (-22), 3) := dk_goto (by decide +kernel)
theorem dX4_cameIn_29 : decode cX4_cameIn 29 = .ok (.iload_n 2, 1) := dk_iload_n_2 (by decide +kernel)
theorem dX4_cameIn_30 : decode cX4_cameIn 30 = .ok (.ireturn, 1) := dk_ireturn (by decide +kernel)
set_option maxHeartbeats 4000000 in
set_option maxRecDepth 100000 in
theorem sX4_cameIn (l : Launch) (D : va_G) (k : Nat → ClassId) (sz : Nat) (d : Nat) (x : Int32) (d_yards : Nat) (d_paces : Nat) (d_stuck : Nat) (d_hirers : Nat) (d_places : Nat) (d_cameAt : Nat) (d_cooked : Nat) (d_inside : Int32) (d_night : Int32) (d_minute : Int32) (d_tasted : Int32) (d_lastCook : Int32) (d_stirred : Bool) (d_cameAtF : Nat → Int32) : Met l yX4_cameIn wsX4_cameIn ({ frames := 0, cells := 0, slots := 0, locals := 0 }) (va_Pc [.ref d, .int x] (kz_Pre D k [(d, kO 4 [.ref d_yards, .ref d_paces, .ref d_stuck, .ref d_hirers, .ref d_places, .ref d_cameAt, .ref d_cooked, .int d_inside, .int d_night, .int d_minute, .int d_tasted, .int d_lastCook, .int (bB d_stirred)]), (d_cameAt, kI k 6 d_cameAtF)] sz)) (va_Qi (fun (rr : Int32) (uu : Unit) => ((rr) = (fX4_cameIn x d_cameAtF))) (fun uu zt => kz_B D (va_A [(d, kO 4 [.ref d_yards, .ref d_paces, .ref d_stuck, .ref d_hirers, .ref d_places, .ref d_cameAt, .ref d_cooked, .int d_inside, .int d_night, .int d_minute, .int d_tasted, .int d_lastCook, .int (bB d_stirred)]), (d_cameAt, kI k 6 d_cameAtF)] sz) [(d, kO 4 [.ref d_yards, .ref d_paces, .ref d_stuck, .ref d_hirers, .ref d_places, .ref d_cameAt, .ref d_cooked, .int d_inside, .int d_night, .int d_minute, .int d_tasted, .int d_lastCook, .int (bB d_stirred)]), (d_cameAt, kI k 6 d_cameAtF)] zt) (va_A [(d, kO 4 [.ref d_yards, .ref d_paces, .ref d_stuck, .ref d_hirers, .ref d_places, .ref d_cameAt, .ref d_cooked, .int d_inside, .int d_night, .int d_minute, .int d_tasted, .int d_lastCook, .int (bB d_stirred)]), (d_cameAt, kI k 6 d_cameAtF)] sz)) 0 0 (va_A [(d, kO 4 [.ref d_yards, .ref d_paces, .ref d_stuck, .ref d_hirers, .ref d_places, .ref d_cameAt, .ref d_cooked, .int d_inside, .int d_night, .int d_minute, .int d_tasted, .int d_lastCook, .int (bB d_stirred)]), (d_cameAt, kI k 6 d_cameAtF)] sz) := by
  refine Met.ofW (cc := cX4_cameIn) (maxL := 4) (ret := (some .int)) (by decide) rfl ?_
  intro p e s m args below meth c s₁ B hml hv
  obtain ⟨hav, hsz, hP, hK, hD0, hE⟩ := hv
  have hx := B.exec
  have hb := B.bytes
  have hr := B.returns
  have hts := atoms_spec (ws := wsX4_cameIn) B.pre
  have hown : s.vm.findClass RX4 = some m.cls := findClass_of_methodNamed B.named
  have hlocks := B.notSynchronized
  have hi4 : ∀ w ∈ u_ws RX4 TX4 13, w ∈ wsX4_cameIn := fun w h9 => List.mem_cons_of_mem _ (List.mem_append_right _ h9)
  have lf27 := hts (.fieldLink RX4 27 "LastCook$Road" "cameAt" "[I") (List.mem_cons_of_mem _ (List.mem_append_left _ (List.mem_of_getElem? (i := 0) rfl)))
  subst hsz
  have hD := hD0.self (sz := s.heap.size)
  generalize hAe : va_A [(d, kO 4 [.ref d_yards, .ref d_paces, .ref d_stuck, .ref d_hirers, .ref d_places, .ref d_cameAt, .ref d_cooked, .int d_inside, .int d_night, .int d_minute, .int d_tasted, .int d_lastCook, .int (bB d_stirred)]), (d_cameAt, kI k 6 d_cameAtF)] s.heap.size = A at hD ⊢
  have hA : ∀ q : Nat, s.heap.size ≤ q → A q := fun q h => by rw [← hAe]; exact Or.inr h
  have hS : va_S A s.heap s.heap [] := va_S.rf
  have hl := lv_entry ([.ref d, .int x]) (n := 4) (Nat.le_of_ble_eq_true rfl)
  rw [show entryFrame m args 4 = entryFrame m ([.ref d, .int x] : List Value).toArray 4 by rw [hav], lg_entry_eq]
  generalize (lg_sl ([.ref d, .int x]) ++ List.replicate (4 - (lg_sl ([.ref d, .int x])).length) Slot.unset).toArray = ls at hl ⊢
  have hl : lv_has ls 4 [(0, .ref d), (1, .int x)] := hl
  obtain ⟨R, hR⟩ : ∃ R, R = (headSpec wsX4_cameIn ({ frames := 0, cells := 0, slots := 0, locals := 0 } : Room)).room := ⟨_, rfl⟩
  rw [← hR]
  generalize hQ : MQ below _ args s 0 0 A = Q
  replace hQ := hQ.symm
  obtain ⟨H, hH⟩ : ∃ H, H = s.heap := ⟨_, rfl⟩
  rw [← hH] at hP ⊢
  have hS : va_S A s.heap H [] := by rw [hH]; exact hS
  obtain ⟨E0, hE0⟩ : ∃ E0 : Int32, E0 = (fX4_cameIn x d_cameAtF) := ⟨_, rfl⟩
  have hZ : (fX4_cameIn x d_cameAtF) = E0 := hE0.symm
  refine lv_iconst (v := 0) hx hb dX4_cameIn_0 (by decide) ?_
  refine lv_istore_n (lv' := [(2, .int 0), (0, .ref d), (1, .int x)]) hx hb dX4_cameIn_1 rfl hl (by decide) rfl (fun ls hl => ?_)
  exact by
   refine lv_iconst (v := 0) hx hb dX4_cameIn_2 (by decide) ?_
   refine lv_istore_n (lv' := [(3, .int 0), (2, .int 0), (0, .ref d), (1, .int x)]) hx hb dX4_cameIn_3 rfl hl (by decide) rfl (fun ls hl => ?_)
   exact by
    have hloop4 : ∀ (nq : Nat) (l2_4 : Int32) (l3_4 : Nat) (H : Heap) (locs : List Loc) (ls : Array Slot), (6 + 1 - l3_4) < nq → (l3_4 ≤ 6) → (lp (fun _ _ => (0 : Int32)) (fX4_cameIn_B4a x d_cameAtF) nq l2_4 l3_4 = E0) → va_P D vwCl [(d, kO 4 [.ref d_yards, .ref d_paces, .ref d_stuck, .ref d_hirers, .ref d_places, .ref d_cameAt, .ref d_cooked, .int d_inside, .int d_night, .int d_minute, .int d_tasted, .int d_lastCook, .int (bB d_stirred)]), (d_cameAt, kI k 6 d_cameAtF)] H → va_D A [(d, kO 4 [.ref d_yards, .ref d_paces, .ref d_stuck, .ref d_hirers, .ref d_places, .ref d_cameAt, .ref d_cooked, .int d_inside, .int d_night, .int d_minute, .int d_tasted, .int d_lastCook, .int (bB d_stirred)]), (d_cameAt, kI k 6 d_cameAtF)] → va_S A s.heap H locs → lv_has ls 4 [(0, .ref d), (1, .int x), (2, .int l2_4), (3, .int (nI l3_4))] → W p l e R s m args below meth c H locs 0 0 Q (F0 m 4 ls []) := by
      intro n4
      induction n4 with
      | zero => intro l2_4 l3_4 H locs ls hm; exact absurd hm (Nat.not_lt_zero _)
      | succ n4 ih4 =>
        intro l2_4 l3_4 H locs ls hm4 i_l3_4 hZ hP hD hS hl
        obtain ⟨rc4_1, hrc4_1⟩ : ∃ r : Int32 → Nat → Int32, r = lp (fun _ _ => (0 : Int32)) (fX4_cameIn_B4a x d_cameAtF) n4 := ⟨_, rfl⟩
        have hZ : (fX4_cameIn_B4a x d_cameAtF) rc4_1 l2_4 l3_4 = E0 := by rw [hrc4_1]; exact hZ
        refine lv_iload_n hx hb dX4_cameIn_4 rfl (lv_at hl 3 rfl) ?_
        refine lv_bipush (v := 6) hx hb dX4_cameIn_5 (by decide) ?_
        refine lv_icmp_ge (tgt := 29) hx hb dX4_cameIn_7 (by decide) (fun c_2 => ?_) (fun c_2 => ?_)
        · exact by
           have k_2 : 6 ≤ l3_4 := (nI_leI (a := 6) (b := l3_4) (by omega) (by omega)).mp c_2
           have hZ := (if_pos k_2).symm.trans hZ
           refine lv_iload_n hx hb dX4_cameIn_29 rfl (lv_at hl 2 rfl) ?_
           rw [hQ]
           have hP9 := hP.sub (ws' := [(d, kO 4 [.ref d_yards, .ref d_paces, .ref d_stuck, .ref d_hirers, .ref d_places, .ref d_cameAt, .ref d_cooked, .int d_inside, .int d_night, .int d_minute, .int d_tasted, .int d_lastCook, .int (bB d_stirred)]), (d_cameAt, kI k 6 d_cameAtF)]) [0, 1] rfl
           have hD9 := hD.sub (ws' := [(d, kO 4 [.ref d_yards, .ref d_paces, .ref d_stuck, .ref d_hirers, .ref d_places, .ref d_cameAt, .ref d_cooked, .int d_inside, .int d_night, .int d_minute, .int d_tasted, .int d_lastCook, .int (bB d_stirred)]), (d_cameAt, kI k 6 d_cameAtF)]) [0, 1] (by decide +kernel) rfl
           exact W.iret (v := l2_4) hx hb hr (fun zt ht hW => ⟨⟨l2_4, (), rfl, (hZ.trans hE0), by rw [ht]; exact hP9, hD9⟩, hS.F ht⟩) hS.2.2 dX4_cameIn_30
        · exact by
           have k_2 : ¬ (6 ≤ l3_4) := fun h => c_2 ((nI_leI (a := 6) (b := l3_4) (by omega) (by omega)).mpr h)
           have hZ := (if_neg k_2).symm.trans hZ
           refine lv_aload_n hx hb dX4_cameIn_10 rfl (lv_at hl 0 rfl) ?_
           refine va_get (D := D) (ci := 4) (v := .ref d_cameAt) (C := RX4) (T := TX4) (N := 13) hx hb hts hi4 hown hK hP 0 rfl rfl 5 (by decide) lf27 (fun _ h9 => h9) rfl dX4_cameIn_11 ?_
           refine lv_iload_n hx hb dX4_cameIn_14 rfl (lv_at hl 3 rfl) ?_
           refine va_iald hx hb hK hP 1 0 rfl rfl (vp_in_nI (n := l3_4) (by omega) (by omega)) dX4_cameIn_15 ?_
           refine lv_iload_n hx hb dX4_cameIn_16 rfl (lv_at hl 1 rfl) ?_
           have hj23_3 : ∀ (l2_23 : Int32) (H : Heap) (locs : List Loc) (ls : Array Slot), ((fX4_cameIn_J23a l3_4 rc4_1) l2_23 = E0) → va_P D vwCl [(d, kO 4 [.ref d_yards, .ref d_paces, .ref d_stuck, .ref d_hirers, .ref d_places, .ref d_cameAt, .ref d_cooked, .int d_inside, .int d_night, .int d_minute, .int d_tasted, .int d_lastCook, .int (bB d_stirred)]), (d_cameAt, kI k 6 d_cameAtF)] H → va_D A [(d, kO 4 [.ref d_yards, .ref d_paces, .ref d_stuck, .ref d_hirers, .ref d_places, .ref d_cameAt, .ref d_cooked, .int d_inside, .int d_night, .int d_minute, .int d_tasted, .int d_lastCook, .int (bB d_stirred)]), (d_cameAt, kI k 6 d_cameAtF)] → va_S A s.heap H locs → lv_has ls 4 [(0, .ref d), (1, .int x), (2, .int l2_23), (3, .int (nI l3_4))] → W p l e R s m args below meth c H locs 0 0 Q (F0 m 23 ls []) := by
             intro l2_23 H locs ls hZ hP hD hS hl
             refine lv_iinc (v := (nI (l3_4 + 1))) (lv' := [(3, .int (nI (l3_4 + 1))), (0, .ref d), (1, .int x), (2, .int l2_23)]) hx hb dX4_cameIn_23 hl (k := 3) rfl (nI_1 _) (by decide) rfl (fun ls hl => ?_)
             exact by
              refine lv_goto (tgt := 4) hx hb dX4_cameIn_26 (by decide) ?_
              exact ih4 l2_23 (l3_4 + 1) _ _ _ (by omega) (by first | omega | assumption) (by rw [← hrc4_1]; exact hZ) (hP.sub [0, 1] rfl) (hD.sub [0, 1] (by decide +kernel) rfl) hS (lv_sub hl [1, 2, 3, 0] rfl)
           refine lv_icmp_ne (tgt := 23) hx hb dX4_cameIn_17 (by decide) (fun c_4 => ?_) (fun c_4 => ?_)
           · exact by
              have t_4 : (Int32.toInt (d_cameAtF (Int32.toNatClampNeg (nI l3_4)))) ≠ (Int32.toInt x) := tI_ne rfl rfl c_4
              have hZ := (if_neg c_4).symm.trans hZ
              exact hj23_3 l2_4 _ _ _ hZ (hP.sub [0, 1] rfl) (hD.sub [0, 1] (by decide +kernel) rfl) hS (lv_sub hl [0, 1, 2, 3] rfl)
           · exact by
              have t_4 : (Int32.toInt (d_cameAtF (Int32.toNatClampNeg (nI l3_4)))) = (Int32.toInt x) := tI_eq rfl rfl c_4
              have hZ := (if_pos c_4).symm.trans hZ
              refine lv_iinc (v := (l2_4 + 1)) (lv' := [(2, .int (l2_4 + 1)), (0, .ref d), (1, .int x), (3, .int (nI l3_4))]) hx hb dX4_cameIn_20 hl (k := 2) rfl rfl (by decide) rfl (fun ls hl => ?_)
              exact by
               exact hj23_3 (l2_4 + 1) _ _ _ hZ (hP.sub [0, 1] rfl) (hD.sub [0, 1] (by decide +kernel) rfl) hS (lv_sub hl [1, 2, 0, 3] rfl)
    exact hloop4 ((6 + 1 - 0) + 1) (0 : Int32) 0 _ _ _ (Nat.lt_succ_self _) (by first | omega | assumption) hZ (hP.sub [0, 1] rfl) (hD.sub [0, 1] (by decide +kernel) rfl) hS (lv_sub hl [2, 3, 1, 0] rfl)
theorem dX4_noFarther_0 : decode cX4_noFarther 0 = .ok (.iconst 0, 1) := dk_iconst_0 (by decide +kernel)
theorem dX4_noFarther_1 : decode cX4_noFarther 1 = .ok (.istore_n 3, 1) := dk_istore_n_3 (by decide +kernel)
theorem dX4_noFarther_2 : decode cX4_noFarther 2 = .ok (.iconst 0, 1) := dk_iconst_0 (by decide +kernel)
theorem dX4_noFarther_3 : decode cX4_noFarther 3 = .ok (.istore 4, 2) := dk_istore (by decide +kernel)
theorem dX4_noFarther_5 : decode cX4_noFarther 5 = .ok (.iload 4, 2) := dk_iload (by decide +kernel)
theorem dX4_noFarther_7 : decode cX4_noFarther 7 = .ok (.bipush 6, 2) := dk_bipush (by decide +kernel)
theorem dX4_noFarther_9 : decode cX4_noFarther 9 = .ok (.if_icmp .ge 33, 3) := dk_if_icmp_ge (by decide +kernel)
theorem dX4_noFarther_12 : decode cX4_noFarther 12 = .ok (.iload_n 1, 1) := dk_iload_n_1 (by decide +kernel)
theorem dX4_noFarther_13 : decode cX4_noFarther 13 = .ok (.iload 4, 2) := dk_iload (by decide +kernel)
theorem dX4_noFarther_15 : decode cX4_noFarther 15 = .ok (.ishr, 1) := dk_ishr (by decide +kernel)
theorem dX4_noFarther_16 : decode cX4_noFarther 16 = .ok (.iconst 1, 1) := dk_iconst_1 (by decide +kernel)
theorem dX4_noFarther_17 : decode cX4_noFarther 17 = .ok (.iand, 1) := dk_iand (by decide +kernel)
theorem dX4_noFarther_18 : decode cX4_noFarther 18 = .ok (.iconst 1, 1) := dk_iconst_1 (by decide +kernel)
theorem dX4_noFarther_19 : decode cX4_noFarther 19 = .ok (.if_icmp .ne 17, 3) := dk_if_icmp_ne (by decide +kernel)
theorem dX4_noFarther_22 : decode cX4_noFarther 22 = .ok (.aload_n 0, 1) := dk_aload_n_0 (by decide +kernel)
theorem dX4_noFarther_23 : decode cX4_noFarther 23 = .ok (.getfield 9, 3) := dk_getfield (by decide +kernel)
theorem dX4_noFarther_26 : decode cX4_noFarther 26 = .ok (.iload 4, 2) := dk_iload (by decide +kernel)
theorem dX4_noFarther_28 : decode cX4_noFarther 28 = .ok (.iaload, 1) := dk_iaload (by decide +kernel)
theorem dX4_noFarther_29 : decode cX4_noFarther 29 = .ok (.iload_n 2, 1) := dk_iload_n_2 (by decide +kernel)
theorem dX4_noFarther_30 : decode cX4_noFarther 30 = .ok (.if_icmp .gt 6, 3) := dk_if_icmp_gt (by decide +kernel)
theorem dX4_noFarther_33 : decode cX4_noFarther 33 = .ok (.iinc 3 1, 3) := dk_iinc (by decide +kernel)
theorem dX4_noFarther_36 : decode cX4_noFarther 36 = .ok (.iinc 4 1, 3) := dk_iinc (by decide +kernel)
theorem dX4_noFarther_39 : decode cX4_noFarther 39 = .ok (.goto (-34), 3) := dk_goto (by decide +kernel)
theorem dX4_noFarther_42 : decode cX4_noFarther 42 = .ok (.iload_n 3, 1) := dk_iload_n_3 (by decide +kernel)
theorem dX4_noFarther_43 : decode cX4_noFarther 43 = .ok (.ireturn, 1) := dk_ireturn (by decide +kernel)
set_option maxHeartbeats 4000000 in
set_option maxRecDepth 100000 in
theorem sX4_noFarther (l : Launch) (D : va_G) (k : Nat → ClassId) (sz : Nat) (d : Nat) (bi : Int32) (mo : Int32) (d_yards : Nat) (d_paces : Nat) (d_stuck : Nat) (d_hirers : Nat) (d_places : Nat) (d_cameAt : Nat) (d_cooked : Nat) (d_inside : Int32) (d_night : Int32) (d_minute : Int32) (d_tasted : Int32) (d_lastCook : Int32) (d_stirred : Bool) (d_yardsF : Nat → Int32) : Met l yX4_noFarther wsX4_noFarther ({ frames := 0, cells := 0, slots := 0, locals := 0 }) (va_Pc [.ref d, .int bi, .int mo] (kz_Pre D k [(d, kO 4 [.ref d_yards, .ref d_paces, .ref d_stuck, .ref d_hirers, .ref d_places, .ref d_cameAt, .ref d_cooked, .int d_inside, .int d_night, .int d_minute, .int d_tasted, .int d_lastCook, .int (bB d_stirred)]), (d_yards, kI k 6 d_yardsF)] sz)) (va_Qi (fun (rr : Int32) (uu : Unit) => ((rr) = (fX4_noFarther bi mo d_yardsF))) (fun uu zt => kz_B D (va_A [(d, kO 4 [.ref d_yards, .ref d_paces, .ref d_stuck, .ref d_hirers, .ref d_places, .ref d_cameAt, .ref d_cooked, .int d_inside, .int d_night, .int d_minute, .int d_tasted, .int d_lastCook, .int (bB d_stirred)]), (d_yards, kI k 6 d_yardsF)] sz) [(d, kO 4 [.ref d_yards, .ref d_paces, .ref d_stuck, .ref d_hirers, .ref d_places, .ref d_cameAt, .ref d_cooked, .int d_inside, .int d_night, .int d_minute, .int d_tasted, .int d_lastCook, .int (bB d_stirred)]), (d_yards, kI k 6 d_yardsF)] zt) (va_A [(d, kO 4 [.ref d_yards, .ref d_paces, .ref d_stuck, .ref d_hirers, .ref d_places, .ref d_cameAt, .ref d_cooked, .int d_inside, .int d_night, .int d_minute, .int d_tasted, .int d_lastCook, .int (bB d_stirred)]), (d_yards, kI k 6 d_yardsF)] sz)) 0 0 (va_A [(d, kO 4 [.ref d_yards, .ref d_paces, .ref d_stuck, .ref d_hirers, .ref d_places, .ref d_cameAt, .ref d_cooked, .int d_inside, .int d_night, .int d_minute, .int d_tasted, .int d_lastCook, .int (bB d_stirred)]), (d_yards, kI k 6 d_yardsF)] sz) := by
  refine Met.ofW (cc := cX4_noFarther) (maxL := 5) (ret := (some .int)) (by decide) rfl ?_
  intro p e s m args below meth c s₁ B hml hv
  obtain ⟨hav, hsz, hP, hK, hD0, hE⟩ := hv
  have hx := B.exec
  have hb := B.bytes
  have hr := B.returns
  have hts := atoms_spec (ws := wsX4_noFarther) B.pre
  have hown : s.vm.findClass RX4 = some m.cls := findClass_of_methodNamed B.named
  have hlocks := B.notSynchronized
  have hi4 : ∀ w ∈ u_ws RX4 TX4 13, w ∈ wsX4_noFarther := fun w h9 => List.mem_cons_of_mem _ (List.mem_append_right _ h9)
  have lf9 := hts (.fieldLink RX4 9 "LastCook$Road" "yards" "[I") (List.mem_cons_of_mem _ (List.mem_append_left _ (List.mem_of_getElem? (i := 0) rfl)))
  subst hsz
  have hD := hD0.self (sz := s.heap.size)
  generalize hAe : va_A [(d, kO 4 [.ref d_yards, .ref d_paces, .ref d_stuck, .ref d_hirers, .ref d_places, .ref d_cameAt, .ref d_cooked, .int d_inside, .int d_night, .int d_minute, .int d_tasted, .int d_lastCook, .int (bB d_stirred)]), (d_yards, kI k 6 d_yardsF)] s.heap.size = A at hD ⊢
  have hA : ∀ q : Nat, s.heap.size ≤ q → A q := fun q h => by rw [← hAe]; exact Or.inr h
  have hS : va_S A s.heap s.heap [] := va_S.rf
  have hl := lv_entry ([.ref d, .int bi, .int mo]) (n := 5) (Nat.le_of_ble_eq_true rfl)
  rw [show entryFrame m args 5 = entryFrame m ([.ref d, .int bi, .int mo] : List Value).toArray 5 by rw [hav], lg_entry_eq]
  generalize (lg_sl ([.ref d, .int bi, .int mo]) ++ List.replicate (5 - (lg_sl ([.ref d, .int bi, .int mo])).length) Slot.unset).toArray = ls at hl ⊢
  have hl : lv_has ls 5 [(0, .ref d), (1, .int bi), (2, .int mo)] := hl
  obtain ⟨R, hR⟩ : ∃ R, R = (headSpec wsX4_noFarther ({ frames := 0, cells := 0, slots := 0, locals := 0 } : Room)).room := ⟨_, rfl⟩
  rw [← hR]
  generalize hQ : MQ below _ args s 0 0 A = Q
  replace hQ := hQ.symm
  obtain ⟨H, hH⟩ : ∃ H, H = s.heap := ⟨_, rfl⟩
  rw [← hH] at hP ⊢
  have hS : va_S A s.heap H [] := by rw [hH]; exact hS
  obtain ⟨E0, hE0⟩ : ∃ E0 : Int32, E0 = (fX4_noFarther bi mo d_yardsF) := ⟨_, rfl⟩
  have hZ : (fX4_noFarther bi mo d_yardsF) = E0 := hE0.symm
  refine lv_iconst (v := 0) hx hb dX4_noFarther_0 (by decide) ?_
  refine lv_istore_n (lv' := [(3, .int 0), (0, .ref d), (1, .int bi), (2, .int mo)]) hx hb dX4_noFarther_1 rfl hl (by decide) rfl (fun ls hl => ?_)
  exact by
   refine lv_iconst (v := 0) hx hb dX4_noFarther_2 (by decide) ?_
   refine lv_istore (lv' := [(4, .int 0), (3, .int 0), (0, .ref d), (1, .int bi), (2, .int mo)]) hx hb dX4_noFarther_3 hl (by decide) rfl (fun ls hl => ?_)
   exact by
    have hloop5 : ∀ (nq : Nat) (l3_5 : Int32) (l4_5 : Nat) (H : Heap) (locs : List Loc) (ls : Array Slot), (6 + 1 - l4_5) < nq → (l4_5 ≤ 6) → (lp (fun _ _ => (0 : Int32)) (fX4_noFarther_B5a bi mo d_yardsF) nq l3_5 l4_5 = E0) → va_P D vwCl [(d, kO 4 [.ref d_yards, .ref d_paces, .ref d_stuck, .ref d_hirers, .ref d_places, .ref d_cameAt, .ref d_cooked, .int d_inside, .int d_night, .int d_minute, .int d_tasted, .int d_lastCook, .int (bB d_stirred)]), (d_yards, kI k 6 d_yardsF)] H → va_D A [(d, kO 4 [.ref d_yards, .ref d_paces, .ref d_stuck, .ref d_hirers, .ref d_places, .ref d_cameAt, .ref d_cooked, .int d_inside, .int d_night, .int d_minute, .int d_tasted, .int d_lastCook, .int (bB d_stirred)]), (d_yards, kI k 6 d_yardsF)] → va_S A s.heap H locs → lv_has ls 5 [(0, .ref d), (1, .int bi), (2, .int mo), (3, .int l3_5), (4, .int (nI l4_5))] → W p l e R s m args below meth c H locs 0 0 Q (F0 m 5 ls []) := by
      intro n5
      induction n5 with
      | zero => intro l3_5 l4_5 H locs ls hm; exact absurd hm (Nat.not_lt_zero _)
      | succ n5 ih5 =>
        intro l3_5 l4_5 H locs ls hm5 i_l4_5 hZ hP hD hS hl
        obtain ⟨rc5_1, hrc5_1⟩ : ∃ r : Int32 → Nat → Int32, r = lp (fun _ _ => (0 : Int32)) (fX4_noFarther_B5a bi mo d_yardsF) n5 := ⟨_, rfl⟩
        have hZ : (fX4_noFarther_B5a bi mo d_yardsF) rc5_1 l3_5 l4_5 = E0 := by rw [hrc5_1]; exact hZ
        refine lv_iload hx hb dX4_noFarther_5 (lv_at hl 4 rfl) ?_
        refine lv_bipush (v := 6) hx hb dX4_noFarther_7 (by decide) ?_
        refine lv_icmp_ge (tgt := 42) hx hb dX4_noFarther_9 (by decide) (fun c_2 => ?_) (fun c_2 => ?_)
        · exact by
           have k_2 : 6 ≤ l4_5 := (nI_leI (a := 6) (b := l4_5) (by omega) (by omega)).mp c_2
           have hZ := (if_pos k_2).symm.trans hZ
           refine lv_iload_n hx hb dX4_noFarther_42 rfl (lv_at hl 3 rfl) ?_
           rw [hQ]
           have hP9 := hP.sub (ws' := [(d, kO 4 [.ref d_yards, .ref d_paces, .ref d_stuck, .ref d_hirers, .ref d_places, .ref d_cameAt, .ref d_cooked, .int d_inside, .int d_night, .int d_minute, .int d_tasted, .int d_lastCook, .int (bB d_stirred)]), (d_yards, kI k 6 d_yardsF)]) [0, 1] rfl
           have hD9 := hD.sub (ws' := [(d, kO 4 [.ref d_yards, .ref d_paces, .ref d_stuck, .ref d_hirers, .ref d_places, .ref d_cameAt, .ref d_cooked, .int d_inside, .int d_night, .int d_minute, .int d_tasted, .int d_lastCook, .int (bB d_stirred)]), (d_yards, kI k 6 d_yardsF)]) [0, 1] (by decide +kernel) rfl
           exact W.iret (v := l3_5) hx hb hr (fun zt ht hW => ⟨⟨l3_5, (), rfl, (hZ.trans hE0), by rw [ht]; exact hP9, hD9⟩, hS.F ht⟩) hS.2.2 dX4_noFarther_43
        · exact by
           have k_2 : ¬ (6 ≤ l4_5) := fun h => c_2 ((nI_leI (a := 6) (b := l4_5) (by omega) (by omega)).mpr h)
           have hZ := (if_neg k_2).symm.trans hZ
           refine lv_iload_n hx hb dX4_noFarther_12 rfl (lv_at hl 1 rfl) ?_
           refine lv_iload hx hb dX4_noFarther_13 (lv_at hl 4 rfl) ?_
           refine lv_ishr hx hb dX4_noFarther_15 ?_
           refine lv_iconst (v := 1) hx hb dX4_noFarther_16 (by decide) ?_
           refine lv_iand hx hb dX4_noFarther_17 ?_
           refine lv_iconst (v := 1) hx hb dX4_noFarther_18 (by decide) ?_
           have hj36_3 : ∀ (l3_36 : Int32) (H : Heap) (locs : List Loc) (ls : Array Slot), ((fX4_noFarther_J36a l4_5 rc5_1) l3_36 = E0) → va_P D vwCl [(d, kO 4 [.ref d_yards, .ref d_paces, .ref d_stuck, .ref d_hirers, .ref d_places, .ref d_cameAt, .ref d_cooked, .int d_inside, .int d_night, .int d_minute, .int d_tasted, .int d_lastCook, .int (bB d_stirred)]), (d_yards, kI k 6 d_yardsF)] H → va_D A [(d, kO 4 [.ref d_yards, .ref d_paces, .ref d_stuck, .ref d_hirers, .ref d_places, .ref d_cameAt, .ref d_cooked, .int d_inside, .int d_night, .int d_minute, .int d_tasted, .int d_lastCook, .int (bB d_stirred)]), (d_yards, kI k 6 d_yardsF)] → va_S A s.heap H locs → lv_has ls 5 [(0, .ref d), (1, .int bi), (2, .int mo), (3, .int l3_36), (4, .int (nI l4_5))] → W p l e R s m args below meth c H locs 0 0 Q (F0 m 36 ls []) := by
             intro l3_36 H locs ls hZ hP hD hS hl
             refine lv_iinc (v := (nI (l4_5 + 1))) (lv' := [(4, .int (nI (l4_5 + 1))), (0, .ref d), (1, .int bi), (2, .int mo), (3, .int l3_36)]) hx hb dX4_noFarther_36 hl (k := 4) rfl (nI_1 _) (by decide) rfl (fun ls hl => ?_)
             exact by
              refine lv_goto (tgt := 5) hx hb dX4_noFarther_39 (by decide) ?_
              exact ih5 l3_36 (l4_5 + 1) _ _ _ (by omega) (by first | omega | assumption) (by rw [← hrc5_1]; exact hZ) (hP.sub [0, 1] rfl) (hD.sub [0, 1] (by decide +kernel) rfl) hS (lv_sub hl [1, 2, 3, 4, 0] rfl)
           refine lv_icmp_ne (tgt := 36) hx hb dX4_noFarther_19 (by decide) (fun c_4 => ?_) (fun c_4 => ?_)
           · exact by
              have hZ := (if_neg c_4).symm.trans hZ
              exact hj36_3 l3_5 _ _ _ hZ (hP.sub [0, 1] rfl) (hD.sub [0, 1] (by decide +kernel) rfl) hS (lv_sub hl [0, 1, 2, 3, 4] rfl)
           · exact by
              have hZ := (if_pos c_4).symm.trans hZ
              refine lv_aload_n hx hb dX4_noFarther_22 rfl (lv_at hl 0 rfl) ?_
              refine va_get (D := D) (ci := 4) (v := .ref d_yards) (C := RX4) (T := TX4) (N := 13) hx hb hts hi4 hown hK hP 0 rfl rfl 0 (by decide) lf9 (fun _ h9 => h9) rfl dX4_noFarther_23 ?_
              refine lv_iload hx hb dX4_noFarther_26 (lv_at hl 4 rfl) ?_
              refine va_iald hx hb hK hP 1 0 rfl rfl (vp_in_nI (n := l4_5) (by omega) (by omega)) dX4_noFarther_28 ?_
              refine lv_iload_n hx hb dX4_noFarther_29 rfl (lv_at hl 2 rfl) ?_
              refine lv_icmp_gt (tgt := 36) hx hb dX4_noFarther_30 (by decide) (fun c_5 => ?_) (fun c_5 => ?_)
              · exact by
                 have t_5 : (Int32.toInt mo) < (Int32.toInt (d_yardsF (Int32.toNatClampNeg (nI l4_5)))) := tI_lt rfl rfl c_5
                 have hZ := (if_pos c_5).symm.trans hZ
                 exact hj36_3 l3_5 _ _ _ hZ (hP.sub [0, 1] rfl) (hD.sub [0, 1] (by decide +kernel) rfl) hS (lv_sub hl [0, 1, 2, 3, 4] rfl)
              · exact by
                 have t_5 : (Int32.toInt mo) ≥ (Int32.toInt (d_yardsF (Int32.toNatClampNeg (nI l4_5)))) := tI_nlt rfl rfl c_5
                 have hZ := (if_neg c_5).symm.trans hZ
                 refine lv_iinc (v := (l3_5 + 1)) (lv' := [(3, .int (l3_5 + 1)), (0, .ref d), (1, .int bi), (2, .int mo), (4, .int (nI l4_5))]) hx hb dX4_noFarther_33 hl (k := 3) rfl rfl (by decide) rfl (fun ls hl => ?_)
                 exact by
                  exact hj36_3 (l3_5 + 1) _ _ _ hZ (hP.sub [0, 1] rfl) (hD.sub [0, 1] (by decide +kernel) rfl) hS (lv_sub hl [1, 2, 3, 0, 4] rfl)
    exact hloop5 ((6 + 1 - 0) + 1) (0 : Int32) 0 _ _ _ (Nat.lt_succ_self _) (by first | omega | assumption) hZ (hP.sub [0, 1] rfl) (hD.sub [0, 1] (by decide +kernel) rfl) hS (lv_sub hl [2, 3, 4, 1, 0] rfl)
theorem dX4_onRoadWithin_0 : decode cX4_onRoadWithin 0 = .ok (.iconst 0, 1) := dk_iconst_0 (by decide +kernel)
theorem dX4_onRoadWithin_1 : decode cX4_onRoadWithin 1 = .ok (.istore_n 3, 1) := dk_istore_n_3 (by decide +kernel)
theorem dX4_onRoadWithin_2 : decode cX4_onRoadWithin 2 = .ok (.iconst 0, 1) := dk_iconst_0 (by decide +kernel)
theorem dX4_onRoadWithin_3 : decode cX4_onRoadWithin 3 = .ok (.istore 4, 2) := dk_istore (by decide +kernel)
theorem dX4_onRoadWithin_5 : decode cX4_onRoadWithin 5 = .ok (.iload 4, 2) := dk_iload (by decide +kernel)
theorem dX4_onRoadWithin_7 : decode cX4_onRoadWithin 7 = .ok (.iload_n 1, 1) := dk_iload_n_1 (by decide +kernel)
theorem dX4_onRoadWithin_8 : decode cX4_onRoadWithin 8 = .ok (.if_icmp .ge 36, 3) := dk_if_icmp_ge (by decide +kernel)
theorem dX4_onRoadWithin_11 : decode cX4_onRoadWithin 11 = .ok (.aload_n 0, 1) := dk_aload_n_0 (by decide +kernel)
theorem dX4_onRoadWithin_12 : decode cX4_onRoadWithin 12 = .ok (.iload 4, 2) := dk_iload (by decide +kernel)
theorem dX4_onRoadWithin_14 : decode cX4_onRoadWithin 14 = .ok (.invokevirtual 66, 3) := dk_invokevirtual (by decide +kernel)
theorem dX4_onRoadWithin_17 : decode cX4_onRoadWithin 17 = .ok (.ifCond .eq 21, 3) := dk_ifCond_eq (by decide +kernel)
theorem dX4_onRoadWithin_20 : decode cX4_onRoadWithin 20 = .ok (.aload_n 0, 1) := dk_aload_n_0 (by decide +kernel)
theorem dX4_onRoadWithin_21 : decode cX4_onRoadWithin 21 = .ok (.getfield 9, 3) := dk_getfield (by decide +kernel)
theorem dX4_onRoadWithin_24 : decode cX4_onRoadWithin 24 = .ok (.iload 4, 2) := dk_iload (by decide +kernel)
theorem dX4_onRoadWithin_26 : decode cX4_onRoadWithin 26 = .ok (.iaload, 1) := dk_iaload (by decide +kernel)
theorem dX4_onRoadWithin_27 : decode cX4_onRoadWithin 27 = .ok (.iload_n 2, 1) := dk_iload_n_2 (by decide +kernel)
theorem dX4_onRoadWithin_28 : decode cX4_onRoadWithin 28 = .ok (.if_icmp .gt 10, 3) := dk_if_icmp_gt (by decide +kernel)
theorem dX4_onRoadWithin_31 : decode cX4_onRoadWithin 31 = .ok (.iload_n 3, 1) := dk_iload_n_3 (by decide +kernel)
theorem dX4_onRoadWithin_32 : decode cX4_onRoadWithin 32 = .ok (.iconst 1, 1) := dk_iconst_1 (by decide +kernel)
theorem dX4_onRoadWithin_33 : decode cX4_onRoadWithin 33 = .ok (.iload 4, 2) := dk_iload (by decide +kernel)
theorem dX4_onRoadWithin_35 : decode cX4_onRoadWithin 35 = .ok (.ishl, 1) := dk_ishl (by decide +kernel)
theorem dX4_onRoadWithin_36 : decode cX4_onRoadWithin 36 = .ok (.ior, 1) := dk_ior (by decide +kernel)
theorem dX4_onRoadWithin_37 : decode cX4_onRoadWithin 37 = .ok (.istore_n 3, 1) := dk_istore_n_3 (by decide +kernel)
theorem dX4_onRoadWithin_38 : decode cX4_onRoadWithin 38 = .ok (.iinc 4 1, 3) := dk_iinc (by decide +kernel)
theorem dX4_onRoadWithin_41 : decode cX4_onRoadWithin 41 = .ok (.goto (-36), 3) := dk_goto (by decide +kernel)
theorem dX4_onRoadWithin_44 : decode cX4_onRoadWithin 44 = .ok (.iload_n 3, 1) := dk_iload_n_3 (by decide +kernel)
theorem dX4_onRoadWithin_45 : decode cX4_onRoadWithin 45 = .ok (.ireturn, 1) := dk_ireturn (by decide +kernel)
set_option maxRecDepth 20000 in
theorem ggX4_onRoadWithin_X4_isOnRoad : GoodIn wsX4_onRoadWithin wsX4_isOnRoad := goodIn_sub (sub_cons (List.mem_cons_of_mem _ (List.mem_append_left _ (List.mem_of_getElem? (i := 5) rfl))) (sub_app (sub_cons (List.mem_cons_of_mem _ (List.mem_append_left _ (List.mem_of_getElem? (i := 0) rfl))) sub_nil) (fun w h9 => (List.mem_cons_of_mem _ (List.mem_append_right _ h9))))) gw_X4_isOnRoad
set_option maxRecDepth 20000 in
theorem gX4_onRoadWithin_X4_isOnRoad : GoodIn wsX4_onRoadWithin (wsV RX4 66 RX4 yX4_isOnRoad wsX4_isOnRoad) := goodIn_app (goodIn_sub (sub_cons (List.mem_cons_of_mem _ (List.mem_append_left _ (List.mem_of_getElem? (i := 1) rfl))) (sub_cons (List.mem_cons_of_mem _ (List.mem_append_left _ (List.mem_of_getElem? (i := 2) rfl))) (sub_cons (List.mem_cons_of_mem _ (List.mem_append_left _ (List.mem_of_getElem? (i := 3) rfl))) (sub_cons (List.mem_cons_of_mem _ (List.mem_append_left _ (List.mem_of_getElem? (i := 4) rfl))) sub_nil)))) (by decide +kernel)) ggX4_onRoadWithin_X4_isOnRoad
set_option maxHeartbeats 4000000 in
set_option maxRecDepth 100000 in
theorem sX4_onRoadWithin (l : Launch) (D : va_G) (k : Nat → ClassId) (sz : Nat) (d : Nat) (gs : Nat) (mo : Int32) (d_yards : Nat) (d_paces : Nat) (d_stuck : Nat) (d_hirers : Nat) (d_places : Nat) (d_cameAt : Nat) (d_cooked : Nat) (d_inside : Int32) (d_night : Int32) (d_minute : Int32) (d_tasted : Int32) (d_lastCook : Int32) (d_stirred : Bool) (d_yardsF : Nat → Int32) (h_gs : gs ≤ 6) : Met l yX4_onRoadWithin wsX4_onRoadWithin ({ frames := 1, cells := 0, slots := 0, locals := 70 }) (va_Pc [.ref d, .int (nI gs), .int mo] (kz_Pre D k [(d, kO 4 [.ref d_yards, .ref d_paces, .ref d_stuck, .ref d_hirers, .ref d_places, .ref d_cameAt, .ref d_cooked, .int d_inside, .int d_night, .int d_minute, .int d_tasted, .int d_lastCook, .int (bB d_stirred)]), (d_yards, kI k 6 d_yardsF)] sz)) (va_Qi (fun (rr : Int32) (uu : Unit) => ((rr) = (fX4_onRoadWithin gs mo d_yardsF))) (fun uu zt => kz_B D (va_A [(d, kO 4 [.ref d_yards, .ref d_paces, .ref d_stuck, .ref d_hirers, .ref d_places, .ref d_cameAt, .ref d_cooked, .int d_inside, .int d_night, .int d_minute, .int d_tasted, .int d_lastCook, .int (bB d_stirred)]), (d_yards, kI k 6 d_yardsF)] sz) [(d, kO 4 [.ref d_yards, .ref d_paces, .ref d_stuck, .ref d_hirers, .ref d_places, .ref d_cameAt, .ref d_cooked, .int d_inside, .int d_night, .int d_minute, .int d_tasted, .int d_lastCook, .int (bB d_stirred)]), (d_yards, kI k 6 d_yardsF)] zt) (va_A [(d, kO 4 [.ref d_yards, .ref d_paces, .ref d_stuck, .ref d_hirers, .ref d_places, .ref d_cameAt, .ref d_cooked, .int d_inside, .int d_night, .int d_minute, .int d_tasted, .int d_lastCook, .int (bB d_stirred)]), (d_yards, kI k 6 d_yardsF)] sz)) 0 0 (va_A [(d, kO 4 [.ref d_yards, .ref d_paces, .ref d_stuck, .ref d_hirers, .ref d_places, .ref d_cameAt, .ref d_cooked, .int d_inside, .int d_night, .int d_minute, .int d_tasted, .int d_lastCook, .int (bB d_stirred)]), (d_yards, kI k 6 d_yardsF)] sz) := by
  refine Met.ofW (cc := cX4_onRoadWithin) (maxL := 5) (ret := (some .int)) (by decide) rfl ?_
  intro p e s m args below meth c s₁ B hml hv
  obtain ⟨hav, hsz, hP, hK, hD0, hE⟩ := hv
  have hx := B.exec
  have hb := B.bytes
  have hr := B.returns
  have hts := atoms_spec (ws := wsX4_onRoadWithin) B.pre
  have hown : s.vm.findClass RX4 = some m.cls := findClass_of_methodNamed B.named
  have hlocks := B.notSynchronized
  have hi4 : ∀ w ∈ u_ws RX4 TX4 13, w ∈ wsX4_onRoadWithin := fun w h9 => List.mem_cons_of_mem _ (List.mem_append_right _ h9)
  have lf9 := hts (.fieldLink RX4 9 "LastCook$Road" "yards" "[I") (List.mem_cons_of_mem _ (List.mem_append_left _ (List.mem_of_getElem? (i := 0) rfl)))
  subst hsz
  have hD := hD0.self (sz := s.heap.size)
  generalize hAe : va_A [(d, kO 4 [.ref d_yards, .ref d_paces, .ref d_stuck, .ref d_hirers, .ref d_places, .ref d_cameAt, .ref d_cooked, .int d_inside, .int d_night, .int d_minute, .int d_tasted, .int d_lastCook, .int (bB d_stirred)]), (d_yards, kI k 6 d_yardsF)] s.heap.size = A at hD ⊢
  have hA : ∀ q : Nat, s.heap.size ≤ q → A q := fun q h => by rw [← hAe]; exact Or.inr h
  have hS : va_S A s.heap s.heap [] := va_S.rf
  have hl := lv_entry ([.ref d, .int (nI gs), .int mo]) (n := 5) (Nat.le_of_ble_eq_true rfl)
  rw [show entryFrame m args 5 = entryFrame m ([.ref d, .int (nI gs), .int mo] : List Value).toArray 5 by rw [hav], lg_entry_eq]
  generalize (lg_sl ([.ref d, .int (nI gs), .int mo]) ++ List.replicate (5 - (lg_sl ([.ref d, .int (nI gs), .int mo])).length) Slot.unset).toArray = ls at hl ⊢
  have hl : lv_has ls 5 [(0, .ref d), (1, .int (nI gs)), (2, .int mo)] := hl
  obtain ⟨R, hR⟩ : ∃ R, R = (headSpec wsX4_onRoadWithin ({ frames := 1, cells := 0, slots := 0, locals := 70 } : Room)).room := ⟨_, rfl⟩
  rw [← hR]
  generalize hQ : MQ below _ args s 0 0 A = Q
  replace hQ := hQ.symm
  obtain ⟨H, hH⟩ : ∃ H, H = s.heap := ⟨_, rfl⟩
  rw [← hH] at hP ⊢
  have hS : va_S A s.heap H [] := by rw [hH]; exact hS
  obtain ⟨E0, hE0⟩ : ∃ E0 : Int32, E0 = (fX4_onRoadWithin gs mo d_yardsF) := ⟨_, rfl⟩
  have hZ : (fX4_onRoadWithin gs mo d_yardsF) = E0 := hE0.symm
  refine lv_iconst (v := 0) hx hb dX4_onRoadWithin_0 (by decide) ?_
  refine lv_istore_n (lv' := [(3, .int 0), (0, .ref d), (1, .int (nI gs)), (2, .int mo)]) hx hb dX4_onRoadWithin_1 rfl hl (by decide) rfl (fun ls hl => ?_)
  exact by
   refine lv_iconst (v := 0) hx hb dX4_onRoadWithin_2 (by decide) ?_
   refine lv_istore (lv' := [(4, .int 0), (3, .int 0), (0, .ref d), (1, .int (nI gs)), (2, .int mo)]) hx hb dX4_onRoadWithin_3 hl (by decide) rfl (fun ls hl => ?_)
   exact by
    have hloop5 : ∀ (nq : Nat) (l3_5 : Int32) (l4_5 : Nat) (H : Heap) (locs : List Loc) (ls : Array Slot), (6 + 1 - l4_5) < nq → (l4_5 ≤ 6) → (lp (fun _ _ => (0 : Int32)) (fX4_onRoadWithin_B5a gs mo d_yardsF) nq l3_5 l4_5 = E0) → va_P D vwCl [(d, kO 4 [.ref d_yards, .ref d_paces, .ref d_stuck, .ref d_hirers, .ref d_places, .ref d_cameAt, .ref d_cooked, .int d_inside, .int d_night, .int d_minute, .int d_tasted, .int d_lastCook, .int (bB d_stirred)]), (d_yards, kI k 6 d_yardsF)] H → va_D A [(d, kO 4 [.ref d_yards, .ref d_paces, .ref d_stuck, .ref d_hirers, .ref d_places, .ref d_cameAt, .ref d_cooked, .int d_inside, .int d_night, .int d_minute, .int d_tasted, .int d_lastCook, .int (bB d_stirred)]), (d_yards, kI k 6 d_yardsF)] → va_S A s.heap H locs → lv_has ls 5 [(0, .ref d), (1, .int (nI gs)), (2, .int mo), (3, .int l3_5), (4, .int (nI l4_5))] → W p l e R s m args below meth c H locs 0 0 Q (F0 m 5 ls []) := by
      intro n5
      induction n5 with
      | zero => intro l3_5 l4_5 H locs ls hm; exact absurd hm (Nat.not_lt_zero _)
      | succ n5 ih5 =>
        intro l3_5 l4_5 H locs ls hm5 i_l4_5 hZ hP hD hS hl
        obtain ⟨rc5_1, hrc5_1⟩ : ∃ r : Int32 → Nat → Int32, r = lp (fun _ _ => (0 : Int32)) (fX4_onRoadWithin_B5a gs mo d_yardsF) n5 := ⟨_, rfl⟩
        have hZ : (fX4_onRoadWithin_B5a gs mo d_yardsF) rc5_1 l3_5 l4_5 = E0 := by rw [hrc5_1]; exact hZ
        refine lv_iload hx hb dX4_onRoadWithin_5 (lv_at hl 4 rfl) ?_
        refine lv_iload_n hx hb dX4_onRoadWithin_7 rfl (lv_at hl 1 rfl) ?_
        refine lv_icmp_ge (tgt := 44) hx hb dX4_onRoadWithin_8 (by decide) (fun c_2 => ?_) (fun c_2 => ?_)
        · exact by
           have k_2 : gs ≤ l4_5 := (nI_leI (a := gs) (b := l4_5) (by omega) (by omega)).mp c_2
           have hZ := (if_pos k_2).symm.trans hZ
           refine lv_iload_n hx hb dX4_onRoadWithin_44 rfl (lv_at hl 3 rfl) ?_
           rw [hQ]
           have hP9 := hP.sub (ws' := [(d, kO 4 [.ref d_yards, .ref d_paces, .ref d_stuck, .ref d_hirers, .ref d_places, .ref d_cameAt, .ref d_cooked, .int d_inside, .int d_night, .int d_minute, .int d_tasted, .int d_lastCook, .int (bB d_stirred)]), (d_yards, kI k 6 d_yardsF)]) [0, 1] rfl
           have hD9 := hD.sub (ws' := [(d, kO 4 [.ref d_yards, .ref d_paces, .ref d_stuck, .ref d_hirers, .ref d_places, .ref d_cameAt, .ref d_cooked, .int d_inside, .int d_night, .int d_minute, .int d_tasted, .int d_lastCook, .int (bB d_stirred)]), (d_yards, kI k 6 d_yardsF)]) [0, 1] (by decide +kernel) rfl
           exact W.iret (v := l3_5) hx hb hr (fun zt ht hW => ⟨⟨l3_5, (), rfl, (hZ.trans hE0), by rw [ht]; exact hP9, hD9⟩, hS.F ht⟩) hS.2.2 dX4_onRoadWithin_45
        · exact by
           have k_2 : ¬ (gs ≤ l4_5) := fun h => c_2 ((nI_leI (a := gs) (b := l4_5) (by omega) (by omega)).mpr h)
           have hZ := (if_neg k_2).symm.trans hZ
           refine lv_aload_n hx hb dX4_onRoadWithin_11 rfl (lv_at hl 0 rfl) ?_
           refine lv_iload hx hb dX4_onRoadWithin_12 (lv_at hl 4 rfl) ?_
           refine kz_Vi (As := [.int (nI l4_5)]) (rest := []) (wc := [(d, kO 4 [.ref d_yards, .ref d_paces, .ref d_stuck, .ref d_hirers, .ref d_places, .ref d_cameAt, .ref d_cooked, .int d_inside, .int d_night, .int d_minute, .int d_tasted, .int d_lastCook, .int (bB d_stirred)]), (d_yards, kI k 6 d_yardsF)]) (wr := []) ⟨hx, hb, hml, hown, hts⟩ hK hE hP hD hS hA (sX4_isOnRoad l D k H.size d (nI l4_5) d_yards d_paces d_stuck d_hirers d_places d_cameAt d_cooked d_inside d_night d_minute d_tasted d_lastCook d_stirred d_yardsF) (cwV 1 hts gX4_onRoadWithin_X4_isOnRoad rfl rfl rfl (by decide +kernel) (by rw [hR]; exact ⟨Nat.le_of_ble_eq_true rfl, Nat.le_of_ble_eq_true rfl⟩)) [0, 1] [] rfl rfl (by decide +kernel) (by decide +kernel) (by decide +kernel) 0 rfl rfl rfl hl.1 rfl (Nat.le_of_ble_eq_true rfl) dX4_onRoadWithin_14 (by rw [hR]; exact ⟨Nat.le_of_ble_eq_true rfl, Nat.le_of_ble_eq_true rfl⟩) (fun r3 u3 H locs hw3 hP hD hS => ?_)
           exact by
            try dsimp only at hw3
            obtain ⟨rfl, hw3⟩ := hw3
            have hP : va_P D vwCl [(d, kO 4 [.ref d_yards, .ref d_paces, .ref d_stuck, .ref d_hirers, .ref d_places, .ref d_cameAt, .ref d_cooked, .int d_inside, .int d_night, .int d_minute, .int d_tasted, .int d_lastCook, .int (bB d_stirred)]), (d_yards, kI k 6 d_yardsF)] H := hP
            have hD : va_D A [(d, kO 4 [.ref d_yards, .ref d_paces, .ref d_stuck, .ref d_hirers, .ref d_places, .ref d_cameAt, .ref d_cooked, .int d_inside, .int d_night, .int d_minute, .int d_tasted, .int d_lastCook, .int (bB d_stirred)]), (d_yards, kI k 6 d_yardsF)] := hD
            obtain ⟨hw3_0, hw3_1⟩ := hw3
            have tq4 : Int32.toInt (nI l4_5) = ((l4_5 : Nat) : Int) := nI_toInt (by omega)
            have hZ := bn1_e hw3_0 hZ
            have hj38_5 : ∀ (l3_38 : Int32) (H : Heap) (locs : List Loc) (ls : Array Slot), ((fX4_onRoadWithin_J38a l4_5 rc5_1) l3_38 = E0) → va_P D vwCl [(d, kO 4 [.ref d_yards, .ref d_paces, .ref d_stuck, .ref d_hirers, .ref d_places, .ref d_cameAt, .ref d_cooked, .int d_inside, .int d_night, .int d_minute, .int d_tasted, .int d_lastCook, .int (bB d_stirred)]), (d_yards, kI k 6 d_yardsF)] H → va_D A [(d, kO 4 [.ref d_yards, .ref d_paces, .ref d_stuck, .ref d_hirers, .ref d_places, .ref d_cameAt, .ref d_cooked, .int d_inside, .int d_night, .int d_minute, .int d_tasted, .int d_lastCook, .int (bB d_stirred)]), (d_yards, kI k 6 d_yardsF)] → va_S A s.heap H locs → lv_has ls 5 [(0, .ref d), (1, .int (nI gs)), (2, .int mo), (3, .int l3_38), (4, .int (nI l4_5))] → W p l e R s m args below meth c H locs 0 0 Q (F0 m 38 ls []) := by
              intro l3_38 H locs ls hZ hP hD hS hl
              refine lv_iinc (v := (nI (l4_5 + 1))) (lv' := [(4, .int (nI (l4_5 + 1))), (0, .ref d), (1, .int (nI gs)), (2, .int mo), (3, .int l3_38)]) hx hb dX4_onRoadWithin_38 hl (k := 4) rfl (nI_1 _) (by decide) rfl (fun ls hl => ?_)
              exact by
               refine lv_goto (tgt := 5) hx hb dX4_onRoadWithin_41 (by decide) ?_
               exact ih5 l3_38 (l4_5 + 1) _ _ _ (by omega) (by first | omega | assumption) (by rw [← hrc5_1]; exact hZ) (hP.sub [0, 1] rfl) (hD.sub [0, 1] (by decide +kernel) rfl) hS (lv_sub hl [1, 2, 3, 4, 0] rfl)
            refine lv_if_eq (tgt := 38) hx hb dX4_onRoadWithin_17 (by decide) (fun c_6 => ?_) (fun c_6 => ?_)
            · exact by
               have b_6 : u3 = false := bB_0 c_6
               have hZ := (if_neg (bF b_6)).symm.trans hZ
               exact hj38_5 l3_5 _ _ _ hZ (hP.sub [0, 1] rfl) (hD.sub [0, 1] (by decide +kernel) rfl) hS (lv_sub hl [0, 1, 2, 3, 4] rfl)
            · exact by
               have b_6 : u3 = true := bB_1 c_6
               have zf_6 := hw3_1 b_6
               have hZ := (if_pos b_6).symm.trans hZ
               refine lv_aload_n hx hb dX4_onRoadWithin_20 rfl (lv_at hl 0 rfl) ?_
               refine va_get (D := D) (ci := 4) (v := .ref d_yards) (C := RX4) (T := TX4) (N := 13) hx hb hts hi4 hown hK hP 0 rfl rfl 0 (by decide) lf9 (fun _ h9 => h9) rfl dX4_onRoadWithin_21 ?_
               refine lv_iload hx hb dX4_onRoadWithin_24 (lv_at hl 4 rfl) ?_
               refine va_iald hx hb hK hP 1 0 rfl rfl (vp_in_nI (n := l4_5) (by omega) (by omega)) dX4_onRoadWithin_26 ?_
               refine lv_iload_n hx hb dX4_onRoadWithin_27 rfl (lv_at hl 2 rfl) ?_
               refine lv_icmp_gt (tgt := 38) hx hb dX4_onRoadWithin_28 (by decide) (fun c_7 => ?_) (fun c_7 => ?_)
               · exact by
                  have t_7 : (Int32.toInt mo) < (Int32.toInt (d_yardsF (Int32.toNatClampNeg (nI l4_5)))) := tI_lt rfl rfl c_7
                  have hZ := (if_pos c_7).symm.trans hZ
                  exact hj38_5 l3_5 _ _ _ hZ (hP.sub [0, 1] rfl) (hD.sub [0, 1] (by decide +kernel) rfl) hS (lv_sub hl [0, 1, 2, 3, 4] rfl)
               · exact by
                  have t_7 : (Int32.toInt mo) ≥ (Int32.toInt (d_yardsF (Int32.toNatClampNeg (nI l4_5)))) := tI_nlt rfl rfl c_7
                  have hZ := (if_neg c_7).symm.trans hZ
                  refine lv_iload_n hx hb dX4_onRoadWithin_31 rfl (lv_at hl 3 rfl) ?_
                  refine lv_iconst (v := 1) hx hb dX4_onRoadWithin_32 (by decide) ?_
                  refine lv_iload hx hb dX4_onRoadWithin_33 (lv_at hl 4 rfl) ?_
                  refine lv_ishl hx hb dX4_onRoadWithin_35 ?_
                  refine lv_ior hx hb dX4_onRoadWithin_36 ?_
                  refine lv_istore_n (lv' := [(3, .int (l3_5 ||| (1 <<< ((nI l4_5) &&& 31)))), (0, .ref d), (1, .int (nI gs)), (2, .int mo), (4, .int (nI l4_5))]) hx hb dX4_onRoadWithin_37 rfl hl (by decide) rfl (fun ls hl => ?_)
                  exact by
                   exact hj38_5 (l3_5 ||| (1 <<< ((nI l4_5) &&& 31))) _ _ _ hZ (hP.sub [0, 1] rfl) (hD.sub [0, 1] (by decide +kernel) rfl) hS (lv_sub hl [1, 2, 3, 0, 4] rfl)
    exact hloop5 ((6 + 1 - 0) + 1) (0 : Int32) 0 _ _ _ (Nat.lt_succ_self _) (by first | omega | assumption) hZ (hP.sub [0, 1] rfl) (hD.sub [0, 1] (by decide +kernel) rfl) hS (lv_sub hl [2, 3, 4, 1, 0] rfl)
theorem dX4_loseWheel_0 : decode cX4_loseWheel 0 = .ok (.aload_n 0, 1) := dk_aload_n_0 (by decide +kernel)
theorem dX4_loseWheel_1 : decode cX4_loseWheel 1 = .ok (.iload_n 1, 1) := dk_iload_n_1 (by decide +kernel)
theorem dX4_loseWheel_2 : decode cX4_loseWheel 2 = .ok (.invokevirtual 66, 3) := dk_invokevirtual (by decide +kernel)
theorem dX4_loseWheel_5 : decode cX4_loseWheel 5 = .ok (.ifCond .ne 5, 3) := dk_ifCond_ne (by decide +kernel)
theorem dX4_loseWheel_8 : decode cX4_loseWheel 8 = .ok (.iconst 0, 1) := dk_iconst_0 (by decide +kernel)
theorem dX4_loseWheel_9 : decode cX4_loseWheel 9 = .ok (.ireturn, 1) := dk_ireturn (by decide +kernel)
theorem dX4_loseWheel_10 : decode cX4_loseWheel 10 = .ok (.aload_n 0, 1) := dk_aload_n_0 (by decide +kernel)
theorem dX4_loseWheel_11 : decode cX4_loseWheel 11 = .ok (.getfield 18, 3) := dk_getfield (by decide +kernel)
theorem dX4_loseWheel_14 : decode cX4_loseWheel 14 = .ok (.iload_n 1, 1) := dk_iload_n_1 (by decide +kernel)
theorem dX4_loseWheel_15 : decode cX4_loseWheel 15 = .ok (.bipush 60, 2) := dk_bipush (by decide +kernel)
theorem dX4_loseWheel_17 : decode cX4_loseWheel 17 = .ok (.aload_n 0, 1) := dk_aload_n_0 (by decide +kernel)
theorem dX4_loseWheel_18 : decode cX4_loseWheel 18 = .ok (.getfield 18, 3) := dk_getfield (by decide +kernel)
theorem dX4_loseWheel_21 : decode cX4_loseWheel 21 = .ok (.iload_n 1, 1) := dk_iload_n_1 (by decide +kernel)
theorem dX4_loseWheel_22 : decode cX4_loseWheel 22 = .ok (.iaload, 1) := dk_iaload (by decide +kernel)
theorem dX4_loseWheel_23 : decode cX4_loseWheel 23 = .ok (.iload_n 2, 1) := dk_iload_n_2 (by decide +kernel)
theorem dX4_loseWheel_24 : decode cX4_loseWheel 24 = .ok (.iadd, 1) := dk_iadd (by decide +kernel)
theorem dX4_loseWheel_25 : decode cX4_loseWheel 25 = .ok (.invokestatic 70, 3) := dk_invokestatic (by decide +kernel)
theorem dX4_loseWheel_28 : decode cX4_loseWheel 28 = .ok (.iastore, 1) := dk_iastore (by decide +kernel)
theorem dX4_loseWheel_29 : decode cX4_loseWheel 29 = .ok (.iconst 1, 1) := dk_iconst_1 (by decide +kernel)
theorem dX4_loseWheel_30 : decode cX4_loseWheel 30 = .ok (.ireturn, 1) := dk_ireturn (by decide +kernel)
set_option maxRecDepth 20000 in
theorem ggX4_loseWheel_X4_isOnRoad : GoodIn wsX4_loseWheel wsX4_isOnRoad := goodIn_sub (sub_cons (List.mem_cons_of_mem _ (List.mem_append_left _ (List.mem_of_getElem? (i := 9) rfl))) (sub_app (sub_cons (List.mem_cons_of_mem _ (List.mem_append_left _ (List.mem_of_getElem? (i := 10) rfl))) sub_nil) (fun w h9 => (List.mem_cons_of_mem _ (List.mem_append_right _ h9))))) gw_X4_isOnRoad
set_option maxRecDepth 20000 in
theorem gX4_loseWheel_X4_isOnRoad : GoodIn wsX4_loseWheel (wsV RX4 66 RX4 yX4_isOnRoad wsX4_isOnRoad) := goodIn_app (goodIn_sub (sub_cons (List.mem_cons_of_mem _ (List.mem_append_left _ (List.mem_of_getElem? (i := 5) rfl))) (sub_cons (List.mem_cons_of_mem _ (List.mem_append_left _ (List.mem_of_getElem? (i := 6) rfl))) (sub_cons (List.mem_cons_of_mem _ (List.mem_append_left _ (List.mem_of_getElem? (i := 7) rfl))) (sub_cons (List.mem_cons_of_mem _ (List.mem_append_left _ (List.mem_of_getElem? (i := 8) rfl))) sub_nil)))) (by decide +kernel)) ggX4_loseWheel_X4_isOnRoad
set_option maxHeartbeats 4000000 in
set_option maxRecDepth 100000 in
theorem sX4_loseWheel (l : Launch) (D : va_G) (k : Nat → ClassId) (sz : Nat) (d : Nat) (g : Int32) (mi : Int32) (d_yards : Nat) (d_paces : Nat) (d_stuck : Nat) (d_hirers : Nat) (d_places : Nat) (d_cameAt : Nat) (d_cooked : Nat) (d_inside : Int32) (d_night : Int32) (d_minute : Int32) (d_tasted : Int32) (d_lastCook : Int32) (d_stirred : Bool) (d_yardsF : Nat → Int32) (d_stuckF : Nat → Int32) : Met l yX4_loseWheel wsX4_loseWheel ({ frames := 1, cells := 0, slots := 0, locals := 70 }) (va_Pc [.ref d, .int g, .int mi] (kz_Pre D k [(d, kO 4 [.ref d_yards, .ref d_paces, .ref d_stuck, .ref d_hirers, .ref d_places, .ref d_cameAt, .ref d_cooked, .int d_inside, .int d_night, .int d_minute, .int d_tasted, .int d_lastCook, .int (bB d_stirred)]), (d_yards, kI k 6 d_yardsF), (d_stuck, kI k 6 d_stuckF)] sz)) (va_Qi (fun (rr : Int32) (uu : (Nat → Int32) × Bool) => rr = bB uu.2 ∧ ((uu.1, uu.2) = (fX4_loseWheel g mi d_yardsF d_stuckF))) (fun uu zt => kz_B D (va_A [(d, kO 4 [.ref d_yards, .ref d_paces, .ref d_stuck, .ref d_hirers, .ref d_places, .ref d_cameAt, .ref d_cooked, .int d_inside, .int d_night, .int d_minute, .int d_tasted, .int d_lastCook, .int (bB d_stirred)]), (d_yards, kI k 6 d_yardsF), (d_stuck, kI k 6 d_stuckF)] sz) [(d, kO 4 [.ref d_yards, .ref d_paces, .ref d_stuck, .ref d_hirers, .ref d_places, .ref d_cameAt, .ref d_cooked, .int d_inside, .int d_night, .int d_minute, .int d_tasted, .int d_lastCook, .int (bB d_stirred)]), (d_yards, kI k 6 d_yardsF), (d_stuck, kI k 6 uu.1)] zt) (va_A [(d, kO 4 [.ref d_yards, .ref d_paces, .ref d_stuck, .ref d_hirers, .ref d_places, .ref d_cameAt, .ref d_cooked, .int d_inside, .int d_night, .int d_minute, .int d_tasted, .int d_lastCook, .int (bB d_stirred)]), (d_yards, kI k 6 d_yardsF), (d_stuck, kI k 6 d_stuckF)] sz)) 0 0 (va_A [(d, kO 4 [.ref d_yards, .ref d_paces, .ref d_stuck, .ref d_hirers, .ref d_places, .ref d_cameAt, .ref d_cooked, .int d_inside, .int d_night, .int d_minute, .int d_tasted, .int d_lastCook, .int (bB d_stirred)]), (d_yards, kI k 6 d_yardsF), (d_stuck, kI k 6 d_stuckF)] sz) := by
  refine Met.ofW (cc := cX4_loseWheel) (maxL := 3) (ret := (some .boolean)) (by decide) rfl ?_
  intro p e s m args below meth c s₁ B hml hv
  obtain ⟨hav, hsz, hP, hK, hD0, hE⟩ := hv
  have hx := B.exec
  have hb := B.bytes
  have hr := B.returns
  have hts := atoms_spec (ws := wsX4_loseWheel) B.pre
  have hown : s.vm.findClass RX4 = some m.cls := findClass_of_methodNamed B.named
  have hlocks := B.notSynchronized
  have hi4 : ∀ w ∈ u_ws RX4 TX4 13, w ∈ wsX4_loseWheel := fun w h9 => List.mem_cons_of_mem _ (List.mem_append_right _ h9)
  have lf18 := hts (.fieldLink RX4 18 "LastCook$Road" "stuck" "[I") (List.mem_cons_of_mem _ (List.mem_append_left _ (List.mem_of_getElem? (i := 0) rfl)))
  have lm70 := hts (.methodLink RX4 70 Lib.Math.min.name) (List.mem_cons_of_mem _ (List.mem_append_left _ (List.mem_of_getElem? (i := 1) rfl)))
  have lmtmin := hts (.static Lib.Math.min.name) (List.mem_cons_of_mem _ (List.mem_append_left _ (List.mem_of_getElem? (i := 2) rfl)))
  have lim := hts (.initialized "java/lang/Math") (List.mem_cons_of_mem _ (List.mem_append_left _ (List.mem_of_getElem? (i := 3) rfl)))
  have lmcmin := hts (.code Lib.Math.min.name Lib.Math.min.code 2 (some .int)) (List.mem_cons_of_mem _ (List.mem_append_left _ (List.mem_of_getElem? (i := 4) rfl)))
  subst hsz
  have hD := hD0.self (sz := s.heap.size)
  generalize hAe : va_A [(d, kO 4 [.ref d_yards, .ref d_paces, .ref d_stuck, .ref d_hirers, .ref d_places, .ref d_cameAt, .ref d_cooked, .int d_inside, .int d_night, .int d_minute, .int d_tasted, .int d_lastCook, .int (bB d_stirred)]), (d_yards, kI k 6 d_yardsF), (d_stuck, kI k 6 d_stuckF)] s.heap.size = A at hD ⊢
  have hA : ∀ q : Nat, s.heap.size ≤ q → A q := fun q h => by rw [← hAe]; exact Or.inr h
  have hS : va_S A s.heap s.heap [] := va_S.rf
  have hl := lv_entry ([.ref d, .int g, .int mi]) (n := 3) (Nat.le_of_ble_eq_true rfl)
  rw [show entryFrame m args 3 = entryFrame m ([.ref d, .int g, .int mi] : List Value).toArray 3 by rw [hav], lg_entry_eq]
  generalize (lg_sl ([.ref d, .int g, .int mi]) ++ List.replicate (3 - (lg_sl ([.ref d, .int g, .int mi])).length) Slot.unset).toArray = ls at hl ⊢
  have hl : lv_has ls 3 [(0, .ref d), (1, .int g), (2, .int mi)] := hl
  obtain ⟨R, hR⟩ : ∃ R, R = (headSpec wsX4_loseWheel ({ frames := 1, cells := 0, slots := 0, locals := 70 } : Room)).room := ⟨_, rfl⟩
  rw [← hR]
  generalize hQ : MQ below _ args s 0 0 A = Q
  replace hQ := hQ.symm
  obtain ⟨H, hH⟩ : ∃ H, H = s.heap := ⟨_, rfl⟩
  rw [← hH] at hP ⊢
  have hS : va_S A s.heap H [] := by rw [hH]; exact hS
  obtain ⟨E0, hE0⟩ : ∃ E0 : (Nat → Int32) × Bool, E0 = (fX4_loseWheel g mi d_yardsF d_stuckF) := ⟨_, rfl⟩
  have hZ : (fX4_loseWheel g mi d_yardsF d_stuckF) = E0 := hE0.symm
  refine lv_aload_n hx hb dX4_loseWheel_0 rfl (lv_at hl 0 rfl) ?_
  refine lv_iload_n hx hb dX4_loseWheel_1 rfl (lv_at hl 1 rfl) ?_
  refine kz_Vi (As := [.int g]) (rest := []) (wc := [(d, kO 4 [.ref d_yards, .ref d_paces, .ref d_stuck, .ref d_hirers, .ref d_places, .ref d_cameAt, .ref d_cooked, .int d_inside, .int d_night, .int d_minute, .int d_tasted, .int d_lastCook, .int (bB d_stirred)]), (d_yards, kI k 6 d_yardsF)]) (wr := [(d_stuck, kI k 6 d_stuckF)]) ⟨hx, hb, hml, hown, hts⟩ hK hE hP hD hS hA (sX4_isOnRoad l D k H.size d g d_yards d_paces d_stuck d_hirers d_places d_cameAt d_cooked d_inside d_night d_minute d_tasted d_lastCook d_stirred d_yardsF) (cwV 1 hts gX4_loseWheel_X4_isOnRoad rfl rfl rfl (by decide +kernel) (by rw [hR]; exact ⟨Nat.le_of_ble_eq_true rfl, Nat.le_of_ble_eq_true rfl⟩)) [0, 1] [2] rfl rfl (by decide +kernel) (by decide +kernel) (by decide +kernel) 0 rfl rfl rfl hl.1 rfl (Nat.le_of_ble_eq_true rfl) dX4_loseWheel_2 (by rw [hR]; exact ⟨Nat.le_of_ble_eq_true rfl, Nat.le_of_ble_eq_true rfl⟩) (fun r1 u1 H locs hw1 hP hD hS => ?_)
  exact by
   try dsimp only at hw1
   obtain ⟨rfl, hw1⟩ := hw1
   have hP : va_P D vwCl [(d_stuck, kI k 6 d_stuckF), (d, kO 4 [.ref d_yards, .ref d_paces, .ref d_stuck, .ref d_hirers, .ref d_places, .ref d_cameAt, .ref d_cooked, .int d_inside, .int d_night, .int d_minute, .int d_tasted, .int d_lastCook, .int (bB d_stirred)]), (d_yards, kI k 6 d_yardsF)] H := hP
   have hD : va_D A [(d_stuck, kI k 6 d_stuckF), (d, kO 4 [.ref d_yards, .ref d_paces, .ref d_stuck, .ref d_hirers, .ref d_places, .ref d_cameAt, .ref d_cooked, .int d_inside, .int d_night, .int d_minute, .int d_tasted, .int d_lastCook, .int (bB d_stirred)]), (d_yards, kI k 6 d_yardsF)] := hD
   obtain ⟨hw1_0, hw1_1⟩ := hw1
   have hZ := bn1_e hw1_0 hZ
   refine lv_if_ne (tgt := 10) hx hb dX4_loseWheel_5 (by decide) (fun c_2 => ?_) (fun c_2 => ?_)
   · exact by
      have b_2 : u1 = true := bB_1 c_2
      have zf_2 := hw1_1 b_2
      have hZ := (if_pos b_2).symm.trans hZ
      refine lv_aload_n hx hb dX4_loseWheel_10 rfl (lv_at hl 0 rfl) ?_
      refine va_get (D := D) (ci := 4) (v := .ref d_stuck) (C := RX4) (T := TX4) (N := 13) hx hb hts hi4 hown hK hP 1 rfl rfl 2 (by decide) lf18 (fun _ h9 => h9) rfl dX4_loseWheel_11 ?_
      refine lv_iload_n hx hb dX4_loseWheel_14 rfl (lv_at hl 1 rfl) ?_
      refine lv_bipush (v := 60) hx hb dX4_loseWheel_15 (by decide) ?_
      refine lv_aload_n hx hb dX4_loseWheel_17 rfl (lv_at hl 0 rfl) ?_
      refine va_get (D := D) (ci := 4) (v := .ref d_stuck) (C := RX4) (T := TX4) (N := 13) hx hb hts hi4 hown hK hP 1 rfl rfl 2 (by decide) lf18 (fun _ h9 => h9) rfl dX4_loseWheel_18 ?_
      refine lv_iload_n hx hb dX4_loseWheel_21 rfl (lv_at hl 1 rfl) ?_
      refine va_iald hx hb hK hP 0 0 rfl rfl (vp_in_iff.mpr (by omega)) dX4_loseWheel_22 ?_
      refine lv_iload_n hx hb dX4_loseWheel_23 rfl (lv_at hl 2 rfl) ?_
      refine lv_iadd hx hb dX4_loseWheel_24 ?_
      refine va_mmin hx hb (hml.trans hl.1.symm) hown lm70 lmtmin lim lmcmin (by rw [hR]; exact Nat.le_of_ble_eq_true rfl) (by rw [hR]; exact Nat.le_of_ble_eq_true rfl) (by first | omega | (rw [hR]; exact Nat.le_of_ble_eq_true rfl)) (by first | omega | (rw [hR]; exact Nat.le_of_ble_eq_true rfl)) dX4_loseWheel_25 ?_
      refine va_iast hx hb hK hP hD hS 0 0 rfl rfl (vp_in_iff.mpr (by omega)) dX4_loseWheel_28 (fun H locs hP hD hS => ?_)
      exact by
       have hP : va_P D vwCl [(d_stuck, kI k 6 (upd d_stuckF (Int32.toNatClampNeg g) (if ((d_stuckF (Int32.toNatClampNeg g)) + mi) < 60 then ((d_stuckF (Int32.toNatClampNeg g)) + mi) else 60))), (d, kO 4 [.ref d_yards, .ref d_paces, .ref d_stuck, .ref d_hirers, .ref d_places, .ref d_cameAt, .ref d_cooked, .int d_inside, .int d_night, .int d_minute, .int d_tasted, .int d_lastCook, .int (bB d_stirred)]), (d_yards, kI k 6 d_yardsF)] H := hP
       have hD : va_D A [(d_stuck, kI k 6 (upd d_stuckF (Int32.toNatClampNeg g) (if ((d_stuckF (Int32.toNatClampNeg g)) + mi) < 60 then ((d_stuckF (Int32.toNatClampNeg g)) + mi) else 60))), (d, kO 4 [.ref d_yards, .ref d_paces, .ref d_stuck, .ref d_hirers, .ref d_places, .ref d_cameAt, .ref d_cooked, .int d_inside, .int d_night, .int d_minute, .int d_tasted, .int d_lastCook, .int (bB d_stirred)]), (d_yards, kI k 6 d_yardsF)] := hD
       refine lv_iconst (v := 1) hx hb dX4_loseWheel_29 (by decide) ?_
       rw [hQ]
       have hP9 := hP.sub (ws' := [(d, kO 4 [.ref d_yards, .ref d_paces, .ref d_stuck, .ref d_hirers, .ref d_places, .ref d_cameAt, .ref d_cooked, .int d_inside, .int d_night, .int d_minute, .int d_tasted, .int d_lastCook, .int (bB d_stirred)]), (d_yards, kI k 6 d_yardsF), (d_stuck, kI k 6 (upd d_stuckF (Int32.toNatClampNeg g) (if ((d_stuckF (Int32.toNatClampNeg g)) + mi) < 60 then ((d_stuckF (Int32.toNatClampNeg g)) + mi) else 60)))]) [1, 2, 0] rfl
       have hD9 := hD.sub (ws' := [(d, kO 4 [.ref d_yards, .ref d_paces, .ref d_stuck, .ref d_hirers, .ref d_places, .ref d_cameAt, .ref d_cooked, .int d_inside, .int d_night, .int d_minute, .int d_tasted, .int d_lastCook, .int (bB d_stirred)]), (d_yards, kI k 6 d_yardsF), (d_stuck, kI k 6 (upd d_stuckF (Int32.toNatClampNeg g) (if ((d_stuckF (Int32.toNatClampNeg g)) + mi) < 60 then ((d_stuckF (Int32.toNatClampNeg g)) + mi) else 60)))]) [1, 2, 0] (by decide +kernel) rfl
       exact W.zret (v := 1) hx hb hr rfl (fun zt ht hW => ⟨⟨1, ⟨(upd d_stuckF (Int32.toNatClampNeg g) (if ((d_stuckF (Int32.toNatClampNeg g)) + mi) < 60 then ((d_stuckF (Int32.toNatClampNeg g)) + mi) else 60)), true⟩, rfl, ⟨rfl, (hZ.trans hE0)⟩, by rw [ht]; exact hP9, hD9⟩, hS.F ht⟩) hS.2.2 dX4_loseWheel_30
   · exact by
      have b_2 : u1 = false := bB_0 c_2
      have hZ := (if_neg (bF b_2)).symm.trans hZ
      refine lv_iconst (v := 0) hx hb dX4_loseWheel_8 (by decide) ?_
      rw [hQ]
      have hP9 := hP.sub (ws' := [(d, kO 4 [.ref d_yards, .ref d_paces, .ref d_stuck, .ref d_hirers, .ref d_places, .ref d_cameAt, .ref d_cooked, .int d_inside, .int d_night, .int d_minute, .int d_tasted, .int d_lastCook, .int (bB d_stirred)]), (d_yards, kI k 6 d_yardsF), (d_stuck, kI k 6 d_stuckF)]) [1, 2, 0] rfl
      have hD9 := hD.sub (ws' := [(d, kO 4 [.ref d_yards, .ref d_paces, .ref d_stuck, .ref d_hirers, .ref d_places, .ref d_cameAt, .ref d_cooked, .int d_inside, .int d_night, .int d_minute, .int d_tasted, .int d_lastCook, .int (bB d_stirred)]), (d_yards, kI k 6 d_yardsF), (d_stuck, kI k 6 d_stuckF)]) [1, 2, 0] (by decide +kernel) rfl
      exact W.zret (v := 0) hx hb hr rfl (fun zt ht hW => ⟨⟨0, ⟨d_stuckF, false⟩, rfl, ⟨rfl, (hZ.trans hE0)⟩, by rw [ht]; exact hP9, hD9⟩, hS.F ht⟩) hS.2.2 dX4_loseWheel_9
theorem dX4_quicken_0 : decode cX4_quicken 0 = .ok (.aload_n 0, 1) := dk_aload_n_0 (by decide +kernel)
theorem dX4_quicken_1 : decode cX4_quicken 1 = .ok (.iload_n 1, 1) := dk_iload_n_1 (by decide +kernel)
theorem dX4_quicken_2 : decode cX4_quicken 2 = .ok (.invokevirtual 66, 3) := dk_invokevirtual (by decide +kernel)
theorem dX4_quicken_5 : decode cX4_quicken 5 = .ok (.ifCond .ne 5, 3) := dk_ifCond_ne (by decide +kernel)
theorem dX4_quicken_8 : decode cX4_quicken 8 = .ok (.iconst 0, 1) := dk_iconst_0 (by decide +kernel)
theorem dX4_quicken_9 : decode cX4_quicken 9 = .ok (.ireturn, 1) := dk_ireturn (by decide +kernel)
theorem dX4_quicken_10 : decode cX4_quicken 10 = .ok (.aload_n 0, 1) := dk_aload_n_0 (by decide +kernel)
theorem dX4_quicken_11 : decode cX4_quicken 11 = .ok (.getfield 15, 3) := dk_getfield (by decide +kernel)
theorem dX4_quicken_14 : decode cX4_quicken 14 = .ok (.iload_n 1, 1) := dk_iload_n_1 (by decide +kernel)
theorem dX4_quicken_15 : decode cX4_quicken 15 = .ok (.bipush 40, 2) := dk_bipush (by decide +kernel)
theorem dX4_quicken_17 : decode cX4_quicken 17 = .ok (.aload_n 0, 1) := dk_aload_n_0 (by decide +kernel)
theorem dX4_quicken_18 : decode cX4_quicken 18 = .ok (.getfield 15, 3) := dk_getfield (by decide +kernel)
theorem dX4_quicken_21 : decode cX4_quicken 21 = .ok (.iload_n 1, 1) := dk_iload_n_1 (by decide +kernel)
theorem dX4_quicken_22 : decode cX4_quicken 22 = .ok (.iaload, 1) := dk_iaload (by decide +kernel)
theorem dX4_quicken_23 : decode cX4_quicken 23 = .ok (.iload_n 2, 1) := dk_iload_n_2 (by decide +kernel)
theorem dX4_quicken_24 : decode cX4_quicken 24 = .ok (.iadd, 1) := dk_iadd (by decide +kernel)
theorem dX4_quicken_25 : decode cX4_quicken 25 = .ok (.invokestatic 70, 3) := dk_invokestatic (by decide +kernel)
theorem dX4_quicken_28 : decode cX4_quicken 28 = .ok (.iastore, 1) := dk_iastore (by decide +kernel)
theorem dX4_quicken_29 : decode cX4_quicken 29 = .ok (.iconst 1, 1) := dk_iconst_1 (by decide +kernel)
theorem dX4_quicken_30 : decode cX4_quicken 30 = .ok (.ireturn, 1) := dk_ireturn (by decide +kernel)
set_option maxRecDepth 20000 in
theorem ggX4_quicken_X4_isOnRoad : GoodIn wsX4_quicken wsX4_isOnRoad := goodIn_sub (sub_cons (List.mem_cons_of_mem _ (List.mem_append_left _ (List.mem_of_getElem? (i := 9) rfl))) (sub_app (sub_cons (List.mem_cons_of_mem _ (List.mem_append_left _ (List.mem_of_getElem? (i := 10) rfl))) sub_nil) (fun w h9 => (List.mem_cons_of_mem _ (List.mem_append_right _ h9))))) gw_X4_isOnRoad
set_option maxRecDepth 20000 in
theorem gX4_quicken_X4_isOnRoad : GoodIn wsX4_quicken (wsV RX4 66 RX4 yX4_isOnRoad wsX4_isOnRoad) := goodIn_app (goodIn_sub (sub_cons (List.mem_cons_of_mem _ (List.mem_append_left _ (List.mem_of_getElem? (i := 5) rfl))) (sub_cons (List.mem_cons_of_mem _ (List.mem_append_left _ (List.mem_of_getElem? (i := 6) rfl))) (sub_cons (List.mem_cons_of_mem _ (List.mem_append_left _ (List.mem_of_getElem? (i := 7) rfl))) (sub_cons (List.mem_cons_of_mem _ (List.mem_append_left _ (List.mem_of_getElem? (i := 8) rfl))) sub_nil)))) (by decide +kernel)) ggX4_quicken_X4_isOnRoad
set_option maxHeartbeats 4000000 in
set_option maxRecDepth 100000 in
theorem sX4_quicken (l : Launch) (D : va_G) (k : Nat → ClassId) (sz : Nat) (d : Nat) (g : Int32) (mi : Int32) (d_yards : Nat) (d_paces : Nat) (d_stuck : Nat) (d_hirers : Nat) (d_places : Nat) (d_cameAt : Nat) (d_cooked : Nat) (d_inside : Int32) (d_night : Int32) (d_minute : Int32) (d_tasted : Int32) (d_lastCook : Int32) (d_stirred : Bool) (d_yardsF : Nat → Int32) (d_pacesF : Nat → Int32) : Met l yX4_quicken wsX4_quicken ({ frames := 1, cells := 0, slots := 0, locals := 70 }) (va_Pc [.ref d, .int g, .int mi] (kz_Pre D k [(d, kO 4 [.ref d_yards, .ref d_paces, .ref d_stuck, .ref d_hirers, .ref d_places, .ref d_cameAt, .ref d_cooked, .int d_inside, .int d_night, .int d_minute, .int d_tasted, .int d_lastCook, .int (bB d_stirred)]), (d_yards, kI k 6 d_yardsF), (d_paces, kI k 6 d_pacesF)] sz)) (va_Qi (fun (rr : Int32) (uu : (Nat → Int32) × Bool) => rr = bB uu.2 ∧ ((uu.1, uu.2) = (fX4_quicken g mi d_yardsF d_pacesF))) (fun uu zt => kz_B D (va_A [(d, kO 4 [.ref d_yards, .ref d_paces, .ref d_stuck, .ref d_hirers, .ref d_places, .ref d_cameAt, .ref d_cooked, .int d_inside, .int d_night, .int d_minute, .int d_tasted, .int d_lastCook, .int (bB d_stirred)]), (d_yards, kI k 6 d_yardsF), (d_paces, kI k 6 d_pacesF)] sz) [(d, kO 4 [.ref d_yards, .ref d_paces, .ref d_stuck, .ref d_hirers, .ref d_places, .ref d_cameAt, .ref d_cooked, .int d_inside, .int d_night, .int d_minute, .int d_tasted, .int d_lastCook, .int (bB d_stirred)]), (d_yards, kI k 6 d_yardsF), (d_paces, kI k 6 uu.1)] zt) (va_A [(d, kO 4 [.ref d_yards, .ref d_paces, .ref d_stuck, .ref d_hirers, .ref d_places, .ref d_cameAt, .ref d_cooked, .int d_inside, .int d_night, .int d_minute, .int d_tasted, .int d_lastCook, .int (bB d_stirred)]), (d_yards, kI k 6 d_yardsF), (d_paces, kI k 6 d_pacesF)] sz)) 0 0 (va_A [(d, kO 4 [.ref d_yards, .ref d_paces, .ref d_stuck, .ref d_hirers, .ref d_places, .ref d_cameAt, .ref d_cooked, .int d_inside, .int d_night, .int d_minute, .int d_tasted, .int d_lastCook, .int (bB d_stirred)]), (d_yards, kI k 6 d_yardsF), (d_paces, kI k 6 d_pacesF)] sz) := by
  refine Met.ofW (cc := cX4_quicken) (maxL := 3) (ret := (some .boolean)) (by decide) rfl ?_
  intro p e s m args below meth c s₁ B hml hv
  obtain ⟨hav, hsz, hP, hK, hD0, hE⟩ := hv
  have hx := B.exec
  have hb := B.bytes
  have hr := B.returns
  have hts := atoms_spec (ws := wsX4_quicken) B.pre
  have hown : s.vm.findClass RX4 = some m.cls := findClass_of_methodNamed B.named
  have hlocks := B.notSynchronized
  have hi4 : ∀ w ∈ u_ws RX4 TX4 13, w ∈ wsX4_quicken := fun w h9 => List.mem_cons_of_mem _ (List.mem_append_right _ h9)
  have lf15 := hts (.fieldLink RX4 15 "LastCook$Road" "paces" "[I") (List.mem_cons_of_mem _ (List.mem_append_left _ (List.mem_of_getElem? (i := 0) rfl)))
  have lm70 := hts (.methodLink RX4 70 Lib.Math.min.name) (List.mem_cons_of_mem _ (List.mem_append_left _ (List.mem_of_getElem? (i := 1) rfl)))
  have lmtmin := hts (.static Lib.Math.min.name) (List.mem_cons_of_mem _ (List.mem_append_left _ (List.mem_of_getElem? (i := 2) rfl)))
  have lim := hts (.initialized "java/lang/Math") (List.mem_cons_of_mem _ (List.mem_append_left _ (List.mem_of_getElem? (i := 3) rfl)))
  have lmcmin := hts (.code Lib.Math.min.name Lib.Math.min.code 2 (some .int)) (List.mem_cons_of_mem _ (List.mem_append_left _ (List.mem_of_getElem? (i := 4) rfl)))
  subst hsz
  have hD := hD0.self (sz := s.heap.size)
  generalize hAe : va_A [(d, kO 4 [.ref d_yards, .ref d_paces, .ref d_stuck, .ref d_hirers, .ref d_places, .ref d_cameAt, .ref d_cooked, .int d_inside, .int d_night, .int d_minute, .int d_tasted, .int d_lastCook, .int (bB d_stirred)]), (d_yards, kI k 6 d_yardsF), (d_paces, kI k 6 d_pacesF)] s.heap.size = A at hD ⊢
  have hA : ∀ q : Nat, s.heap.size ≤ q → A q := fun q h => by rw [← hAe]; exact Or.inr h
  have hS : va_S A s.heap s.heap [] := va_S.rf
  have hl := lv_entry ([.ref d, .int g, .int mi]) (n := 3) (Nat.le_of_ble_eq_true rfl)
  rw [show entryFrame m args 3 = entryFrame m ([.ref d, .int g, .int mi] : List Value).toArray 3 by rw [hav], lg_entry_eq]
  generalize (lg_sl ([.ref d, .int g, .int mi]) ++ List.replicate (3 - (lg_sl ([.ref d, .int g, .int mi])).length) Slot.unset).toArray = ls at hl ⊢
  have hl : lv_has ls 3 [(0, .ref d), (1, .int g), (2, .int mi)] := hl
  obtain ⟨R, hR⟩ : ∃ R, R = (headSpec wsX4_quicken ({ frames := 1, cells := 0, slots := 0, locals := 70 } : Room)).room := ⟨_, rfl⟩
  rw [← hR]
  generalize hQ : MQ below _ args s 0 0 A = Q
  replace hQ := hQ.symm
  obtain ⟨H, hH⟩ : ∃ H, H = s.heap := ⟨_, rfl⟩
  rw [← hH] at hP ⊢
  have hS : va_S A s.heap H [] := by rw [hH]; exact hS
  obtain ⟨E0, hE0⟩ : ∃ E0 : (Nat → Int32) × Bool, E0 = (fX4_quicken g mi d_yardsF d_pacesF) := ⟨_, rfl⟩
  have hZ : (fX4_quicken g mi d_yardsF d_pacesF) = E0 := hE0.symm
  refine lv_aload_n hx hb dX4_quicken_0 rfl (lv_at hl 0 rfl) ?_
  refine lv_iload_n hx hb dX4_quicken_1 rfl (lv_at hl 1 rfl) ?_
  refine kz_Vi (As := [.int g]) (rest := []) (wc := [(d, kO 4 [.ref d_yards, .ref d_paces, .ref d_stuck, .ref d_hirers, .ref d_places, .ref d_cameAt, .ref d_cooked, .int d_inside, .int d_night, .int d_minute, .int d_tasted, .int d_lastCook, .int (bB d_stirred)]), (d_yards, kI k 6 d_yardsF)]) (wr := [(d_paces, kI k 6 d_pacesF)]) ⟨hx, hb, hml, hown, hts⟩ hK hE hP hD hS hA (sX4_isOnRoad l D k H.size d g d_yards d_paces d_stuck d_hirers d_places d_cameAt d_cooked d_inside d_night d_minute d_tasted d_lastCook d_stirred d_yardsF) (cwV 1 hts gX4_quicken_X4_isOnRoad rfl rfl rfl (by decide +kernel) (by rw [hR]; exact ⟨Nat.le_of_ble_eq_true rfl, Nat.le_of_ble_eq_true rfl⟩)) [0, 1] [2] rfl rfl (by decide +kernel) (by decide +kernel) (by decide +kernel) 0 rfl rfl rfl hl.1 rfl (Nat.le_of_ble_eq_true rfl) dX4_quicken_2 (by rw [hR]; exact ⟨Nat.le_of_ble_eq_true rfl, Nat.le_of_ble_eq_true rfl⟩) (fun r1 u1 H locs hw1 hP hD hS => ?_)
  exact by
   try dsimp only at hw1
   obtain ⟨rfl, hw1⟩ := hw1
   have hP : va_P D vwCl [(d_paces, kI k 6 d_pacesF), (d, kO 4 [.ref d_yards, .ref d_paces, .ref d_stuck, .ref d_hirers, .ref d_places, .ref d_cameAt, .ref d_cooked, .int d_inside, .int d_night, .int d_minute, .int d_tasted, .int d_lastCook, .int (bB d_stirred)]), (d_yards, kI k 6 d_yardsF)] H := hP
   have hD : va_D A [(d_paces, kI k 6 d_pacesF), (d, kO 4 [.ref d_yards, .ref d_paces, .ref d_stuck, .ref d_hirers, .ref d_places, .ref d_cameAt, .ref d_cooked, .int d_inside, .int d_night, .int d_minute, .int d_tasted, .int d_lastCook, .int (bB d_stirred)]), (d_yards, kI k 6 d_yardsF)] := hD
   obtain ⟨hw1_0, hw1_1⟩ := hw1
   have hZ := bn1_e hw1_0 hZ
   refine lv_if_ne (tgt := 10) hx hb dX4_quicken_5 (by decide) (fun c_2 => ?_) (fun c_2 => ?_)
   · exact by
      have b_2 : u1 = true := bB_1 c_2
      have zf_2 := hw1_1 b_2
      have hZ := (if_pos b_2).symm.trans hZ
      refine lv_aload_n hx hb dX4_quicken_10 rfl (lv_at hl 0 rfl) ?_
      refine va_get (D := D) (ci := 4) (v := .ref d_paces) (C := RX4) (T := TX4) (N := 13) hx hb hts hi4 hown hK hP 1 rfl rfl 1 (by decide) lf15 (fun _ h9 => h9) rfl dX4_quicken_11 ?_
      refine lv_iload_n hx hb dX4_quicken_14 rfl (lv_at hl 1 rfl) ?_
      refine lv_bipush (v := 40) hx hb dX4_quicken_15 (by decide) ?_
      refine lv_aload_n hx hb dX4_quicken_17 rfl (lv_at hl 0 rfl) ?_
      refine va_get (D := D) (ci := 4) (v := .ref d_paces) (C := RX4) (T := TX4) (N := 13) hx hb hts hi4 hown hK hP 1 rfl rfl 1 (by decide) lf15 (fun _ h9 => h9) rfl dX4_quicken_18 ?_
      refine lv_iload_n hx hb dX4_quicken_21 rfl (lv_at hl 1 rfl) ?_
      refine va_iald hx hb hK hP 0 0 rfl rfl (vp_in_iff.mpr (by omega)) dX4_quicken_22 ?_
      refine lv_iload_n hx hb dX4_quicken_23 rfl (lv_at hl 2 rfl) ?_
      refine lv_iadd hx hb dX4_quicken_24 ?_
      refine va_mmin hx hb (hml.trans hl.1.symm) hown lm70 lmtmin lim lmcmin (by rw [hR]; exact Nat.le_of_ble_eq_true rfl) (by rw [hR]; exact Nat.le_of_ble_eq_true rfl) (by first | omega | (rw [hR]; exact Nat.le_of_ble_eq_true rfl)) (by first | omega | (rw [hR]; exact Nat.le_of_ble_eq_true rfl)) dX4_quicken_25 ?_
      refine va_iast hx hb hK hP hD hS 0 0 rfl rfl (vp_in_iff.mpr (by omega)) dX4_quicken_28 (fun H locs hP hD hS => ?_)
      exact by
       have hP : va_P D vwCl [(d_paces, kI k 6 (upd d_pacesF (Int32.toNatClampNeg g) (if ((d_pacesF (Int32.toNatClampNeg g)) + mi) < 40 then ((d_pacesF (Int32.toNatClampNeg g)) + mi) else 40))), (d, kO 4 [.ref d_yards, .ref d_paces, .ref d_stuck, .ref d_hirers, .ref d_places, .ref d_cameAt, .ref d_cooked, .int d_inside, .int d_night, .int d_minute, .int d_tasted, .int d_lastCook, .int (bB d_stirred)]), (d_yards, kI k 6 d_yardsF)] H := hP
       have hD : va_D A [(d_paces, kI k 6 (upd d_pacesF (Int32.toNatClampNeg g) (if ((d_pacesF (Int32.toNatClampNeg g)) + mi) < 40 then ((d_pacesF (Int32.toNatClampNeg g)) + mi) else 40))), (d, kO 4 [.ref d_yards, .ref d_paces, .ref d_stuck, .ref d_hirers, .ref d_places, .ref d_cameAt, .ref d_cooked, .int d_inside, .int d_night, .int d_minute, .int d_tasted, .int d_lastCook, .int (bB d_stirred)]), (d_yards, kI k 6 d_yardsF)] := hD
       refine lv_iconst (v := 1) hx hb dX4_quicken_29 (by decide) ?_
       rw [hQ]
       have hP9 := hP.sub (ws' := [(d, kO 4 [.ref d_yards, .ref d_paces, .ref d_stuck, .ref d_hirers, .ref d_places, .ref d_cameAt, .ref d_cooked, .int d_inside, .int d_night, .int d_minute, .int d_tasted, .int d_lastCook, .int (bB d_stirred)]), (d_yards, kI k 6 d_yardsF), (d_paces, kI k 6 (upd d_pacesF (Int32.toNatClampNeg g) (if ((d_pacesF (Int32.toNatClampNeg g)) + mi) < 40 then ((d_pacesF (Int32.toNatClampNeg g)) + mi) else 40)))]) [1, 2, 0] rfl
       have hD9 := hD.sub (ws' := [(d, kO 4 [.ref d_yards, .ref d_paces, .ref d_stuck, .ref d_hirers, .ref d_places, .ref d_cameAt, .ref d_cooked, .int d_inside, .int d_night, .int d_minute, .int d_tasted, .int d_lastCook, .int (bB d_stirred)]), (d_yards, kI k 6 d_yardsF), (d_paces, kI k 6 (upd d_pacesF (Int32.toNatClampNeg g) (if ((d_pacesF (Int32.toNatClampNeg g)) + mi) < 40 then ((d_pacesF (Int32.toNatClampNeg g)) + mi) else 40)))]) [1, 2, 0] (by decide +kernel) rfl
       exact W.zret (v := 1) hx hb hr rfl (fun zt ht hW => ⟨⟨1, ⟨(upd d_pacesF (Int32.toNatClampNeg g) (if ((d_pacesF (Int32.toNatClampNeg g)) + mi) < 40 then ((d_pacesF (Int32.toNatClampNeg g)) + mi) else 40)), true⟩, rfl, ⟨rfl, (hZ.trans hE0)⟩, by rw [ht]; exact hP9, hD9⟩, hS.F ht⟩) hS.2.2 dX4_quicken_30
   · exact by
      have b_2 : u1 = false := bB_0 c_2
      have hZ := (if_neg (bF b_2)).symm.trans hZ
      refine lv_iconst (v := 0) hx hb dX4_quicken_8 (by decide) ?_
      rw [hQ]
      have hP9 := hP.sub (ws' := [(d, kO 4 [.ref d_yards, .ref d_paces, .ref d_stuck, .ref d_hirers, .ref d_places, .ref d_cameAt, .ref d_cooked, .int d_inside, .int d_night, .int d_minute, .int d_tasted, .int d_lastCook, .int (bB d_stirred)]), (d_yards, kI k 6 d_yardsF), (d_paces, kI k 6 d_pacesF)]) [1, 2, 0] rfl
      have hD9 := hD.sub (ws' := [(d, kO 4 [.ref d_yards, .ref d_paces, .ref d_stuck, .ref d_hirers, .ref d_places, .ref d_cameAt, .ref d_cooked, .int d_inside, .int d_night, .int d_minute, .int d_tasted, .int d_lastCook, .int (bB d_stirred)]), (d_yards, kI k 6 d_yardsF), (d_paces, kI k 6 d_pacesF)]) [1, 2, 0] (by decide +kernel) rfl
      exact W.zret (v := 0) hx hb hr rfl (fun zt ht hW => ⟨⟨0, ⟨d_pacesF, false⟩, rfl, ⟨rfl, (hZ.trans hE0)⟩, by rw [ht]; exact hP9, hD9⟩, hS.F ht⟩) hS.2.2 dX4_quicken_9
theorem dX4_canEngage_0 : decode cX4_canEngage 0 = .ok (.iload_n 1, 1) := dk_iload_n_1 (by decide +kernel)
theorem dX4_canEngage_1 : decode cX4_canEngage 1 = .ok (.iload_n 2, 1) := dk_iload_n_2 (by decide +kernel)
theorem dX4_canEngage_2 : decode cX4_canEngage 2 = .ok (.if_icmp .eq 33, 3) := dk_if_icmp_eq (by decide +kernel)
theorem dX4_canEngage_5 : decode cX4_canEngage 5 = .ok (.aload_n 0, 1) := dk_aload_n_0 (by decide +kernel)
theorem dX4_canEngage_6 : decode cX4_canEngage 6 = .ok (.iload_n 1, 1) := dk_iload_n_1 (by decide +kernel)
theorem dX4_canEngage_7 : decode cX4_canEngage 7 = .ok (.invokevirtual 66, 3) := dk_invokevirtual (by decide +kernel)
theorem dX4_canEngage_10 : decode cX4_canEngage 10 = .ok (.ifCond .eq 25, 3) := dk_ifCond_eq (by decide +kernel)
theorem dX4_canEngage_13 : decode cX4_canEngage 13 = .ok (.aload_n 0, 1) := dk_aload_n_0 (by decide +kernel)
theorem dX4_canEngage_14 : decode cX4_canEngage 14 = .ok (.iload_n 2, 1) := dk_iload_n_2 (by decide +kernel)
theorem dX4_canEngage_15 : decode cX4_canEngage 15 = .ok (.invokevirtual 66, 3) := dk_invokevirtual (by decide +kernel)
theorem dX4_canEngage_18 : decode cX4_canEngage 18 = .ok (.ifCond .eq 17, 3) := dk_ifCond_eq (by decide +kernel)
theorem dX4_canEngage_21 : decode cX4_canEngage 21 = .ok (.aload_n 0, 1) := dk_aload_n_0 (by decide +kernel)
theorem dX4_canEngage_22 : decode cX4_canEngage 22 = .ok (.getfield 21, 3) := dk_getfield (by decide +kernel)
theorem dX4_canEngage_25 : decode cX4_canEngage 25 = .ok (.iload_n 2, 1) := dk_iload_n_2 (by decide +kernel)
theorem dX4_canEngage_26 : decode cX4_canEngage 26 = .ok (.iaload, 1) := dk_iaload (by decide +kernel)
theorem dX4_canEngage_27 : decode cX4_canEngage 27 = .ok (.iconst (-1), 1) := dk_iconst_m1 (by decide +kernel)
theorem dX4_canEngage_28 : decode cX4_canEngage 28 = .ok (.if_icmp .ne 7, 3) := dk_if_icmp_ne (by decide +kernel)
theorem dX4_canEngage_31 : decode cX4_canEngage 31 = .ok (.iconst 1, 1) := dk_iconst_1 (by decide +kernel)
theorem dX4_canEngage_32 : decode cX4_canEngage 32 = .ok (.goto 4, 3) := dk_goto (by decide +kernel)
theorem dX4_canEngage_35 : decode cX4_canEngage 35 = .ok (.iconst 0, 1) := dk_iconst_0 (by decide +kernel)
theorem dX4_canEngage_36 : decode cX4_canEngage 36 = .ok (.ireturn, 1) := dk_ireturn (by decide +kernel)
set_option maxRecDepth 20000 in
theorem ggX4_canEngage_X4_isOnRoad : GoodIn wsX4_canEngage wsX4_isOnRoad := goodIn_sub (sub_cons (List.mem_cons_of_mem _ (List.mem_append_left _ (List.mem_of_getElem? (i := 5) rfl))) (sub_app (sub_cons (List.mem_cons_of_mem _ (List.mem_append_left _ (List.mem_of_getElem? (i := 6) rfl))) sub_nil) (fun w h9 => (List.mem_cons_of_mem _ (List.mem_append_right _ h9))))) gw_X4_isOnRoad
set_option maxRecDepth 20000 in
theorem gX4_canEngage_X4_isOnRoad : GoodIn wsX4_canEngage (wsV RX4 66 RX4 yX4_isOnRoad wsX4_isOnRoad) := goodIn_app (goodIn_sub (sub_cons (List.mem_cons_of_mem _ (List.mem_append_left _ (List.mem_of_getElem? (i := 1) rfl))) (sub_cons (List.mem_cons_of_mem _ (List.mem_append_left _ (List.mem_of_getElem? (i := 2) rfl))) (sub_cons (List.mem_cons_of_mem _ (List.mem_append_left _ (List.mem_of_getElem? (i := 3) rfl))) (sub_cons (List.mem_cons_of_mem _ (List.mem_append_left _ (List.mem_of_getElem? (i := 4) rfl))) sub_nil)))) (by decide +kernel)) ggX4_canEngage_X4_isOnRoad
set_option maxHeartbeats 4000000 in
set_option maxRecDepth 100000 in
theorem sX4_canEngage (l : Launch) (D : va_G) (k : Nat → ClassId) (sz : Nat) (d : Nat) (g : Int32) (o : Int32) (d_yards : Nat) (d_paces : Nat) (d_stuck : Nat) (d_hirers : Nat) (d_places : Nat) (d_cameAt : Nat) (d_cooked : Nat) (d_inside : Int32) (d_night : Int32) (d_minute : Int32) (d_tasted : Int32) (d_lastCook : Int32) (d_stirred : Bool) (d_yardsF : Nat → Int32) (d_hirersF : Nat → Int32) : Met l yX4_canEngage wsX4_canEngage ({ frames := 1, cells := 0, slots := 0, locals := 70 }) (va_Pc [.ref d, .int g, .int o] (kz_Pre D k [(d, kO 4 [.ref d_yards, .ref d_paces, .ref d_stuck, .ref d_hirers, .ref d_places, .ref d_cameAt, .ref d_cooked, .int d_inside, .int d_night, .int d_minute, .int d_tasted, .int d_lastCook, .int (bB d_stirred)]), (d_yards, kI k 6 d_yardsF), (d_hirers, kI k 6 d_hirersF)] sz)) (va_Qi (fun (rr : Int32) (uu : Bool) => rr = bB uu ∧ ((uu) = (fX4_canEngage g o d_yardsF d_hirersF)) ∧ (uu = true → ((0 ≤ Int32.toInt g ∧ Int32.toInt g < 6) ∧ 0 ≤ Int32.toInt o ∧ Int32.toInt o < 6))) (fun uu zt => kz_B D (va_A [(d, kO 4 [.ref d_yards, .ref d_paces, .ref d_stuck, .ref d_hirers, .ref d_places, .ref d_cameAt, .ref d_cooked, .int d_inside, .int d_night, .int d_minute, .int d_tasted, .int d_lastCook, .int (bB d_stirred)]), (d_yards, kI k 6 d_yardsF), (d_hirers, kI k 6 d_hirersF)] sz) [(d, kO 4 [.ref d_yards, .ref d_paces, .ref d_stuck, .ref d_hirers, .ref d_places, .ref d_cameAt, .ref d_cooked, .int d_inside, .int d_night, .int d_minute, .int d_tasted, .int d_lastCook, .int (bB d_stirred)]), (d_yards, kI k 6 d_yardsF), (d_hirers, kI k 6 d_hirersF)] zt) (va_A [(d, kO 4 [.ref d_yards, .ref d_paces, .ref d_stuck, .ref d_hirers, .ref d_places, .ref d_cameAt, .ref d_cooked, .int d_inside, .int d_night, .int d_minute, .int d_tasted, .int d_lastCook, .int (bB d_stirred)]), (d_yards, kI k 6 d_yardsF), (d_hirers, kI k 6 d_hirersF)] sz)) 0 0 (va_A [(d, kO 4 [.ref d_yards, .ref d_paces, .ref d_stuck, .ref d_hirers, .ref d_places, .ref d_cameAt, .ref d_cooked, .int d_inside, .int d_night, .int d_minute, .int d_tasted, .int d_lastCook, .int (bB d_stirred)]), (d_yards, kI k 6 d_yardsF), (d_hirers, kI k 6 d_hirersF)] sz) := by
  refine Met.ofW (cc := cX4_canEngage) (maxL := 3) (ret := (some .boolean)) (by decide) rfl ?_
  intro p e s m args below meth c s₁ B hml hv
  obtain ⟨hav, hsz, hP, hK, hD0, hE⟩ := hv
  have hx := B.exec
  have hb := B.bytes
  have hr := B.returns
  have hts := atoms_spec (ws := wsX4_canEngage) B.pre
  have hown : s.vm.findClass RX4 = some m.cls := findClass_of_methodNamed B.named
  have hlocks := B.notSynchronized
  have hi4 : ∀ w ∈ u_ws RX4 TX4 13, w ∈ wsX4_canEngage := fun w h9 => List.mem_cons_of_mem _ (List.mem_append_right _ h9)
  have lf21 := hts (.fieldLink RX4 21 "LastCook$Road" "hirers" "[I") (List.mem_cons_of_mem _ (List.mem_append_left _ (List.mem_of_getElem? (i := 0) rfl)))
  subst hsz
  have hD := hD0.self (sz := s.heap.size)
  generalize hAe : va_A [(d, kO 4 [.ref d_yards, .ref d_paces, .ref d_stuck, .ref d_hirers, .ref d_places, .ref d_cameAt, .ref d_cooked, .int d_inside, .int d_night, .int d_minute, .int d_tasted, .int d_lastCook, .int (bB d_stirred)]), (d_yards, kI k 6 d_yardsF), (d_hirers, kI k 6 d_hirersF)] s.heap.size = A at hD ⊢
  have hA : ∀ q : Nat, s.heap.size ≤ q → A q := fun q h => by rw [← hAe]; exact Or.inr h
  have hS : va_S A s.heap s.heap [] := va_S.rf
  have hl := lv_entry ([.ref d, .int g, .int o]) (n := 3) (Nat.le_of_ble_eq_true rfl)
  rw [show entryFrame m args 3 = entryFrame m ([.ref d, .int g, .int o] : List Value).toArray 3 by rw [hav], lg_entry_eq]
  generalize (lg_sl ([.ref d, .int g, .int o]) ++ List.replicate (3 - (lg_sl ([.ref d, .int g, .int o])).length) Slot.unset).toArray = ls at hl ⊢
  have hl : lv_has ls 3 [(0, .ref d), (1, .int g), (2, .int o)] := hl
  obtain ⟨R, hR⟩ : ∃ R, R = (headSpec wsX4_canEngage ({ frames := 1, cells := 0, slots := 0, locals := 70 } : Room)).room := ⟨_, rfl⟩
  rw [← hR]
  generalize hQ : MQ below _ args s 0 0 A = Q
  replace hQ := hQ.symm
  obtain ⟨H, hH⟩ : ∃ H, H = s.heap := ⟨_, rfl⟩
  rw [← hH] at hP ⊢
  have hS : va_S A s.heap H [] := by rw [hH]; exact hS
  obtain ⟨E0, hE0⟩ : ∃ E0 : Bool, E0 = (fX4_canEngage g o d_yardsF d_hirersF) := ⟨_, rfl⟩
  have hZ : (fX4_canEngage g o d_yardsF d_hirersF) = E0 := hE0.symm
  refine lv_iload_n hx hb dX4_canEngage_0 rfl (lv_at hl 1 rfl) ?_
  refine lv_iload_n hx hb dX4_canEngage_1 rfl (lv_at hl 2 rfl) ?_
  have hj35_1 : ∀ (H : Heap) (locs : List Loc) (ls : Array Slot), (fX4_canEngage_J35a = E0) → va_P D vwCl [(d, kO 4 [.ref d_yards, .ref d_paces, .ref d_stuck, .ref d_hirers, .ref d_places, .ref d_cameAt, .ref d_cooked, .int d_inside, .int d_night, .int d_minute, .int d_tasted, .int d_lastCook, .int (bB d_stirred)]), (d_yards, kI k 6 d_yardsF), (d_hirers, kI k 6 d_hirersF)] H → va_D A [(d, kO 4 [.ref d_yards, .ref d_paces, .ref d_stuck, .ref d_hirers, .ref d_places, .ref d_cameAt, .ref d_cooked, .int d_inside, .int d_night, .int d_minute, .int d_tasted, .int d_lastCook, .int (bB d_stirred)]), (d_yards, kI k 6 d_yardsF), (d_hirers, kI k 6 d_hirersF)] → va_S A s.heap H locs → lv_has ls 3 [(0, .ref d), (1, .int g), (2, .int o)] → W p l e R s m args below meth c H locs 0 0 Q (F0 m 35 ls []) := by
    intro H locs ls hZ hP hD hS hl
    refine lv_iconst (v := 0) hx hb dX4_canEngage_35 (by decide) ?_
    rw [hQ]
    have hP9 := hP.sub (ws' := [(d, kO 4 [.ref d_yards, .ref d_paces, .ref d_stuck, .ref d_hirers, .ref d_places, .ref d_cameAt, .ref d_cooked, .int d_inside, .int d_night, .int d_minute, .int d_tasted, .int d_lastCook, .int (bB d_stirred)]), (d_yards, kI k 6 d_yardsF), (d_hirers, kI k 6 d_hirersF)]) [0, 1, 2] rfl
    have hD9 := hD.sub (ws' := [(d, kO 4 [.ref d_yards, .ref d_paces, .ref d_stuck, .ref d_hirers, .ref d_places, .ref d_cameAt, .ref d_cooked, .int d_inside, .int d_night, .int d_minute, .int d_tasted, .int d_lastCook, .int (bB d_stirred)]), (d_yards, kI k 6 d_yardsF), (d_hirers, kI k 6 d_hirersF)]) [0, 1, 2] (by decide +kernel) rfl
    exact W.zret (v := 0) hx hb hr rfl (fun zt ht hW => ⟨⟨0, false, rfl, ⟨rfl, (hZ.trans hE0), (fun h9 => by first | exact absurd h9 (by decide) | exact Bool.noConfusion h9 | omega | (dsimp only; omega))⟩, by rw [ht]; exact hP9, hD9⟩, hS.F ht⟩) hS.2.2 dX4_canEngage_36
  refine lv_icmp_eq (tgt := 35) hx hb dX4_canEngage_2 (by decide) (fun c_2 => ?_) (fun c_2 => ?_)
  · exact by
     have t_2 : (Int32.toInt g) = (Int32.toInt o) := tI_eq rfl rfl c_2
     have hZ := (if_pos c_2).symm.trans hZ
     exact hj35_1 _ _ _ hZ (hP.sub [0, 1, 2] rfl) (hD.sub [0, 1, 2] (by decide +kernel) rfl) hS (lv_sub hl [0, 1, 2] rfl)
  · exact by
     have t_2 : (Int32.toInt g) ≠ (Int32.toInt o) := tI_ne rfl rfl c_2
     have hZ := (if_neg c_2).symm.trans hZ
     refine lv_aload_n hx hb dX4_canEngage_5 rfl (lv_at hl 0 rfl) ?_
     refine lv_iload_n hx hb dX4_canEngage_6 rfl (lv_at hl 1 rfl) ?_
     refine kz_Vi (As := [.int g]) (rest := []) (wc := [(d, kO 4 [.ref d_yards, .ref d_paces, .ref d_stuck, .ref d_hirers, .ref d_places, .ref d_cameAt, .ref d_cooked, .int d_inside, .int d_night, .int d_minute, .int d_tasted, .int d_lastCook, .int (bB d_stirred)]), (d_yards, kI k 6 d_yardsF)]) (wr := [(d_hirers, kI k 6 d_hirersF)]) ⟨hx, hb, hml, hown, hts⟩ hK hE hP hD hS hA (sX4_isOnRoad l D k H.size d g d_yards d_paces d_stuck d_hirers d_places d_cameAt d_cooked d_inside d_night d_minute d_tasted d_lastCook d_stirred d_yardsF) (cwV 1 hts gX4_canEngage_X4_isOnRoad rfl rfl rfl (by decide +kernel) (by rw [hR]; exact ⟨Nat.le_of_ble_eq_true rfl, Nat.le_of_ble_eq_true rfl⟩)) [0, 1] [2] rfl rfl (by decide +kernel) (by decide +kernel) (by decide +kernel) 0 rfl rfl rfl hl.1 rfl (Nat.le_of_ble_eq_true rfl) dX4_canEngage_7 (by rw [hR]; exact ⟨Nat.le_of_ble_eq_true rfl, Nat.le_of_ble_eq_true rfl⟩) (fun r3 u3 H locs hw3 hP hD hS => ?_)
     exact by
      try dsimp only at hw3
      obtain ⟨rfl, hw3⟩ := hw3
      have hP : va_P D vwCl [(d_hirers, kI k 6 d_hirersF), (d, kO 4 [.ref d_yards, .ref d_paces, .ref d_stuck, .ref d_hirers, .ref d_places, .ref d_cameAt, .ref d_cooked, .int d_inside, .int d_night, .int d_minute, .int d_tasted, .int d_lastCook, .int (bB d_stirred)]), (d_yards, kI k 6 d_yardsF)] H := hP
      have hD : va_D A [(d_hirers, kI k 6 d_hirersF), (d, kO 4 [.ref d_yards, .ref d_paces, .ref d_stuck, .ref d_hirers, .ref d_places, .ref d_cameAt, .ref d_cooked, .int d_inside, .int d_night, .int d_minute, .int d_tasted, .int d_lastCook, .int (bB d_stirred)]), (d_yards, kI k 6 d_yardsF)] := hD
      obtain ⟨hw3_0, hw3_1⟩ := hw3
      have hZ := bn1_e hw3_0 hZ
      refine lv_if_eq (tgt := 35) hx hb dX4_canEngage_10 (by decide) (fun c_4 => ?_) (fun c_4 => ?_)
      · exact by
         have b_4 : u3 = false := bB_0 c_4
         have hZ := (if_neg (bF b_4)).symm.trans hZ
         exact hj35_1 _ _ _ hZ (hP.sub [1, 2, 0] rfl) (hD.sub [1, 2, 0] (by decide +kernel) rfl) hS (lv_sub hl [0, 1, 2] rfl)
      · exact by
         have b_4 : u3 = true := bB_1 c_4
         have zf_4 := hw3_1 b_4
         have hZ := (if_pos b_4).symm.trans hZ
         refine lv_aload_n hx hb dX4_canEngage_13 rfl (lv_at hl 0 rfl) ?_
         refine lv_iload_n hx hb dX4_canEngage_14 rfl (lv_at hl 2 rfl) ?_
         refine kz_Vi (As := [.int o]) (rest := []) (wc := [(d, kO 4 [.ref d_yards, .ref d_paces, .ref d_stuck, .ref d_hirers, .ref d_places, .ref d_cameAt, .ref d_cooked, .int d_inside, .int d_night, .int d_minute, .int d_tasted, .int d_lastCook, .int (bB d_stirred)]), (d_yards, kI k 6 d_yardsF)]) (wr := [(d_hirers, kI k 6 d_hirersF)]) ⟨hx, hb, hml, hown, hts⟩ hK hE hP hD hS hA (sX4_isOnRoad l D k H.size d o d_yards d_paces d_stuck d_hirers d_places d_cameAt d_cooked d_inside d_night d_minute d_tasted d_lastCook d_stirred d_yardsF) (cwV 1 hts gX4_canEngage_X4_isOnRoad rfl rfl rfl (by decide +kernel) (by rw [hR]; exact ⟨Nat.le_of_ble_eq_true rfl, Nat.le_of_ble_eq_true rfl⟩)) [1, 2] [0] rfl rfl (by decide +kernel) (by decide +kernel) (by decide +kernel) 0 rfl rfl rfl hl.1 rfl (Nat.le_of_ble_eq_true rfl) dX4_canEngage_15 (by rw [hR]; exact ⟨Nat.le_of_ble_eq_true rfl, Nat.le_of_ble_eq_true rfl⟩) (fun r5 u5 H locs hw5 hP hD hS => ?_)
         exact by
          try dsimp only at hw5
          obtain ⟨rfl, hw5⟩ := hw5
          have hP : va_P D vwCl [(d_hirers, kI k 6 d_hirersF), (d, kO 4 [.ref d_yards, .ref d_paces, .ref d_stuck, .ref d_hirers, .ref d_places, .ref d_cameAt, .ref d_cooked, .int d_inside, .int d_night, .int d_minute, .int d_tasted, .int d_lastCook, .int (bB d_stirred)]), (d_yards, kI k 6 d_yardsF)] H := hP
          have hD : va_D A [(d_hirers, kI k 6 d_hirersF), (d, kO 4 [.ref d_yards, .ref d_paces, .ref d_stuck, .ref d_hirers, .ref d_places, .ref d_cameAt, .ref d_cooked, .int d_inside, .int d_night, .int d_minute, .int d_tasted, .int d_lastCook, .int (bB d_stirred)]), (d_yards, kI k 6 d_yardsF)] := hD
          obtain ⟨hw5_0, hw5_1⟩ := hw5
          have hZ := bn1_e hw5_0 hZ
          refine lv_if_eq (tgt := 35) hx hb dX4_canEngage_18 (by decide) (fun c_6 => ?_) (fun c_6 => ?_)
          · exact by
             have b_6 : u5 = false := bB_0 c_6
             have hZ := (if_neg (bF b_6)).symm.trans hZ
             exact hj35_1 _ _ _ hZ (hP.sub [1, 2, 0] rfl) (hD.sub [1, 2, 0] (by decide +kernel) rfl) hS (lv_sub hl [0, 1, 2] rfl)
          · exact by
             have b_6 : u5 = true := bB_1 c_6
             have zf_6 := hw5_1 b_6
             have hZ := (if_pos b_6).symm.trans hZ
             refine lv_aload_n hx hb dX4_canEngage_21 rfl (lv_at hl 0 rfl) ?_
             refine va_get (D := D) (ci := 4) (v := .ref d_hirers) (C := RX4) (T := TX4) (N := 13) hx hb hts hi4 hown hK hP 1 rfl rfl 3 (by decide) lf21 (fun _ h9 => h9) rfl dX4_canEngage_22 ?_
             refine lv_iload_n hx hb dX4_canEngage_25 rfl (lv_at hl 2 rfl) ?_
             refine va_iald hx hb hK hP 0 0 rfl rfl (vp_in_iff.mpr (by omega)) dX4_canEngage_26 ?_
             refine lv_iconst (v := (-1)) hx hb dX4_canEngage_27 (by decide) ?_
             refine lv_icmp_ne (tgt := 35) hx hb dX4_canEngage_28 (by decide) (fun c_7 => ?_) (fun c_7 => ?_)
             · exact by
                have hZ := (if_neg c_7).symm.trans hZ
                exact hj35_1 _ _ _ hZ (hP.sub [1, 2, 0] rfl) (hD.sub [1, 2, 0] (by decide +kernel) rfl) hS (lv_sub hl [0, 1, 2] rfl)
             · exact by
                have hZ := (if_pos c_7).symm.trans hZ
                refine lv_iconst (v := 1) hx hb dX4_canEngage_31 (by decide) ?_
                refine lv_goto (tgt := 36) hx hb dX4_canEngage_32 (by decide) ?_
                rw [hQ]
                have hP9 := hP.sub (ws' := [(d, kO 4 [.ref d_yards, .ref d_paces, .ref d_stuck, .ref d_hirers, .ref d_places, .ref d_cameAt, .ref d_cooked, .int d_inside, .int d_night, .int d_minute, .int d_tasted, .int d_lastCook, .int (bB d_stirred)]), (d_yards, kI k 6 d_yardsF), (d_hirers, kI k 6 d_hirersF)]) [1, 2, 0] rfl
                have hD9 := hD.sub (ws' := [(d, kO 4 [.ref d_yards, .ref d_paces, .ref d_stuck, .ref d_hirers, .ref d_places, .ref d_cameAt, .ref d_cooked, .int d_inside, .int d_night, .int d_minute, .int d_tasted, .int d_lastCook, .int (bB d_stirred)]), (d_yards, kI k 6 d_yardsF), (d_hirers, kI k 6 d_hirersF)]) [1, 2, 0] (by decide +kernel) rfl
                exact W.zret (v := 1) hx hb hr rfl (fun zt ht hW => ⟨⟨1, true, rfl, ⟨rfl, (hZ.trans hE0), (fun h9 => by first | exact absurd h9 (by decide) | exact Bool.noConfusion h9 | omega | (dsimp only; omega))⟩, by rw [ht]; exact hP9, hD9⟩, hS.F ht⟩) hS.2.2 dX4_canEngage_36
theorem dX4_engage_0 : decode cX4_engage 0 = .ok (.aload_n 0, 1) := dk_aload_n_0 (by decide +kernel)
theorem dX4_engage_1 : decode cX4_engage 1 = .ok (.iload_n 1, 1) := dk_iload_n_1 (by decide +kernel)
theorem dX4_engage_2 : decode cX4_engage 2 = .ok (.iload_n 2, 1) := dk_iload_n_2 (by decide +kernel)
theorem dX4_engage_3 : decode cX4_engage 3 = .ok (.invokevirtual 76, 3) := dk_invokevirtual (by decide +kernel)
theorem dX4_engage_6 : decode cX4_engage 6 = .ok (.ifCond .ne 5, 3) := dk_ifCond_ne (by decide +kernel)
theorem dX4_engage_9 : decode cX4_engage 9 = .ok (.iconst 0, 1) := dk_iconst_0 (by decide +kernel)
theorem dX4_engage_10 : decode cX4_engage 10 = .ok (.ireturn, 1) := dk_ireturn (by decide +kernel)
theorem dX4_engage_11 : decode cX4_engage 11 = .ok (.aload_n 0, 1) := dk_aload_n_0 (by decide +kernel)
theorem dX4_engage_12 : decode cX4_engage 12 = .ok (.getfield 21, 3) := dk_getfield (by decide +kernel)
theorem dX4_engage_15 : decode cX4_engage 15 = .ok (.iload_n 2, 1) := dk_iload_n_2 (by decide +kernel)
theorem dX4_engage_16 : decode cX4_engage 16 = .ok (.iload_n 1, 1) := dk_iload_n_1 (by decide +kernel)
theorem dX4_engage_17 : decode cX4_engage 17 = .ok (.iastore, 1) := dk_iastore (by decide +kernel)
theorem dX4_engage_18 : decode cX4_engage 18 = .ok (.iconst 1, 1) := dk_iconst_1 (by decide +kernel)
theorem dX4_engage_19 : decode cX4_engage 19 = .ok (.ireturn, 1) := dk_ireturn (by decide +kernel)
set_option maxRecDepth 20000 in
theorem ggX4_engage_X4_canEngage : GoodIn wsX4_engage wsX4_canEngage := goodIn_sub (sub_cons (List.mem_cons_of_mem _ (List.mem_append_left _ (List.mem_of_getElem? (i := 5) rfl))) (sub_app (sub_cons (List.mem_cons_of_mem _ (List.mem_append_left _ (List.mem_of_getElem? (i := 0) rfl))) (sub_cons (List.mem_cons_of_mem _ (List.mem_append_left _ (List.mem_of_getElem? (i := 6) rfl))) (sub_cons (List.mem_cons_of_mem _ (List.mem_append_left _ (List.mem_of_getElem? (i := 7) rfl))) (sub_cons (List.mem_cons_of_mem _ (List.mem_append_left _ (List.mem_of_getElem? (i := 8) rfl))) (sub_cons (List.mem_cons_of_mem _ (List.mem_append_left _ (List.mem_of_getElem? (i := 4) rfl))) (sub_cons (List.mem_cons_of_mem _ (List.mem_append_left _ (List.mem_of_getElem? (i := 9) rfl))) (sub_cons (List.mem_cons_of_mem _ (List.mem_append_left _ (List.mem_of_getElem? (i := 10) rfl))) sub_nil))))))) (fun w h9 => (List.mem_cons_of_mem _ (List.mem_append_right _ h9))))) gw_X4_canEngage
set_option maxRecDepth 20000 in
theorem gX4_engage_X4_canEngage : GoodIn wsX4_engage (wsV RX4 76 RX4 yX4_canEngage wsX4_canEngage) := goodIn_app (goodIn_sub (sub_cons (List.mem_cons_of_mem _ (List.mem_append_left _ (List.mem_of_getElem? (i := 1) rfl))) (sub_cons (List.mem_cons_of_mem _ (List.mem_append_left _ (List.mem_of_getElem? (i := 2) rfl))) (sub_cons (List.mem_cons_of_mem _ (List.mem_append_left _ (List.mem_of_getElem? (i := 3) rfl))) (sub_cons (List.mem_cons_of_mem _ (List.mem_append_left _ (List.mem_of_getElem? (i := 4) rfl))) sub_nil)))) (by decide +kernel)) ggX4_engage_X4_canEngage
set_option maxHeartbeats 4000000 in
set_option maxRecDepth 100000 in
theorem sX4_engage (l : Launch) (D : va_G) (k : Nat → ClassId) (sz : Nat) (d : Nat) (g : Int32) (o : Int32) (d_yards : Nat) (d_paces : Nat) (d_stuck : Nat) (d_hirers : Nat) (d_places : Nat) (d_cameAt : Nat) (d_cooked : Nat) (d_inside : Int32) (d_night : Int32) (d_minute : Int32) (d_tasted : Int32) (d_lastCook : Int32) (d_stirred : Bool) (d_yardsF : Nat → Int32) (d_hirersF : Nat → Int32) : Met l yX4_engage wsX4_engage ({ frames := 2, cells := 0, slots := 0, locals := 140 }) (va_Pc [.ref d, .int g, .int o] (kz_Pre D k [(d, kO 4 [.ref d_yards, .ref d_paces, .ref d_stuck, .ref d_hirers, .ref d_places, .ref d_cameAt, .ref d_cooked, .int d_inside, .int d_night, .int d_minute, .int d_tasted, .int d_lastCook, .int (bB d_stirred)]), (d_yards, kI k 6 d_yardsF), (d_hirers, kI k 6 d_hirersF)] sz)) (va_Qi (fun (rr : Int32) (uu : (Nat → Int32) × Bool) => rr = bB uu.2 ∧ ((uu.1, uu.2) = (fX4_engage g o d_yardsF d_hirersF))) (fun uu zt => kz_B D (va_A [(d, kO 4 [.ref d_yards, .ref d_paces, .ref d_stuck, .ref d_hirers, .ref d_places, .ref d_cameAt, .ref d_cooked, .int d_inside, .int d_night, .int d_minute, .int d_tasted, .int d_lastCook, .int (bB d_stirred)]), (d_yards, kI k 6 d_yardsF), (d_hirers, kI k 6 d_hirersF)] sz) [(d, kO 4 [.ref d_yards, .ref d_paces, .ref d_stuck, .ref d_hirers, .ref d_places, .ref d_cameAt, .ref d_cooked, .int d_inside, .int d_night, .int d_minute, .int d_tasted, .int d_lastCook, .int (bB d_stirred)]), (d_yards, kI k 6 d_yardsF), (d_hirers, kI k 6 uu.1)] zt) (va_A [(d, kO 4 [.ref d_yards, .ref d_paces, .ref d_stuck, .ref d_hirers, .ref d_places, .ref d_cameAt, .ref d_cooked, .int d_inside, .int d_night, .int d_minute, .int d_tasted, .int d_lastCook, .int (bB d_stirred)]), (d_yards, kI k 6 d_yardsF), (d_hirers, kI k 6 d_hirersF)] sz)) 0 0 (va_A [(d, kO 4 [.ref d_yards, .ref d_paces, .ref d_stuck, .ref d_hirers, .ref d_places, .ref d_cameAt, .ref d_cooked, .int d_inside, .int d_night, .int d_minute, .int d_tasted, .int d_lastCook, .int (bB d_stirred)]), (d_yards, kI k 6 d_yardsF), (d_hirers, kI k 6 d_hirersF)] sz) := by
  refine Met.ofW (cc := cX4_engage) (maxL := 3) (ret := (some .boolean)) (by decide) rfl ?_
  intro p e s m args below meth c s₁ B hml hv
  obtain ⟨hav, hsz, hP, hK, hD0, hE⟩ := hv
  have hx := B.exec
  have hb := B.bytes
  have hr := B.returns
  have hts := atoms_spec (ws := wsX4_engage) B.pre
  have hown : s.vm.findClass RX4 = some m.cls := findClass_of_methodNamed B.named
  have hlocks := B.notSynchronized
  have hi4 : ∀ w ∈ u_ws RX4 TX4 13, w ∈ wsX4_engage := fun w h9 => List.mem_cons_of_mem _ (List.mem_append_right _ h9)
  have lf21 := hts (.fieldLink RX4 21 "LastCook$Road" "hirers" "[I") (List.mem_cons_of_mem _ (List.mem_append_left _ (List.mem_of_getElem? (i := 0) rfl)))
  subst hsz
  have hD := hD0.self (sz := s.heap.size)
  generalize hAe : va_A [(d, kO 4 [.ref d_yards, .ref d_paces, .ref d_stuck, .ref d_hirers, .ref d_places, .ref d_cameAt, .ref d_cooked, .int d_inside, .int d_night, .int d_minute, .int d_tasted, .int d_lastCook, .int (bB d_stirred)]), (d_yards, kI k 6 d_yardsF), (d_hirers, kI k 6 d_hirersF)] s.heap.size = A at hD ⊢
  have hA : ∀ q : Nat, s.heap.size ≤ q → A q := fun q h => by rw [← hAe]; exact Or.inr h
  have hS : va_S A s.heap s.heap [] := va_S.rf
  have hl := lv_entry ([.ref d, .int g, .int o]) (n := 3) (Nat.le_of_ble_eq_true rfl)
  rw [show entryFrame m args 3 = entryFrame m ([.ref d, .int g, .int o] : List Value).toArray 3 by rw [hav], lg_entry_eq]
  generalize (lg_sl ([.ref d, .int g, .int o]) ++ List.replicate (3 - (lg_sl ([.ref d, .int g, .int o])).length) Slot.unset).toArray = ls at hl ⊢
  have hl : lv_has ls 3 [(0, .ref d), (1, .int g), (2, .int o)] := hl
  obtain ⟨R, hR⟩ : ∃ R, R = (headSpec wsX4_engage ({ frames := 2, cells := 0, slots := 0, locals := 140 } : Room)).room := ⟨_, rfl⟩
  rw [← hR]
  generalize hQ : MQ below _ args s 0 0 A = Q
  replace hQ := hQ.symm
  obtain ⟨H, hH⟩ : ∃ H, H = s.heap := ⟨_, rfl⟩
  rw [← hH] at hP ⊢
  have hS : va_S A s.heap H [] := by rw [hH]; exact hS
  obtain ⟨E0, hE0⟩ : ∃ E0 : (Nat → Int32) × Bool, E0 = (fX4_engage g o d_yardsF d_hirersF) := ⟨_, rfl⟩
  have hZ : (fX4_engage g o d_yardsF d_hirersF) = E0 := hE0.symm
  refine lv_aload_n hx hb dX4_engage_0 rfl (lv_at hl 0 rfl) ?_
  refine lv_iload_n hx hb dX4_engage_1 rfl (lv_at hl 1 rfl) ?_
  refine lv_iload_n hx hb dX4_engage_2 rfl (lv_at hl 2 rfl) ?_
  refine kz_Vi (As := [.int g, .int o]) (rest := []) (wc := [(d, kO 4 [.ref d_yards, .ref d_paces, .ref d_stuck, .ref d_hirers, .ref d_places, .ref d_cameAt, .ref d_cooked, .int d_inside, .int d_night, .int d_minute, .int d_tasted, .int d_lastCook, .int (bB d_stirred)]), (d_yards, kI k 6 d_yardsF), (d_hirers, kI k 6 d_hirersF)]) (wr := []) ⟨hx, hb, hml, hown, hts⟩ hK hE hP hD hS hA (sX4_canEngage l D k H.size d g o d_yards d_paces d_stuck d_hirers d_places d_cameAt d_cooked d_inside d_night d_minute d_tasted d_lastCook d_stirred d_yardsF d_hirersF) (cwV 2 hts gX4_engage_X4_canEngage rfl rfl rfl (by decide +kernel) (by rw [hR]; exact ⟨Nat.le_of_ble_eq_true rfl, Nat.le_of_ble_eq_true rfl⟩)) [0, 1, 2] [] rfl rfl (by decide +kernel) (by decide +kernel) (by decide +kernel) 0 rfl rfl rfl hl.1 rfl (Nat.le_of_ble_eq_true rfl) dX4_engage_3 (by rw [hR]; exact ⟨Nat.le_of_ble_eq_true rfl, Nat.le_of_ble_eq_true rfl⟩) (fun r1 u1 H locs hw1 hP hD hS => ?_)
  exact by
   try dsimp only at hw1
   obtain ⟨rfl, hw1⟩ := hw1
   have hP : va_P D vwCl [(d, kO 4 [.ref d_yards, .ref d_paces, .ref d_stuck, .ref d_hirers, .ref d_places, .ref d_cameAt, .ref d_cooked, .int d_inside, .int d_night, .int d_minute, .int d_tasted, .int d_lastCook, .int (bB d_stirred)]), (d_yards, kI k 6 d_yardsF), (d_hirers, kI k 6 d_hirersF)] H := hP
   have hD : va_D A [(d, kO 4 [.ref d_yards, .ref d_paces, .ref d_stuck, .ref d_hirers, .ref d_places, .ref d_cameAt, .ref d_cooked, .int d_inside, .int d_night, .int d_minute, .int d_tasted, .int d_lastCook, .int (bB d_stirred)]), (d_yards, kI k 6 d_yardsF), (d_hirers, kI k 6 d_hirersF)] := hD
   obtain ⟨hw1_0, hw1_1⟩ := hw1
   have hZ := bn1_e hw1_0 hZ
   refine lv_if_ne (tgt := 11) hx hb dX4_engage_6 (by decide) (fun c_2 => ?_) (fun c_2 => ?_)
   · exact by
      have b_2 : u1 = true := bB_1 c_2
      have zf_2 := hw1_1 b_2
      have hZ := (if_pos b_2).symm.trans hZ
      refine lv_aload_n hx hb dX4_engage_11 rfl (lv_at hl 0 rfl) ?_
      refine va_get (D := D) (ci := 4) (v := .ref d_hirers) (C := RX4) (T := TX4) (N := 13) hx hb hts hi4 hown hK hP 0 rfl rfl 3 (by decide) lf21 (fun _ h9 => h9) rfl dX4_engage_12 ?_
      refine lv_iload_n hx hb dX4_engage_15 rfl (lv_at hl 2 rfl) ?_
      refine lv_iload_n hx hb dX4_engage_16 rfl (lv_at hl 1 rfl) ?_
      refine va_iast hx hb hK hP hD hS 2 0 rfl rfl (vp_in_iff.mpr (by omega)) dX4_engage_17 (fun H locs hP hD hS => ?_)
      exact by
       have hP : va_P D vwCl [(d, kO 4 [.ref d_yards, .ref d_paces, .ref d_stuck, .ref d_hirers, .ref d_places, .ref d_cameAt, .ref d_cooked, .int d_inside, .int d_night, .int d_minute, .int d_tasted, .int d_lastCook, .int (bB d_stirred)]), (d_yards, kI k 6 d_yardsF), (d_hirers, kI k 6 (upd d_hirersF (Int32.toNatClampNeg o) g))] H := hP
       have hD : va_D A [(d, kO 4 [.ref d_yards, .ref d_paces, .ref d_stuck, .ref d_hirers, .ref d_places, .ref d_cameAt, .ref d_cooked, .int d_inside, .int d_night, .int d_minute, .int d_tasted, .int d_lastCook, .int (bB d_stirred)]), (d_yards, kI k 6 d_yardsF), (d_hirers, kI k 6 (upd d_hirersF (Int32.toNatClampNeg o) g))] := hD
       refine lv_iconst (v := 1) hx hb dX4_engage_18 (by decide) ?_
       rw [hQ]
       have hP9 := hP.sub (ws' := [(d, kO 4 [.ref d_yards, .ref d_paces, .ref d_stuck, .ref d_hirers, .ref d_places, .ref d_cameAt, .ref d_cooked, .int d_inside, .int d_night, .int d_minute, .int d_tasted, .int d_lastCook, .int (bB d_stirred)]), (d_yards, kI k 6 d_yardsF), (d_hirers, kI k 6 (upd d_hirersF (Int32.toNatClampNeg o) g))]) [0, 1, 2] rfl
       have hD9 := hD.sub (ws' := [(d, kO 4 [.ref d_yards, .ref d_paces, .ref d_stuck, .ref d_hirers, .ref d_places, .ref d_cameAt, .ref d_cooked, .int d_inside, .int d_night, .int d_minute, .int d_tasted, .int d_lastCook, .int (bB d_stirred)]), (d_yards, kI k 6 d_yardsF), (d_hirers, kI k 6 (upd d_hirersF (Int32.toNatClampNeg o) g))]) [0, 1, 2] (by decide +kernel) rfl
       exact W.zret (v := 1) hx hb hr rfl (fun zt ht hW => ⟨⟨1, ⟨(upd d_hirersF (Int32.toNatClampNeg o) g), true⟩, rfl, ⟨rfl, (hZ.trans hE0)⟩, by rw [ht]; exact hP9, hD9⟩, hS.F ht⟩) hS.2.2 dX4_engage_19
   · exact by
      have b_2 : u1 = false := bB_0 c_2
      have hZ := (if_neg (bF b_2)).symm.trans hZ
      refine lv_iconst (v := 0) hx hb dX4_engage_9 (by decide) ?_
      rw [hQ]
      have hP9 := hP.sub (ws' := [(d, kO 4 [.ref d_yards, .ref d_paces, .ref d_stuck, .ref d_hirers, .ref d_places, .ref d_cameAt, .ref d_cooked, .int d_inside, .int d_night, .int d_minute, .int d_tasted, .int d_lastCook, .int (bB d_stirred)]), (d_yards, kI k 6 d_yardsF), (d_hirers, kI k 6 d_hirersF)]) [0, 1, 2] rfl
      have hD9 := hD.sub (ws' := [(d, kO 4 [.ref d_yards, .ref d_paces, .ref d_stuck, .ref d_hirers, .ref d_places, .ref d_cameAt, .ref d_cooked, .int d_inside, .int d_night, .int d_minute, .int d_tasted, .int d_lastCook, .int (bB d_stirred)]), (d_yards, kI k 6 d_yardsF), (d_hirers, kI k 6 d_hirersF)]) [0, 1, 2] (by decide +kernel) rfl
      exact W.zret (v := 0) hx hb hr rfl (fun zt ht hW => ⟨⟨0, ⟨d_hirersF, false⟩, rfl, ⟨rfl, (hZ.trans hE0)⟩, by rw [ht]; exact hP9, hD9⟩, hS.F ht⟩) hS.2.2 dX4_engage_10
theorem dX4_begin_0 : decode cX4_begin 0 = .ok (.aload_n 0, 1) := dk_aload_n_0 (by decide +kernel)
theorem dX4_begin_1 : decode cX4_begin 1 = .ok (.iconst 0, 1) := dk_iconst_0 (by decide +kernel)
theorem dX4_begin_2 : decode cX4_begin 2 = .ok (.putfield 37, 3) := dk_putfield (by decide +kernel)
theorem dX4_begin_5 : decode cX4_begin 5 = .ok (.aload_n 0, 1) := dk_aload_n_0 (by decide +kernel)
theorem dX4_begin_6 : decode cX4_begin 6 = .ok (.iconst 0, 1) := dk_iconst_0 (by decide +kernel)
theorem dX4_begin_7 : decode cX4_begin 7 = .ok (.putfield 40, 3) := dk_putfield (by decide +kernel)
theorem dX4_begin_10 : decode cX4_begin 10 = .ok (.aload_n 0, 1) := dk_aload_n_0 (by decide +kernel)
theorem dX4_begin_11 : decode cX4_begin 11 = .ok (.iconst (-1), 1) := dk_iconst_m1 (by decide +kernel)
theorem dX4_begin_12 : decode cX4_begin 12 = .ok (.putfield 33, 3) := dk_putfield (by decide +kernel)
theorem dX4_begin_15 : decode cX4_begin 15 = .ok (.iconst 0, 1) := dk_iconst_0 (by decide +kernel)
theorem dX4_begin_16 : decode cX4_begin 16 = .ok (.istore_n 2, 1) := dk_istore_n_2 (by decide +kernel)
theorem dX4_begin_17 : decode cX4_begin 17 = .ok (.iload_n 2, 1) := dk_iload_n_2 (by decide +kernel)
theorem dX4_begin_18 : decode cX4_begin 18 = .ok (.bipush 6, 2) := dk_bipush (by decide +kernel)
theorem dX4_begin_20 : decode cX4_begin 20 = .ok (.if_icmp .ge 16, 3) := dk_if_icmp_ge (by decide +kernel)
theorem dX4_begin_23 : decode cX4_begin 23 = .ok (.aload_n 0, 1) := dk_aload_n_0 (by decide +kernel)
theorem dX4_begin_24 : decode cX4_begin 24 = .ok (.getfield 30, 3) := dk_getfield (by decide +kernel)
theorem dX4_begin_27 : decode cX4_begin 27 = .ok (.iload_n 2, 1) := dk_iload_n_2 (by decide +kernel)
theorem dX4_begin_28 : decode cX4_begin 28 = .ok (.iconst 0, 1) := dk_iconst_0 (by decide +kernel)
theorem dX4_begin_29 : decode cX4_begin 29 = .ok (.iastore, 1) := dk_iastore (by decide +kernel)
theorem dX4_begin_30 : decode cX4_begin 30 = .ok (.iinc 2 1, 3) := dk_iinc (by decide +kernel)
theorem dX4_begin_33 : decode cX4_begin 33 = .ok (.goto (-16), 3) := dk_goto (by decide +kernel)
theorem dX4_begin_36 : decode cX4_begin 36 = .ok (.aload_n 0, 1) := dk_aload_n_0 (by decide +kernel)
theorem dX4_begin_37 : decode cX4_begin 37 = .ok (.aload_n 1, 1) := dk_aload_n_1 (by decide +kernel)
theorem dX4_begin_38 : decode cX4_begin 38 = .ok (.invokevirtual 43, 3) := dk_invokevirtual (by decide +kernel)
theorem dX4_begin_41 : decode cX4_begin 41 = .ok (.return_, 1) := dk_return_ (by decide +kernel)
set_option maxRecDepth 20000 in
theorem ggX4_begin_X4_beginNight : GoodIn wsX4_begin wsX4_beginNight := goodIn_sub (sub_cons (List.mem_cons_of_mem _ (List.mem_append_left _ (List.mem_append_left _ (List.mem_of_getElem? (i := 8) rfl)))) (sub_app (sub_app (sub_cons (List.mem_cons_of_mem _ (List.mem_append_left _ (List.mem_append_left _ (List.mem_of_getElem? (i := 9) rfl)))) (sub_cons (List.mem_cons_of_mem _ (List.mem_append_left _ (List.mem_append_left _ (List.mem_of_getElem? (i := 10) rfl)))) (sub_cons (List.mem_cons_of_mem _ (List.mem_append_left _ (List.mem_append_left _ (List.mem_of_getElem? (i := 11) rfl)))) (sub_cons (List.mem_cons_of_mem _ (List.mem_append_left _ (List.mem_append_left _ (List.mem_of_getElem? (i := 12) rfl)))) (sub_cons (List.mem_cons_of_mem _ (List.mem_append_left _ (List.mem_append_left _ (List.mem_of_getElem? (i := 13) rfl)))) (sub_cons (List.mem_cons_of_mem _ (List.mem_append_left _ (List.mem_append_left _ (List.mem_of_getElem? (i := 14) rfl)))) (sub_cons (List.mem_cons_of_mem _ (List.mem_append_left _ (List.mem_append_left _ (List.mem_of_getElem? (i := 15) rfl)))) (sub_cons (List.mem_cons_of_mem _ (List.mem_append_left _ (List.mem_append_left _ (List.mem_of_getElem? (i := 16) rfl)))) (sub_cons (List.mem_cons_of_mem _ (List.mem_append_left _ (List.mem_append_left _ (List.mem_of_getElem? (i := 17) rfl)))) (sub_cons (List.mem_cons_of_mem _ (List.mem_append_left _ (List.mem_append_left _ (List.mem_of_getElem? (i := 18) rfl)))) (sub_cons (List.mem_cons_of_mem _ (List.mem_append_left _ (List.mem_append_left _ (List.mem_of_getElem? (i := 19) rfl)))) sub_nil))))))))))) (fun w h9 => (List.mem_cons_of_mem _ (List.mem_append_left _ (List.mem_append_right _ h9))))) (fun w h9 => (List.mem_cons_of_mem _ (List.mem_append_right _ h9))))) gw_X4_beginNight
set_option maxRecDepth 20000 in
theorem gX4_begin_X4_beginNight : GoodIn wsX4_begin (wsV RX4 43 RX4 yX4_beginNight wsX4_beginNight) := goodIn_app (goodIn_sub (sub_cons (List.mem_cons_of_mem _ (List.mem_append_left _ (List.mem_append_left _ (List.mem_of_getElem? (i := 4) rfl)))) (sub_cons (List.mem_cons_of_mem _ (List.mem_append_left _ (List.mem_append_left _ (List.mem_of_getElem? (i := 5) rfl)))) (sub_cons (List.mem_cons_of_mem _ (List.mem_append_left _ (List.mem_append_left _ (List.mem_of_getElem? (i := 6) rfl)))) (sub_cons (List.mem_cons_of_mem _ (List.mem_append_left _ (List.mem_append_left _ (List.mem_of_getElem? (i := 7) rfl)))) sub_nil)))) (by decide +kernel)) ggX4_begin_X4_beginNight
set_option maxHeartbeats 4000000 in
set_option maxRecDepth 100000 in
theorem sX4_begin (l : Launch) (D : va_G) (k : Nat → ClassId) (sz : Nat) (d : Nat) (t : Nat) (d_yards : Nat) (d_paces : Nat) (d_stuck : Nat) (d_hirers : Nat) (d_places : Nat) (d_cameAt : Nat) (d_cooked : Nat) (d_inside : Int32) (d_night : Int32) (d_minute : Int32) (d_tasted : Int32) (d_lastCook : Int32) (d_stirred : Bool) (d_yardsF : Nat → Int32) (d_pacesF : Nat → Int32) (d_stuckF : Nat → Int32) (d_hirersF : Nat → Int32) (d_placesF : Nat → Int32) (d_cameAtF : Nat → Int32) (d_cookedF : Nat → Int32) (t_names : Nat) (t_kinds : Nat) (t_yards : Nat) (t_paces : Nat) (t_skills : Nat) (t_snow : Nat) (tw : Nat) (t_guests : Nat) (t_snows : Nat) (t_bend : Int32) (t_hour : Int32) (t_bendTold : Bool) (t_hourTold : Bool) (t_yardsF : Nat → Int32) (t_pacesF : Nat → Int32) (h_t_guests : t_guests ≤ 6) (h_t_snows : t_snows ≤ 12) : Met l yX4_begin wsX4_begin ({ frames := 1, cells := 0, slots := 0, locals := 70 }) (va_Pc [.ref d, .ref t] (kz_Pre D k [(d, kO 4 [.ref d_yards, .ref d_paces, .ref d_stuck, .ref d_hirers, .ref d_places, .ref d_cameAt, .ref d_cooked, .int d_inside, .int d_night, .int d_minute, .int d_tasted, .int d_lastCook, .int (bB d_stirred)]), (d_yards, kI k 6 d_yardsF), (d_paces, kI k 6 d_pacesF), (d_stuck, kI k 6 d_stuckF), (d_hirers, kI k 6 d_hirersF), (d_places, kI k 6 d_placesF), (d_cameAt, kI k 6 d_cameAtF), (d_cooked, kI k 6 d_cookedF), (t, kO 7 [.ref t_names, .ref t_kinds, .ref t_yards, .ref t_paces, .ref t_skills, .ref t_snow, .ref tw, .int (nI t_guests), .int (nI t_snows), .int t_bend, .int t_hour, .int (bB t_bendTold), .int (bB t_hourTold)]), (t_yards, kI k 6 t_yardsF), (t_paces, kI k 6 t_pacesF)] sz)) (va_Qv (fun (uu : Int32 × Int32 × Int32 × Int32 × Int32 × (Nat → Int32) × (Nat → Int32) × (Nat → Int32) × (Nat → Int32) × (Nat → Int32) × (Nat → Int32) × (Nat → Int32)) => ((uu.1, uu.2.1, uu.2.2.1, uu.2.2.2.1, uu.2.2.2.2.1, uu.2.2.2.2.2.1, uu.2.2.2.2.2.2.1, uu.2.2.2.2.2.2.2.1, uu.2.2.2.2.2.2.2.2.1, uu.2.2.2.2.2.2.2.2.2.1, uu.2.2.2.2.2.2.2.2.2.2.1, uu.2.2.2.2.2.2.2.2.2.2.2) = (fX4_begin d_yardsF d_pacesF d_stuckF d_hirersF d_placesF d_cameAtF d_cookedF t_guests t_yardsF t_pacesF))) (fun uu zt => kz_B D (va_A [(d, kO 4 [.ref d_yards, .ref d_paces, .ref d_stuck, .ref d_hirers, .ref d_places, .ref d_cameAt, .ref d_cooked, .int d_inside, .int d_night, .int d_minute, .int d_tasted, .int d_lastCook, .int (bB d_stirred)]), (d_yards, kI k 6 d_yardsF), (d_paces, kI k 6 d_pacesF), (d_stuck, kI k 6 d_stuckF), (d_hirers, kI k 6 d_hirersF), (d_places, kI k 6 d_placesF), (d_cameAt, kI k 6 d_cameAtF), (d_cooked, kI k 6 d_cookedF), (t, kO 7 [.ref t_names, .ref t_kinds, .ref t_yards, .ref t_paces, .ref t_skills, .ref t_snow, .ref tw, .int (nI t_guests), .int (nI t_snows), .int t_bend, .int t_hour, .int (bB t_bendTold), .int (bB t_hourTold)]), (t_yards, kI k 6 t_yardsF), (t_paces, kI k 6 t_pacesF)] sz) [(d, kO 4 [.ref d_yards, .ref d_paces, .ref d_stuck, .ref d_hirers, .ref d_places, .ref d_cameAt, .ref d_cooked, .int uu.1, .int uu.2.1, .int uu.2.2.1, .int uu.2.2.2.1, .int uu.2.2.2.2.1, .int (bB d_stirred)]), (d_yards, kI k 6 uu.2.2.2.2.2.1), (d_paces, kI k 6 uu.2.2.2.2.2.2.1), (d_stuck, kI k 6 uu.2.2.2.2.2.2.2.1), (d_hirers, kI k 6 uu.2.2.2.2.2.2.2.2.1), (d_places, kI k 6 uu.2.2.2.2.2.2.2.2.2.1), (d_cameAt, kI k 6 uu.2.2.2.2.2.2.2.2.2.2.1), (d_cooked, kI k 6 uu.2.2.2.2.2.2.2.2.2.2.2), (t, kO 7 [.ref t_names, .ref t_kinds, .ref t_yards, .ref t_paces, .ref t_skills, .ref t_snow, .ref tw, .int (nI t_guests), .int (nI t_snows), .int t_bend, .int t_hour, .int (bB t_bendTold), .int (bB t_hourTold)]), (t_yards, kI k 6 t_yardsF), (t_paces, kI k 6 t_pacesF)] zt) (va_A [(d, kO 4 [.ref d_yards, .ref d_paces, .ref d_stuck, .ref d_hirers, .ref d_places, .ref d_cameAt, .ref d_cooked, .int d_inside, .int d_night, .int d_minute, .int d_tasted, .int d_lastCook, .int (bB d_stirred)]), (d_yards, kI k 6 d_yardsF), (d_paces, kI k 6 d_pacesF), (d_stuck, kI k 6 d_stuckF), (d_hirers, kI k 6 d_hirersF), (d_places, kI k 6 d_placesF), (d_cameAt, kI k 6 d_cameAtF), (d_cooked, kI k 6 d_cookedF), (t, kO 7 [.ref t_names, .ref t_kinds, .ref t_yards, .ref t_paces, .ref t_skills, .ref t_snow, .ref tw, .int (nI t_guests), .int (nI t_snows), .int t_bend, .int t_hour, .int (bB t_bendTold), .int (bB t_hourTold)]), (t_yards, kI k 6 t_yardsF), (t_paces, kI k 6 t_pacesF)] sz)) 0 0 (va_A [(d, kO 4 [.ref d_yards, .ref d_paces, .ref d_stuck, .ref d_hirers, .ref d_places, .ref d_cameAt, .ref d_cooked, .int d_inside, .int d_night, .int d_minute, .int d_tasted, .int d_lastCook, .int (bB d_stirred)]), (d_yards, kI k 6 d_yardsF), (d_paces, kI k 6 d_pacesF), (d_stuck, kI k 6 d_stuckF), (d_hirers, kI k 6 d_hirersF), (d_places, kI k 6 d_placesF), (d_cameAt, kI k 6 d_cameAtF), (d_cooked, kI k 6 d_cookedF), (t, kO 7 [.ref t_names, .ref t_kinds, .ref t_yards, .ref t_paces, .ref t_skills, .ref t_snow, .ref tw, .int (nI t_guests), .int (nI t_snows), .int t_bend, .int t_hour, .int (bB t_bendTold), .int (bB t_hourTold)]), (t_yards, kI k 6 t_yardsF), (t_paces, kI k 6 t_pacesF)] sz) := by
  refine Met.ofW (cc := cX4_begin) (maxL := 3) (ret := none) (by decide) rfl ?_
  intro p e s m args below meth c s₁ B hml hv
  obtain ⟨hav, hsz, hP, hK, hD0, hE⟩ := hv
  have hx := B.exec
  have hb := B.bytes
  have hr := B.returns
  have hts := atoms_spec (ws := wsX4_begin) B.pre
  have hown : s.vm.findClass RX4 = some m.cls := findClass_of_methodNamed B.named
  have hlocks := B.notSynchronized
  have hi4 : ∀ w ∈ u_ws RX4 TX4 13, w ∈ wsX4_begin := fun w h9 => List.mem_cons_of_mem _ (List.mem_append_left _ (List.mem_append_right _ h9))
  have lf37 := hts (.fieldLink RX4 37 "LastCook$Road" "night" "I") (List.mem_cons_of_mem _ (List.mem_append_left _ (List.mem_append_left _ (List.mem_of_getElem? (i := 0) rfl))))
  have lf40 := hts (.fieldLink RX4 40 "LastCook$Road" "tasted" "I") (List.mem_cons_of_mem _ (List.mem_append_left _ (List.mem_append_left _ (List.mem_of_getElem? (i := 1) rfl))))
  have lf33 := hts (.fieldLink RX4 33 "LastCook$Road" "lastCook" "I") (List.mem_cons_of_mem _ (List.mem_append_left _ (List.mem_append_left _ (List.mem_of_getElem? (i := 2) rfl))))
  have lf30 := hts (.fieldLink RX4 30 "LastCook$Road" "cooked" "[I") (List.mem_cons_of_mem _ (List.mem_append_left _ (List.mem_append_left _ (List.mem_of_getElem? (i := 3) rfl))))
  subst hsz
  have hD := hD0.self (sz := s.heap.size)
  generalize hAe : va_A [(d, kO 4 [.ref d_yards, .ref d_paces, .ref d_stuck, .ref d_hirers, .ref d_places, .ref d_cameAt, .ref d_cooked, .int d_inside, .int d_night, .int d_minute, .int d_tasted, .int d_lastCook, .int (bB d_stirred)]), (d_yards, kI k 6 d_yardsF), (d_paces, kI k 6 d_pacesF), (d_stuck, kI k 6 d_stuckF), (d_hirers, kI k 6 d_hirersF), (d_places, kI k 6 d_placesF), (d_cameAt, kI k 6 d_cameAtF), (d_cooked, kI k 6 d_cookedF), (t, kO 7 [.ref t_names, .ref t_kinds, .ref t_yards, .ref t_paces, .ref t_skills, .ref t_snow, .ref tw, .int (nI t_guests), .int (nI t_snows), .int t_bend, .int t_hour, .int (bB t_bendTold), .int (bB t_hourTold)]), (t_yards, kI k 6 t_yardsF), (t_paces, kI k 6 t_pacesF)] s.heap.size = A at hD ⊢
  have hA : ∀ q : Nat, s.heap.size ≤ q → A q := fun q h => by rw [← hAe]; exact Or.inr h
  have hS : va_S A s.heap s.heap [] := va_S.rf
  have hl := lv_entry ([.ref d, .ref t]) (n := 3) (Nat.le_of_ble_eq_true rfl)
  rw [show entryFrame m args 3 = entryFrame m ([.ref d, .ref t] : List Value).toArray 3 by rw [hav], lg_entry_eq]
  generalize (lg_sl ([.ref d, .ref t]) ++ List.replicate (3 - (lg_sl ([.ref d, .ref t])).length) Slot.unset).toArray = ls at hl ⊢
  have hl : lv_has ls 3 [(0, .ref d), (1, .ref t)] := hl
  obtain ⟨R, hR⟩ : ∃ R, R = (headSpec wsX4_begin ({ frames := 1, cells := 0, slots := 0, locals := 70 } : Room)).room := ⟨_, rfl⟩
  rw [← hR]
  generalize hQ : MQ below _ args s 0 0 A = Q
  replace hQ := hQ.symm
  obtain ⟨H, hH⟩ : ∃ H, H = s.heap := ⟨_, rfl⟩
  rw [← hH] at hP ⊢
  have hS : va_S A s.heap H [] := by rw [hH]; exact hS
  obtain ⟨E0, hE0⟩ : ∃ E0 : Int32 × Int32 × Int32 × Int32 × Int32 × (Nat → Int32) × (Nat → Int32) × (Nat → Int32) × (Nat → Int32) × (Nat → Int32) × (Nat → Int32) × (Nat → Int32), E0 = (fX4_begin d_yardsF d_pacesF d_stuckF d_hirersF d_placesF d_cameAtF d_cookedF t_guests t_yardsF t_pacesF) := ⟨_, rfl⟩
  have hZ : (fX4_begin d_yardsF d_pacesF d_stuckF d_hirersF d_placesF d_cameAtF d_cookedF t_guests t_yardsF t_pacesF) = E0 := hE0.symm
  refine lv_aload_n hx hb dX4_begin_0 rfl (lv_at hl 0 rfl) ?_
  refine lv_iconst (v := 0) hx hb dX4_begin_1 (by decide) ?_
  refine va_put (D := D) (ci := 4) (v := .int 0) (ty := .int) (C := RX4) (T := TX4) (N := 13) hx hb hts hi4 tyX4 tyX4_ok nmX4 hown hK hP hD hS 0 rfl rfl 8 (by decide) lf37 (fun _ h9 => h9) rfl (by decide +kernel) rfl rfl (Nat.le_of_ble_eq_true rfl) dX4_begin_2 (fun H locs hP hD hS => ?_)
  exact by
   have hP : va_P D vwCl [(d, kO 4 [.ref d_yards, .ref d_paces, .ref d_stuck, .ref d_hirers, .ref d_places, .ref d_cameAt, .ref d_cooked, .int d_inside, .int 0, .int d_minute, .int d_tasted, .int d_lastCook, .int (bB d_stirred)]), (d_yards, kI k 6 d_yardsF), (d_paces, kI k 6 d_pacesF), (d_stuck, kI k 6 d_stuckF), (d_hirers, kI k 6 d_hirersF), (d_places, kI k 6 d_placesF), (d_cameAt, kI k 6 d_cameAtF), (d_cooked, kI k 6 d_cookedF), (t, kO 7 [.ref t_names, .ref t_kinds, .ref t_yards, .ref t_paces, .ref t_skills, .ref t_snow, .ref tw, .int (nI t_guests), .int (nI t_snows), .int t_bend, .int t_hour, .int (bB t_bendTold), .int (bB t_hourTold)]), (t_yards, kI k 6 t_yardsF), (t_paces, kI k 6 t_pacesF)] H := hP
   have hD : va_D A [(d, kO 4 [.ref d_yards, .ref d_paces, .ref d_stuck, .ref d_hirers, .ref d_places, .ref d_cameAt, .ref d_cooked, .int d_inside, .int 0, .int d_minute, .int d_tasted, .int d_lastCook, .int (bB d_stirred)]), (d_yards, kI k 6 d_yardsF), (d_paces, kI k 6 d_pacesF), (d_stuck, kI k 6 d_stuckF), (d_hirers, kI k 6 d_hirersF), (d_places, kI k 6 d_placesF), (d_cameAt, kI k 6 d_cameAtF), (d_cooked, kI k 6 d_cookedF), (t, kO 7 [.ref t_names, .ref t_kinds, .ref t_yards, .ref t_paces, .ref t_skills, .ref t_snow, .ref tw, .int (nI t_guests), .int (nI t_snows), .int t_bend, .int t_hour, .int (bB t_bendTold), .int (bB t_hourTold)]), (t_yards, kI k 6 t_yardsF), (t_paces, kI k 6 t_pacesF)] := hD
   refine lv_aload_n hx hb dX4_begin_5 rfl (lv_at hl 0 rfl) ?_
   refine lv_iconst (v := 0) hx hb dX4_begin_6 (by decide) ?_
   refine va_put (D := D) (ci := 4) (v := .int 0) (ty := .int) (C := RX4) (T := TX4) (N := 13) hx hb hts hi4 tyX4 tyX4_ok nmX4 hown hK hP hD hS 0 rfl rfl 10 (by decide) lf40 (fun _ h9 => h9) rfl (by decide +kernel) rfl rfl (Nat.le_of_ble_eq_true rfl) dX4_begin_7 (fun H locs hP hD hS => ?_)
   exact by
    have hP : va_P D vwCl [(d, kO 4 [.ref d_yards, .ref d_paces, .ref d_stuck, .ref d_hirers, .ref d_places, .ref d_cameAt, .ref d_cooked, .int d_inside, .int 0, .int d_minute, .int 0, .int d_lastCook, .int (bB d_stirred)]), (d_yards, kI k 6 d_yardsF), (d_paces, kI k 6 d_pacesF), (d_stuck, kI k 6 d_stuckF), (d_hirers, kI k 6 d_hirersF), (d_places, kI k 6 d_placesF), (d_cameAt, kI k 6 d_cameAtF), (d_cooked, kI k 6 d_cookedF), (t, kO 7 [.ref t_names, .ref t_kinds, .ref t_yards, .ref t_paces, .ref t_skills, .ref t_snow, .ref tw, .int (nI t_guests), .int (nI t_snows), .int t_bend, .int t_hour, .int (bB t_bendTold), .int (bB t_hourTold)]), (t_yards, kI k 6 t_yardsF), (t_paces, kI k 6 t_pacesF)] H := hP
    have hD : va_D A [(d, kO 4 [.ref d_yards, .ref d_paces, .ref d_stuck, .ref d_hirers, .ref d_places, .ref d_cameAt, .ref d_cooked, .int d_inside, .int 0, .int d_minute, .int 0, .int d_lastCook, .int (bB d_stirred)]), (d_yards, kI k 6 d_yardsF), (d_paces, kI k 6 d_pacesF), (d_stuck, kI k 6 d_stuckF), (d_hirers, kI k 6 d_hirersF), (d_places, kI k 6 d_placesF), (d_cameAt, kI k 6 d_cameAtF), (d_cooked, kI k 6 d_cookedF), (t, kO 7 [.ref t_names, .ref t_kinds, .ref t_yards, .ref t_paces, .ref t_skills, .ref t_snow, .ref tw, .int (nI t_guests), .int (nI t_snows), .int t_bend, .int t_hour, .int (bB t_bendTold), .int (bB t_hourTold)]), (t_yards, kI k 6 t_yardsF), (t_paces, kI k 6 t_pacesF)] := hD
    refine lv_aload_n hx hb dX4_begin_10 rfl (lv_at hl 0 rfl) ?_
    refine lv_iconst (v := (-1)) hx hb dX4_begin_11 (by decide) ?_
    refine va_put (D := D) (ci := 4) (v := .int (-1)) (ty := .int) (C := RX4) (T := TX4) (N := 13) hx hb hts hi4 tyX4 tyX4_ok nmX4 hown hK hP hD hS 0 rfl rfl 11 (by decide) lf33 (fun _ h9 => h9) rfl (by decide +kernel) rfl rfl (Nat.le_of_ble_eq_true rfl) dX4_begin_12 (fun H locs hP hD hS => ?_)
    exact by
     have hP : va_P D vwCl [(d, kO 4 [.ref d_yards, .ref d_paces, .ref d_stuck, .ref d_hirers, .ref d_places, .ref d_cameAt, .ref d_cooked, .int d_inside, .int 0, .int d_minute, .int 0, .int (-1), .int (bB d_stirred)]), (d_yards, kI k 6 d_yardsF), (d_paces, kI k 6 d_pacesF), (d_stuck, kI k 6 d_stuckF), (d_hirers, kI k 6 d_hirersF), (d_places, kI k 6 d_placesF), (d_cameAt, kI k 6 d_cameAtF), (d_cooked, kI k 6 d_cookedF), (t, kO 7 [.ref t_names, .ref t_kinds, .ref t_yards, .ref t_paces, .ref t_skills, .ref t_snow, .ref tw, .int (nI t_guests), .int (nI t_snows), .int t_bend, .int t_hour, .int (bB t_bendTold), .int (bB t_hourTold)]), (t_yards, kI k 6 t_yardsF), (t_paces, kI k 6 t_pacesF)] H := hP
     have hD : va_D A [(d, kO 4 [.ref d_yards, .ref d_paces, .ref d_stuck, .ref d_hirers, .ref d_places, .ref d_cameAt, .ref d_cooked, .int d_inside, .int 0, .int d_minute, .int 0, .int (-1), .int (bB d_stirred)]), (d_yards, kI k 6 d_yardsF), (d_paces, kI k 6 d_pacesF), (d_stuck, kI k 6 d_stuckF), (d_hirers, kI k 6 d_hirersF), (d_places, kI k 6 d_placesF), (d_cameAt, kI k 6 d_cameAtF), (d_cooked, kI k 6 d_cookedF), (t, kO 7 [.ref t_names, .ref t_kinds, .ref t_yards, .ref t_paces, .ref t_skills, .ref t_snow, .ref tw, .int (nI t_guests), .int (nI t_snows), .int t_bend, .int t_hour, .int (bB t_bendTold), .int (bB t_hourTold)]), (t_yards, kI k 6 t_yardsF), (t_paces, kI k 6 t_pacesF)] := hD
     refine lv_iconst (v := 0) hx hb dX4_begin_15 (by decide) ?_
     refine lv_istore_n (lv' := [(2, .int 0), (0, .ref d), (1, .ref t)]) hx hb dX4_begin_16 rfl hl (by decide) rfl (fun ls hl => ?_)
     exact by
      have hloop17 : ∀ (nq : Nat) (l2_17 : Nat) (ad_cooked_17 : Nat → Int32) (H : Heap) (locs : List Loc) (ls : Array Slot), (6 + 1 - l2_17) < nq → (l2_17 ≤ 6) → (lp (fun _ _ => ((0 : Int32), (0 : Int32), (0 : Int32), (0 : Int32), (0 : Int32), (fun _ => 0), (fun _ => 0), (fun _ => 0), (fun _ => 0), (fun _ => 0), (fun _ => 0), (fun _ => 0))) (fX4_begin_B17a d_yardsF d_pacesF d_stuckF d_hirersF d_placesF d_cameAtF t_guests t_yardsF t_pacesF) nq l2_17 ad_cooked_17 = E0) → va_P D vwCl [(d, kO 4 [.ref d_yards, .ref d_paces, .ref d_stuck, .ref d_hirers, .ref d_places, .ref d_cameAt, .ref d_cooked, .int d_inside, .int 0, .int d_minute, .int 0, .int (-1), .int (bB d_stirred)]), (d_yards, kI k 6 d_yardsF), (d_paces, kI k 6 d_pacesF), (d_stuck, kI k 6 d_stuckF), (d_hirers, kI k 6 d_hirersF), (d_places, kI k 6 d_placesF), (d_cameAt, kI k 6 d_cameAtF), (d_cooked, kI k 6 ad_cooked_17), (t, kO 7 [.ref t_names, .ref t_kinds, .ref t_yards, .ref t_paces, .ref t_skills, .ref t_snow, .ref tw, .int (nI t_guests), .int (nI t_snows), .int t_bend, .int t_hour, .int (bB t_bendTold), .int (bB t_hourTold)]), (t_yards, kI k 6 t_yardsF), (t_paces, kI k 6 t_pacesF)] H → va_D A [(d, kO 4 [.ref d_yards, .ref d_paces, .ref d_stuck, .ref d_hirers, .ref d_places, .ref d_cameAt, .ref d_cooked, .int d_inside, .int 0, .int d_minute, .int 0, .int (-1), .int (bB d_stirred)]), (d_yards, kI k 6 d_yardsF), (d_paces, kI k 6 d_pacesF), (d_stuck, kI k 6 d_stuckF), (d_hirers, kI k 6 d_hirersF), (d_places, kI k 6 d_placesF), (d_cameAt, kI k 6 d_cameAtF), (d_cooked, kI k 6 ad_cooked_17), (t, kO 7 [.ref t_names, .ref t_kinds, .ref t_yards, .ref t_paces, .ref t_skills, .ref t_snow, .ref tw, .int (nI t_guests), .int (nI t_snows), .int t_bend, .int t_hour, .int (bB t_bendTold), .int (bB t_hourTold)]), (t_yards, kI k 6 t_yardsF), (t_paces, kI k 6 t_pacesF)] → va_S A s.heap H locs → lv_has ls 3 [(0, .ref d), (1, .ref t), (2, .int (nI l2_17))] → W p l e R s m args below meth c H locs 0 0 Q (F0 m 17 ls []) := by
        intro n17
        induction n17 with
        | zero => intro l2_17 ad_cooked_17 H locs ls hm; exact absurd hm (Nat.not_lt_zero _)
        | succ n17 ih17 =>
          intro l2_17 ad_cooked_17 H locs ls hm17 i_l2_17 hZ hP hD hS hl
          obtain ⟨rc17_1, hrc17_1⟩ : ∃ r : Nat → (Nat → Int32) → Int32 × Int32 × Int32 × Int32 × Int32 × (Nat → Int32) × (Nat → Int32) × (Nat → Int32) × (Nat → Int32) × (Nat → Int32) × (Nat → Int32) × (Nat → Int32), r = lp (fun _ _ => ((0 : Int32), (0 : Int32), (0 : Int32), (0 : Int32), (0 : Int32), (fun _ => 0), (fun _ => 0), (fun _ => 0), (fun _ => 0), (fun _ => 0), (fun _ => 0), (fun _ => 0))) (fX4_begin_B17a d_yardsF d_pacesF d_stuckF d_hirersF d_placesF d_cameAtF t_guests t_yardsF t_pacesF) n17 := ⟨_, rfl⟩
          have hZ : (fX4_begin_B17a d_yardsF d_pacesF d_stuckF d_hirersF d_placesF d_cameAtF t_guests t_yardsF t_pacesF) rc17_1 l2_17 ad_cooked_17 = E0 := by rw [hrc17_1]; exact hZ
          refine lv_iload_n hx hb dX4_begin_17 rfl (lv_at hl 2 rfl) ?_
          refine lv_bipush (v := 6) hx hb dX4_begin_18 (by decide) ?_
          refine lv_icmp_ge (tgt := 36) hx hb dX4_begin_20 (by decide) (fun c_2 => ?_) (fun c_2 => ?_)
          · exact by
             have k_2 : 6 ≤ l2_17 := (nI_leI (a := 6) (b := l2_17) (by omega) (by omega)).mp c_2
             have hZ := (if_pos k_2).symm.trans hZ
             refine lv_aload_n hx hb dX4_begin_36 rfl (lv_at hl 0 rfl) ?_
             refine lv_aload_n hx hb dX4_begin_37 rfl (lv_at hl 1 rfl) ?_
             refine kz_Vv (As := [.ref t]) (rest := []) (wc := [(d, kO 4 [.ref d_yards, .ref d_paces, .ref d_stuck, .ref d_hirers, .ref d_places, .ref d_cameAt, .ref d_cooked, .int d_inside, .int 0, .int d_minute, .int 0, .int (-1), .int (bB d_stirred)]), (d_yards, kI k 6 d_yardsF), (d_paces, kI k 6 d_pacesF), (d_stuck, kI k 6 d_stuckF), (d_hirers, kI k 6 d_hirersF), (d_places, kI k 6 d_placesF), (d_cameAt, kI k 6 d_cameAtF), (t, kO 7 [.ref t_names, .ref t_kinds, .ref t_yards, .ref t_paces, .ref t_skills, .ref t_snow, .ref tw, .int (nI t_guests), .int (nI t_snows), .int t_bend, .int t_hour, .int (bB t_bendTold), .int (bB t_hourTold)]), (t_yards, kI k 6 t_yardsF), (t_paces, kI k 6 t_pacesF)]) (wr := [(d_cooked, kI k 6 ad_cooked_17)]) ⟨hx, hb, hml, hown, hts⟩ hK hE hP hD hS hA (sX4_beginNight l D k H.size d t d_yards d_paces d_stuck d_hirers d_places d_cameAt d_cooked d_inside 0 d_minute 0 (-1) d_stirred d_yardsF d_pacesF d_stuckF d_hirersF d_placesF d_cameAtF t_names t_kinds t_yards t_paces t_skills t_snow tw t_guests t_snows t_bend t_hour t_bendTold t_hourTold t_yardsF t_pacesF (by first | omega | assumption | decide) (by first | omega | assumption | decide)) (cwV 1 hts gX4_begin_X4_beginNight rfl rfl rfl (by decide +kernel) (by rw [hR]; exact ⟨Nat.le_of_ble_eq_true rfl, Nat.le_of_ble_eq_true rfl⟩)) [0, 1, 2, 3, 4, 5, 6, 8, 9, 10] [7] rfl rfl (by decide +kernel) (by decide +kernel) (by decide +kernel) 0 rfl rfl rfl hl.1 rfl (Nat.le_of_ble_eq_true rfl) dX4_begin_38 (by rw [hR]; exact ⟨Nat.le_of_ble_eq_true rfl, Nat.le_of_ble_eq_true rfl⟩) (fun u3 H locs hw3 hP hD hS => ?_)
             exact by
              obtain ⟨u_d_73, u_d_93, u_d_yards3, u_d_paces3, u_d_stuck3, u_d_hirers3, u_d_places3, u_d_cameAt3⟩ := u3
              try dsimp only at hw3
              have hP : va_P D vwCl [(d_cooked, kI k 6 ad_cooked_17), (d, kO 4 [.ref d_yards, .ref d_paces, .ref d_stuck, .ref d_hirers, .ref d_places, .ref d_cameAt, .ref d_cooked, .int u_d_73, .int 0, .int u_d_93, .int 0, .int (-1), .int (bB d_stirred)]), (d_yards, kI k 6 u_d_yards3), (d_paces, kI k 6 u_d_paces3), (d_stuck, kI k 6 u_d_stuck3), (d_hirers, kI k 6 u_d_hirers3), (d_places, kI k 6 u_d_places3), (d_cameAt, kI k 6 u_d_cameAt3), (t, kO 7 [.ref t_names, .ref t_kinds, .ref t_yards, .ref t_paces, .ref t_skills, .ref t_snow, .ref tw, .int (nI t_guests), .int (nI t_snows), .int t_bend, .int t_hour, .int (bB t_bendTold), .int (bB t_hourTold)]), (t_yards, kI k 6 t_yardsF), (t_paces, kI k 6 t_pacesF)] H := hP
              have hD : va_D A [(d_cooked, kI k 6 ad_cooked_17), (d, kO 4 [.ref d_yards, .ref d_paces, .ref d_stuck, .ref d_hirers, .ref d_places, .ref d_cameAt, .ref d_cooked, .int u_d_73, .int 0, .int u_d_93, .int 0, .int (-1), .int (bB d_stirred)]), (d_yards, kI k 6 u_d_yards3), (d_paces, kI k 6 u_d_paces3), (d_stuck, kI k 6 u_d_stuck3), (d_hirers, kI k 6 u_d_hirers3), (d_places, kI k 6 u_d_places3), (d_cameAt, kI k 6 u_d_cameAt3), (t, kO 7 [.ref t_names, .ref t_kinds, .ref t_yards, .ref t_paces, .ref t_skills, .ref t_snow, .ref tw, .int (nI t_guests), .int (nI t_snows), .int t_bend, .int t_hour, .int (bB t_bendTold), .int (bB t_hourTold)]), (t_yards, kI k 6 t_yardsF), (t_paces, kI k 6 t_pacesF)] := hD
              have hw3_0 := hw3
              have hZ := bn8_e hw3_0 hZ
              rw [hQ]
              have hP9 := hP.sub (ws' := [(d, kO 4 [.ref d_yards, .ref d_paces, .ref d_stuck, .ref d_hirers, .ref d_places, .ref d_cameAt, .ref d_cooked, .int u_d_73, .int (0 : Int32), .int u_d_93, .int (0 : Int32), .int ((-1) : Int32), .int (bB d_stirred)]), (d_yards, kI k 6 u_d_yards3), (d_paces, kI k 6 u_d_paces3), (d_stuck, kI k 6 u_d_stuck3), (d_hirers, kI k 6 u_d_hirers3), (d_places, kI k 6 u_d_places3), (d_cameAt, kI k 6 u_d_cameAt3), (d_cooked, kI k 6 ad_cooked_17), (t, kO 7 [.ref t_names, .ref t_kinds, .ref t_yards, .ref t_paces, .ref t_skills, .ref t_snow, .ref tw, .int (nI t_guests), .int (nI t_snows), .int t_bend, .int t_hour, .int (bB t_bendTold), .int (bB t_hourTold)]), (t_yards, kI k 6 t_yardsF), (t_paces, kI k 6 t_pacesF)]) [1, 2, 3, 4, 5, 6, 7, 0, 8, 9, 10] rfl
              have hD9 := hD.sub (ws' := [(d, kO 4 [.ref d_yards, .ref d_paces, .ref d_stuck, .ref d_hirers, .ref d_places, .ref d_cameAt, .ref d_cooked, .int u_d_73, .int (0 : Int32), .int u_d_93, .int (0 : Int32), .int ((-1) : Int32), .int (bB d_stirred)]), (d_yards, kI k 6 u_d_yards3), (d_paces, kI k 6 u_d_paces3), (d_stuck, kI k 6 u_d_stuck3), (d_hirers, kI k 6 u_d_hirers3), (d_places, kI k 6 u_d_places3), (d_cameAt, kI k 6 u_d_cameAt3), (d_cooked, kI k 6 ad_cooked_17), (t, kO 7 [.ref t_names, .ref t_kinds, .ref t_yards, .ref t_paces, .ref t_skills, .ref t_snow, .ref tw, .int (nI t_guests), .int (nI t_snows), .int t_bend, .int t_hour, .int (bB t_bendTold), .int (bB t_hourTold)]), (t_yards, kI k 6 t_yardsF), (t_paces, kI k 6 t_pacesF)]) [1, 2, 3, 4, 5, 6, 7, 0, 8, 9, 10] (by decide +kernel) rfl
              exact W.vret hx hb hr (fun zt ht hW => ⟨⟨⟨u_d_73, (0 : Int32), u_d_93, (0 : Int32), ((-1) : Int32), u_d_yards3, u_d_paces3, u_d_stuck3, u_d_hirers3, u_d_places3, u_d_cameAt3, ad_cooked_17⟩, rfl, (hZ.trans hE0), by rw [ht]; exact hP9, hD9⟩, hS.F ht⟩) hS.2.2 dX4_begin_41
          · exact by
             have k_2 : ¬ (6 ≤ l2_17) := fun h => c_2 ((nI_leI (a := 6) (b := l2_17) (by omega) (by omega)).mpr h)
             have hZ := (if_neg k_2).symm.trans hZ
             refine lv_aload_n hx hb dX4_begin_23 rfl (lv_at hl 0 rfl) ?_
             refine va_get (D := D) (ci := 4) (v := .ref d_cooked) (C := RX4) (T := TX4) (N := 13) hx hb hts hi4 hown hK hP 0 rfl rfl 6 (by decide) lf30 (fun _ h9 => h9) rfl dX4_begin_24 ?_
             refine lv_iload_n hx hb dX4_begin_27 rfl (lv_at hl 2 rfl) ?_
             refine lv_iconst (v := 0) hx hb dX4_begin_28 (by decide) ?_
             refine va_iast hx hb hK hP hD hS 7 0 rfl rfl (vp_in_nI (n := l2_17) (by omega) (by omega)) dX4_begin_29 (fun H locs hP hD hS => ?_)
             exact by
              have hP : va_P D vwCl [(d, kO 4 [.ref d_yards, .ref d_paces, .ref d_stuck, .ref d_hirers, .ref d_places, .ref d_cameAt, .ref d_cooked, .int d_inside, .int 0, .int d_minute, .int 0, .int (-1), .int (bB d_stirred)]), (d_yards, kI k 6 d_yardsF), (d_paces, kI k 6 d_pacesF), (d_stuck, kI k 6 d_stuckF), (d_hirers, kI k 6 d_hirersF), (d_places, kI k 6 d_placesF), (d_cameAt, kI k 6 d_cameAtF), (d_cooked, kI k 6 (upd ad_cooked_17 (Int32.toNatClampNeg (nI l2_17)) 0)), (t, kO 7 [.ref t_names, .ref t_kinds, .ref t_yards, .ref t_paces, .ref t_skills, .ref t_snow, .ref tw, .int (nI t_guests), .int (nI t_snows), .int t_bend, .int t_hour, .int (bB t_bendTold), .int (bB t_hourTold)]), (t_yards, kI k 6 t_yardsF), (t_paces, kI k 6 t_pacesF)] H := hP
              have hD : va_D A [(d, kO 4 [.ref d_yards, .ref d_paces, .ref d_stuck, .ref d_hirers, .ref d_places, .ref d_cameAt, .ref d_cooked, .int d_inside, .int 0, .int d_minute, .int 0, .int (-1), .int (bB d_stirred)]), (d_yards, kI k 6 d_yardsF), (d_paces, kI k 6 d_pacesF), (d_stuck, kI k 6 d_stuckF), (d_hirers, kI k 6 d_hirersF), (d_places, kI k 6 d_placesF), (d_cameAt, kI k 6 d_cameAtF), (d_cooked, kI k 6 (upd ad_cooked_17 (Int32.toNatClampNeg (nI l2_17)) 0)), (t, kO 7 [.ref t_names, .ref t_kinds, .ref t_yards, .ref t_paces, .ref t_skills, .ref t_snow, .ref tw, .int (nI t_guests), .int (nI t_snows), .int t_bend, .int t_hour, .int (bB t_bendTold), .int (bB t_hourTold)]), (t_yards, kI k 6 t_yardsF), (t_paces, kI k 6 t_pacesF)] := hD
              refine lv_iinc (v := (nI (l2_17 + 1))) (lv' := [(2, .int (nI (l2_17 + 1))), (0, .ref d), (1, .ref t)]) hx hb dX4_begin_30 hl (k := 2) rfl (nI_1 _) (by decide) rfl (fun ls hl => ?_)
              exact by
               refine lv_goto (tgt := 17) hx hb dX4_begin_33 (by decide) ?_
               exact ih17 (l2_17 + 1) (upd ad_cooked_17 (Int32.toNatClampNeg (nI l2_17)) 0) _ _ _ (by omega) (by first | omega | assumption) (by rw [← hrc17_1]; exact hZ) (hP.sub [0, 1, 2, 3, 4, 5, 6, 7, 8, 9, 10] rfl) (hD.sub [0, 1, 2, 3, 4, 5, 6, 7, 8, 9, 10] (by decide +kernel) rfl) hS (lv_sub hl [1, 2, 0] rfl)
      exact hloop17 ((6 + 1 - 0) + 1) 0 d_cookedF _ _ _ (Nat.lt_succ_self _) (by first | omega | assumption) hZ (hP.sub [0, 1, 2, 3, 4, 5, 6, 7, 8, 9, 10] rfl) (hD.sub [0, 1, 2, 3, 4, 5, 6, 7, 8, 9, 10] (by decide +kernel) rfl) hS (lv_sub hl [1, 2, 0] rfl)
set_option maxHeartbeats 4000000 in
set_option maxRecDepth 100000 in
theorem sX4_copyFrom (l : Launch) (D : va_G) (k : Nat → ClassId) (sz : Nat) (d : Nat) (dd : Nat) (d_yards : Nat) (d_paces : Nat) (d_stuck : Nat) (d_hirers : Nat) (d_places : Nat) (d_cameAt : Nat) (d_cooked : Nat) (d_inside : Int32) (d_night : Int32) (d_minute : Int32) (d_tasted : Int32) (d_lastCook : Int32) (d_stirred : Bool) (d_yardsF : Nat → Int32) (d_pacesF : Nat → Int32) (d_stuckF : Nat → Int32) (d_hirersF : Nat → Int32) (d_placesF : Nat → Int32) (d_cameAtF : Nat → Int32) (d_cookedF : Nat → Int32) (dd_yards : Nat) (dd_paces : Nat) (dd_stuck : Nat) (dd_hirers : Nat) (dd_places : Nat) (dd_cameAt : Nat) (dd_cooked : Nat) (dd_inside : Int32) (dd_night : Int32) (dd_minute : Int32) (dd_tasted : Int32) (dd_lastCook : Int32) (dd_stirred : Bool) (dd_yardsF : Nat → Int32) (dd_pacesF : Nat → Int32) (dd_stuckF : Nat → Int32) (dd_hirersF : Nat → Int32) (dd_placesF : Nat → Int32) (dd_cameAtF : Nat → Int32) (dd_cookedF : Nat → Int32) : Met l yX4_copyFrom wsX4_copyFrom ({ frames := 1, cells := 0, slots := 0, locals := 70 }) (va_Pc [.ref d, .ref dd] (kz_Pre D k [(d, kO 4 [.ref d_yards, .ref d_paces, .ref d_stuck, .ref d_hirers, .ref d_places, .ref d_cameAt, .ref d_cooked, .int d_inside, .int d_night, .int d_minute, .int d_tasted, .int d_lastCook, .int (bB d_stirred)]), (d_yards, kI k 6 d_yardsF), (d_paces, kI k 6 d_pacesF), (d_stuck, kI k 6 d_stuckF), (d_hirers, kI k 6 d_hirersF), (d_places, kI k 6 d_placesF), (d_cameAt, kI k 6 d_cameAtF), (d_cooked, kI k 6 d_cookedF), (dd, kO 4 [.ref dd_yards, .ref dd_paces, .ref dd_stuck, .ref dd_hirers, .ref dd_places, .ref dd_cameAt, .ref dd_cooked, .int dd_inside, .int dd_night, .int dd_minute, .int dd_tasted, .int dd_lastCook, .int (bB dd_stirred)]), (dd_yards, kI k 6 dd_yardsF), (dd_paces, kI k 6 dd_pacesF), (dd_stuck, kI k 6 dd_stuckF), (dd_hirers, kI k 6 dd_hirersF), (dd_places, kI k 6 dd_placesF), (dd_cameAt, kI k 6 dd_cameAtF), (dd_cooked, kI k 6 dd_cookedF)] sz)) (va_Qv (fun (uu : Int32 × Int32 × Int32 × Int32 × Int32 × (Nat → Int32) × (Nat → Int32) × (Nat → Int32) × (Nat → Int32) × (Nat → Int32) × (Nat → Int32) × (Nat → Int32)) => ((uu.1, uu.2.1, uu.2.2.1, uu.2.2.2.1, uu.2.2.2.2.1, uu.2.2.2.2.2.1, uu.2.2.2.2.2.2.1, uu.2.2.2.2.2.2.2.1, uu.2.2.2.2.2.2.2.2.1, uu.2.2.2.2.2.2.2.2.2.1, uu.2.2.2.2.2.2.2.2.2.2.1, uu.2.2.2.2.2.2.2.2.2.2.2) = (fX4_copyFrom d_yardsF d_pacesF d_stuckF d_hirersF d_placesF d_cameAtF d_cookedF dd_inside dd_night dd_minute dd_tasted dd_lastCook dd_yardsF dd_pacesF dd_stuckF dd_hirersF dd_placesF dd_cameAtF dd_cookedF))) (fun uu zt => kz_B D (va_A [(d, kO 4 [.ref d_yards, .ref d_paces, .ref d_stuck, .ref d_hirers, .ref d_places, .ref d_cameAt, .ref d_cooked, .int d_inside, .int d_night, .int d_minute, .int d_tasted, .int d_lastCook, .int (bB d_stirred)]), (d_yards, kI k 6 d_yardsF), (d_paces, kI k 6 d_pacesF), (d_stuck, kI k 6 d_stuckF), (d_hirers, kI k 6 d_hirersF), (d_places, kI k 6 d_placesF), (d_cameAt, kI k 6 d_cameAtF), (d_cooked, kI k 6 d_cookedF), (dd, kO 4 [.ref dd_yards, .ref dd_paces, .ref dd_stuck, .ref dd_hirers, .ref dd_places, .ref dd_cameAt, .ref dd_cooked, .int dd_inside, .int dd_night, .int dd_minute, .int dd_tasted, .int dd_lastCook, .int (bB dd_stirred)]), (dd_yards, kI k 6 dd_yardsF), (dd_paces, kI k 6 dd_pacesF), (dd_stuck, kI k 6 dd_stuckF), (dd_hirers, kI k 6 dd_hirersF), (dd_places, kI k 6 dd_placesF), (dd_cameAt, kI k 6 dd_cameAtF), (dd_cooked, kI k 6 dd_cookedF)] sz) [(d, kO 4 [.ref d_yards, .ref d_paces, .ref d_stuck, .ref d_hirers, .ref d_places, .ref d_cameAt, .ref d_cooked, .int uu.1, .int uu.2.1, .int uu.2.2.1, .int uu.2.2.2.1, .int uu.2.2.2.2.1, .int (bB d_stirred)]), (d_yards, kI k 6 uu.2.2.2.2.2.1), (d_paces, kI k 6 uu.2.2.2.2.2.2.1), (d_stuck, kI k 6 uu.2.2.2.2.2.2.2.1), (d_hirers, kI k 6 uu.2.2.2.2.2.2.2.2.1), (d_places, kI k 6 uu.2.2.2.2.2.2.2.2.2.1), (d_cameAt, kI k 6 uu.2.2.2.2.2.2.2.2.2.2.1), (d_cooked, kI k 6 uu.2.2.2.2.2.2.2.2.2.2.2), (dd, kO 4 [.ref dd_yards, .ref dd_paces, .ref dd_stuck, .ref dd_hirers, .ref dd_places, .ref dd_cameAt, .ref dd_cooked, .int dd_inside, .int dd_night, .int dd_minute, .int dd_tasted, .int dd_lastCook, .int (bB dd_stirred)]), (dd_yards, kI k 6 dd_yardsF), (dd_paces, kI k 6 dd_pacesF), (dd_stuck, kI k 6 dd_stuckF), (dd_hirers, kI k 6 dd_hirersF), (dd_places, kI k 6 dd_placesF), (dd_cameAt, kI k 6 dd_cameAtF), (dd_cooked, kI k 6 dd_cookedF)] zt) (va_A [(d, kO 4 [.ref d_yards, .ref d_paces, .ref d_stuck, .ref d_hirers, .ref d_places, .ref d_cameAt, .ref d_cooked, .int d_inside, .int d_night, .int d_minute, .int d_tasted, .int d_lastCook, .int (bB d_stirred)]), (d_yards, kI k 6 d_yardsF), (d_paces, kI k 6 d_pacesF), (d_stuck, kI k 6 d_stuckF), (d_hirers, kI k 6 d_hirersF), (d_places, kI k 6 d_placesF), (d_cameAt, kI k 6 d_cameAtF), (d_cooked, kI k 6 d_cookedF), (dd, kO 4 [.ref dd_yards, .ref dd_paces, .ref dd_stuck, .ref dd_hirers, .ref dd_places, .ref dd_cameAt, .ref dd_cooked, .int dd_inside, .int dd_night, .int dd_minute, .int dd_tasted, .int dd_lastCook, .int (bB dd_stirred)]), (dd_yards, kI k 6 dd_yardsF), (dd_paces, kI k 6 dd_pacesF), (dd_stuck, kI k 6 dd_stuckF), (dd_hirers, kI k 6 dd_hirersF), (dd_places, kI k 6 dd_placesF), (dd_cameAt, kI k 6 dd_cameAtF), (dd_cooked, kI k 6 dd_cookedF)] sz)) 0 0 (va_A [(d, kO 4 [.ref d_yards, .ref d_paces, .ref d_stuck, .ref d_hirers, .ref d_places, .ref d_cameAt, .ref d_cooked, .int d_inside, .int d_night, .int d_minute, .int d_tasted, .int d_lastCook, .int (bB d_stirred)]), (d_yards, kI k 6 d_yardsF), (d_paces, kI k 6 d_pacesF), (d_stuck, kI k 6 d_stuckF), (d_hirers, kI k 6 d_hirersF), (d_places, kI k 6 d_placesF), (d_cameAt, kI k 6 d_cameAtF), (d_cooked, kI k 6 d_cookedF), (dd, kO 4 [.ref dd_yards, .ref dd_paces, .ref dd_stuck, .ref dd_hirers, .ref dd_places, .ref dd_cameAt, .ref dd_cooked, .int dd_inside, .int dd_night, .int dd_minute, .int dd_tasted, .int dd_lastCook, .int (bB dd_stirred)]), (dd_yards, kI k 6 dd_yardsF), (dd_paces, kI k 6 dd_pacesF), (dd_stuck, kI k 6 dd_stuckF), (dd_hirers, kI k 6 dd_hirersF), (dd_places, kI k 6 dd_placesF), (dd_cameAt, kI k 6 dd_cameAtF), (dd_cooked, kI k 6 dd_cookedF)] sz) := by
  refine Met.ofW (cc := cX4_copyFrom) (maxL := 2) (ret := none) (by decide) rfl ?_
  intro p e s m args below meth c s₁ B hml hv
  obtain ⟨hav, hsz, hP, hK, hD0, hE⟩ := hv
  have hx := B.exec
  have hb := B.bytes
  have hr := B.returns
  have hts := atoms_spec (ws := wsX4_copyFrom) B.pre
  have hown : s.vm.findClass RX4 = some m.cls := findClass_of_methodNamed B.named
  have hlocks := B.notSynchronized
  have hi4 : ∀ w ∈ u_ws RX4 TX4 13, w ∈ wsX4_copyFrom := fun w h9 => List.mem_cons_of_mem _ (List.mem_append_right _ h9)
  have lf9 := hts (.fieldLink RX4 9 "LastCook$Road" "yards" "[I") (List.mem_cons_of_mem _ (List.mem_append_left _ (List.mem_of_getElem? (i := 0) rfl)))
  have lm60 := hts (.methodLink RX4 60 arraycopyName) (List.mem_cons_of_mem _ (List.mem_append_left _ (List.mem_of_getElem? (i := 1) rfl)))
  have lna := hts (.native arraycopyName) (List.mem_cons_of_mem _ (List.mem_append_left _ (List.mem_of_getElem? (i := 2) rfl)))
  have lsa := hts (.static arraycopyName) (List.mem_cons_of_mem _ (List.mem_append_left _ (List.mem_of_getElem? (i := 3) rfl)))
  have lia := hts (.initialized "java/lang/System") (List.mem_cons_of_mem _ (List.mem_append_left _ (List.mem_of_getElem? (i := 4) rfl)))
  have lf15 := hts (.fieldLink RX4 15 "LastCook$Road" "paces" "[I") (List.mem_cons_of_mem _ (List.mem_append_left _ (List.mem_of_getElem? (i := 5) rfl)))
  have lf18 := hts (.fieldLink RX4 18 "LastCook$Road" "stuck" "[I") (List.mem_cons_of_mem _ (List.mem_append_left _ (List.mem_of_getElem? (i := 6) rfl)))
  have lf21 := hts (.fieldLink RX4 21 "LastCook$Road" "hirers" "[I") (List.mem_cons_of_mem _ (List.mem_append_left _ (List.mem_of_getElem? (i := 7) rfl)))
  have lf24 := hts (.fieldLink RX4 24 "LastCook$Road" "places" "[I") (List.mem_cons_of_mem _ (List.mem_append_left _ (List.mem_of_getElem? (i := 8) rfl)))
  have lf27 := hts (.fieldLink RX4 27 "LastCook$Road" "cameAt" "[I") (List.mem_cons_of_mem _ (List.mem_append_left _ (List.mem_of_getElem? (i := 9) rfl)))
  have lf30 := hts (.fieldLink RX4 30 "LastCook$Road" "cooked" "[I") (List.mem_cons_of_mem _ (List.mem_append_left _ (List.mem_of_getElem? (i := 10) rfl)))
  have lf50 := hts (.fieldLink RX4 50 "LastCook$Road" "inside" "I") (List.mem_cons_of_mem _ (List.mem_append_left _ (List.mem_of_getElem? (i := 11) rfl)))
  have lf37 := hts (.fieldLink RX4 37 "LastCook$Road" "night" "I") (List.mem_cons_of_mem _ (List.mem_append_left _ (List.mem_of_getElem? (i := 12) rfl)))
  have lf47 := hts (.fieldLink RX4 47 "LastCook$Road" "minute" "I") (List.mem_cons_of_mem _ (List.mem_append_left _ (List.mem_of_getElem? (i := 13) rfl)))
  have lf40 := hts (.fieldLink RX4 40 "LastCook$Road" "tasted" "I") (List.mem_cons_of_mem _ (List.mem_append_left _ (List.mem_of_getElem? (i := 14) rfl)))
  have lf33 := hts (.fieldLink RX4 33 "LastCook$Road" "lastCook" "I") (List.mem_cons_of_mem _ (List.mem_append_left _ (List.mem_of_getElem? (i := 15) rfl)))
  subst hsz
  have hD := hD0.self (sz := s.heap.size)
  generalize hAe : va_A [(d, kO 4 [.ref d_yards, .ref d_paces, .ref d_stuck, .ref d_hirers, .ref d_places, .ref d_cameAt, .ref d_cooked, .int d_inside, .int d_night, .int d_minute, .int d_tasted, .int d_lastCook, .int (bB d_stirred)]), (d_yards, kI k 6 d_yardsF), (d_paces, kI k 6 d_pacesF), (d_stuck, kI k 6 d_stuckF), (d_hirers, kI k 6 d_hirersF), (d_places, kI k 6 d_placesF), (d_cameAt, kI k 6 d_cameAtF), (d_cooked, kI k 6 d_cookedF), (dd, kO 4 [.ref dd_yards, .ref dd_paces, .ref dd_stuck, .ref dd_hirers, .ref dd_places, .ref dd_cameAt, .ref dd_cooked, .int dd_inside, .int dd_night, .int dd_minute, .int dd_tasted, .int dd_lastCook, .int (bB dd_stirred)]), (dd_yards, kI k 6 dd_yardsF), (dd_paces, kI k 6 dd_pacesF), (dd_stuck, kI k 6 dd_stuckF), (dd_hirers, kI k 6 dd_hirersF), (dd_places, kI k 6 dd_placesF), (dd_cameAt, kI k 6 dd_cameAtF), (dd_cooked, kI k 6 dd_cookedF)] s.heap.size = A at hD ⊢
  have hA : ∀ q : Nat, s.heap.size ≤ q → A q := fun q h => by rw [← hAe]; exact Or.inr h
  have hS : va_S A s.heap s.heap [] := va_S.rf
  have hl := lv_entry ([.ref d, .ref dd]) (n := 2) (Nat.le_of_ble_eq_true rfl)
  rw [show entryFrame m args 2 = entryFrame m ([.ref d, .ref dd] : List Value).toArray 2 by rw [hav], lg_entry_eq]
  generalize (lg_sl ([.ref d, .ref dd]) ++ List.replicate (2 - (lg_sl ([.ref d, .ref dd])).length) Slot.unset).toArray = ls at hl ⊢
  have hl : lv_has ls 2 [(0, .ref d), (1, .ref dd)] := hl
  obtain ⟨R, hR⟩ : ∃ R, R = (headSpec wsX4_copyFrom ({ frames := 1, cells := 0, slots := 0, locals := 70 } : Room)).room := ⟨_, rfl⟩
  rw [← hR]
  generalize hQ : MQ below _ args s 0 0 A = Q
  replace hQ := hQ.symm
  obtain ⟨H, hH⟩ : ∃ H, H = s.heap := ⟨_, rfl⟩
  rw [← hH] at hP ⊢
  have hS : va_S A s.heap H [] := by rw [hH]; exact hS
  obtain ⟨E0, hE0⟩ : ∃ E0 : Int32 × Int32 × Int32 × Int32 × Int32 × (Nat → Int32) × (Nat → Int32) × (Nat → Int32) × (Nat → Int32) × (Nat → Int32) × (Nat → Int32) × (Nat → Int32), E0 = (fX4_copyFrom d_yardsF d_pacesF d_stuckF d_hirersF d_placesF d_cameAtF d_cookedF dd_inside dd_night dd_minute dd_tasted dd_lastCook dd_yardsF dd_pacesF dd_stuckF dd_hirersF dd_placesF dd_cameAtF dd_cookedF) := ⟨_, rfl⟩
  have hZ : (fX4_copyFrom d_yardsF d_pacesF d_stuckF d_hirersF d_placesF d_cameAtF d_cookedF dd_inside dd_night dd_minute dd_tasted dd_lastCook dd_yardsF dd_pacesF dd_stuckF dd_hirersF dd_placesF dd_cameAtF dd_cookedF) = E0 := hE0.symm
  refine lv_aload_n hx hb dX4_copyFrom_0 rfl (lv_at hl 1 rfl) ?_
  refine va_get (D := D) (ci := 4) (v := .ref dd_yards) (C := RX4) (T := TX4) (N := 13) hx hb hts hi4 hown hK hP 8 rfl rfl 0 (by decide) lf9 (fun _ h9 => h9) rfl dX4_copyFrom_1 ?_
  refine lv_iconst (v := 0) hx hb dX4_copyFrom_4 (by decide) ?_
  refine lv_aload_n hx hb dX4_copyFrom_5 rfl (lv_at hl 0 rfl) ?_
  refine va_get (D := D) (ci := 4) (v := .ref d_yards) (C := RX4) (T := TX4) (N := 13) hx hb hts hi4 hown hK hP 0 rfl rfl 0 (by decide) lf9 (fun _ h9 => h9) rfl dX4_copyFrom_6 ?_
  refine lv_iconst (v := 0) hx hb dX4_copyFrom_9 (by decide) ?_
  refine lv_bipush (v := 6) hx hb dX4_copyFrom_10 (by decide) ?_
  refine va_copyi (ty := .int) hx hb (hml.trans hl.1.symm) hown lm60 lna lsa lia hK hP hD hS 9 1 0 0 rfl rfl rfl rfl rfl (by decide +kernel) (by decide +kernel) (by decide +kernel) (by decide +kernel) (by decide +kernel) (fun _ _ => rfl) (by rw [hR]; exact Nat.le_of_ble_eq_true rfl) (by rw [hR]; decide +kernel) dX4_copyFrom_12 (fun H locs hP hD hS => ?_)
  exact by
   have hP : va_P D vwCl [(d, kO 4 [.ref d_yards, .ref d_paces, .ref d_stuck, .ref d_hirers, .ref d_places, .ref d_cameAt, .ref d_cooked, .int d_inside, .int d_night, .int d_minute, .int d_tasted, .int d_lastCook, .int (bB d_stirred)]), (d_yards, kI k 6 (va_cpy dd_yardsF d_yardsF 0 0 6)), (d_paces, kI k 6 d_pacesF), (d_stuck, kI k 6 d_stuckF), (d_hirers, kI k 6 d_hirersF), (d_places, kI k 6 d_placesF), (d_cameAt, kI k 6 d_cameAtF), (d_cooked, kI k 6 d_cookedF), (dd, kO 4 [.ref dd_yards, .ref dd_paces, .ref dd_stuck, .ref dd_hirers, .ref dd_places, .ref dd_cameAt, .ref dd_cooked, .int dd_inside, .int dd_night, .int dd_minute, .int dd_tasted, .int dd_lastCook, .int (bB dd_stirred)]), (dd_yards, kI k 6 dd_yardsF), (dd_paces, kI k 6 dd_pacesF), (dd_stuck, kI k 6 dd_stuckF), (dd_hirers, kI k 6 dd_hirersF), (dd_places, kI k 6 dd_placesF), (dd_cameAt, kI k 6 dd_cameAtF), (dd_cooked, kI k 6 dd_cookedF)] H := hP
   have hD : va_D A [(d, kO 4 [.ref d_yards, .ref d_paces, .ref d_stuck, .ref d_hirers, .ref d_places, .ref d_cameAt, .ref d_cooked, .int d_inside, .int d_night, .int d_minute, .int d_tasted, .int d_lastCook, .int (bB d_stirred)]), (d_yards, kI k 6 (va_cpy dd_yardsF d_yardsF 0 0 6)), (d_paces, kI k 6 d_pacesF), (d_stuck, kI k 6 d_stuckF), (d_hirers, kI k 6 d_hirersF), (d_places, kI k 6 d_placesF), (d_cameAt, kI k 6 d_cameAtF), (d_cooked, kI k 6 d_cookedF), (dd, kO 4 [.ref dd_yards, .ref dd_paces, .ref dd_stuck, .ref dd_hirers, .ref dd_places, .ref dd_cameAt, .ref dd_cooked, .int dd_inside, .int dd_night, .int dd_minute, .int dd_tasted, .int dd_lastCook, .int (bB dd_stirred)]), (dd_yards, kI k 6 dd_yardsF), (dd_paces, kI k 6 dd_pacesF), (dd_stuck, kI k 6 dd_stuckF), (dd_hirers, kI k 6 dd_hirersF), (dd_places, kI k 6 dd_placesF), (dd_cameAt, kI k 6 dd_cameAtF), (dd_cooked, kI k 6 dd_cookedF)] := hD
   refine lv_aload_n hx hb dX4_copyFrom_15 rfl (lv_at hl 1 rfl) ?_
   refine va_get (D := D) (ci := 4) (v := .ref dd_paces) (C := RX4) (T := TX4) (N := 13) hx hb hts hi4 hown hK hP 8 rfl rfl 1 (by decide) lf15 (fun _ h9 => h9) rfl dX4_copyFrom_16 ?_
   refine lv_iconst (v := 0) hx hb dX4_copyFrom_19 (by decide) ?_
   refine lv_aload_n hx hb dX4_copyFrom_20 rfl (lv_at hl 0 rfl) ?_
   refine va_get (D := D) (ci := 4) (v := .ref d_paces) (C := RX4) (T := TX4) (N := 13) hx hb hts hi4 hown hK hP 0 rfl rfl 1 (by decide) lf15 (fun _ h9 => h9) rfl dX4_copyFrom_21 ?_
   refine lv_iconst (v := 0) hx hb dX4_copyFrom_24 (by decide) ?_
   refine lv_bipush (v := 6) hx hb dX4_copyFrom_25 (by decide) ?_
   refine va_copyi (ty := .int) hx hb (hml.trans hl.1.symm) hown lm60 lna lsa lia hK hP hD hS 10 2 0 0 rfl rfl rfl rfl rfl (by decide +kernel) (by decide +kernel) (by decide +kernel) (by decide +kernel) (by decide +kernel) (fun _ _ => rfl) (by rw [hR]; exact Nat.le_of_ble_eq_true rfl) (by rw [hR]; decide +kernel) dX4_copyFrom_27 (fun H locs hP hD hS => ?_)
   exact by
    have hP : va_P D vwCl [(d, kO 4 [.ref d_yards, .ref d_paces, .ref d_stuck, .ref d_hirers, .ref d_places, .ref d_cameAt, .ref d_cooked, .int d_inside, .int d_night, .int d_minute, .int d_tasted, .int d_lastCook, .int (bB d_stirred)]), (d_yards, kI k 6 (va_cpy dd_yardsF d_yardsF 0 0 6)), (d_paces, kI k 6 (va_cpy dd_pacesF d_pacesF 0 0 6)), (d_stuck, kI k 6 d_stuckF), (d_hirers, kI k 6 d_hirersF), (d_places, kI k 6 d_placesF), (d_cameAt, kI k 6 d_cameAtF), (d_cooked, kI k 6 d_cookedF), (dd, kO 4 [.ref dd_yards, .ref dd_paces, .ref dd_stuck, .ref dd_hirers, .ref dd_places, .ref dd_cameAt, .ref dd_cooked, .int dd_inside, .int dd_night, .int dd_minute, .int dd_tasted, .int dd_lastCook, .int (bB dd_stirred)]), (dd_yards, kI k 6 dd_yardsF), (dd_paces, kI k 6 dd_pacesF), (dd_stuck, kI k 6 dd_stuckF), (dd_hirers, kI k 6 dd_hirersF), (dd_places, kI k 6 dd_placesF), (dd_cameAt, kI k 6 dd_cameAtF), (dd_cooked, kI k 6 dd_cookedF)] H := hP
    have hD : va_D A [(d, kO 4 [.ref d_yards, .ref d_paces, .ref d_stuck, .ref d_hirers, .ref d_places, .ref d_cameAt, .ref d_cooked, .int d_inside, .int d_night, .int d_minute, .int d_tasted, .int d_lastCook, .int (bB d_stirred)]), (d_yards, kI k 6 (va_cpy dd_yardsF d_yardsF 0 0 6)), (d_paces, kI k 6 (va_cpy dd_pacesF d_pacesF 0 0 6)), (d_stuck, kI k 6 d_stuckF), (d_hirers, kI k 6 d_hirersF), (d_places, kI k 6 d_placesF), (d_cameAt, kI k 6 d_cameAtF), (d_cooked, kI k 6 d_cookedF), (dd, kO 4 [.ref dd_yards, .ref dd_paces, .ref dd_stuck, .ref dd_hirers, .ref dd_places, .ref dd_cameAt, .ref dd_cooked, .int dd_inside, .int dd_night, .int dd_minute, .int dd_tasted, .int dd_lastCook, .int (bB dd_stirred)]), (dd_yards, kI k 6 dd_yardsF), (dd_paces, kI k 6 dd_pacesF), (dd_stuck, kI k 6 dd_stuckF), (dd_hirers, kI k 6 dd_hirersF), (dd_places, kI k 6 dd_placesF), (dd_cameAt, kI k 6 dd_cameAtF), (dd_cooked, kI k 6 dd_cookedF)] := hD
    refine lv_aload_n hx hb dX4_copyFrom_30 rfl (lv_at hl 1 rfl) ?_
    refine va_get (D := D) (ci := 4) (v := .ref dd_stuck) (C := RX4) (T := TX4) (N := 13) hx hb hts hi4 hown hK hP 8 rfl rfl 2 (by decide) lf18 (fun _ h9 => h9) rfl dX4_copyFrom_31 ?_
    refine lv_iconst (v := 0) hx hb dX4_copyFrom_34 (by decide) ?_
    refine lv_aload_n hx hb dX4_copyFrom_35 rfl (lv_at hl 0 rfl) ?_
    refine va_get (D := D) (ci := 4) (v := .ref d_stuck) (C := RX4) (T := TX4) (N := 13) hx hb hts hi4 hown hK hP 0 rfl rfl 2 (by decide) lf18 (fun _ h9 => h9) rfl dX4_copyFrom_36 ?_
    refine lv_iconst (v := 0) hx hb dX4_copyFrom_39 (by decide) ?_
    refine lv_bipush (v := 6) hx hb dX4_copyFrom_40 (by decide) ?_
    refine va_copyi (ty := .int) hx hb (hml.trans hl.1.symm) hown lm60 lna lsa lia hK hP hD hS 11 3 0 0 rfl rfl rfl rfl rfl (by decide +kernel) (by decide +kernel) (by decide +kernel) (by decide +kernel) (by decide +kernel) (fun _ _ => rfl) (by rw [hR]; exact Nat.le_of_ble_eq_true rfl) (by rw [hR]; decide +kernel) dX4_copyFrom_42 (fun H locs hP hD hS => ?_)
    exact by
     have hP : va_P D vwCl [(d, kO 4 [.ref d_yards, .ref d_paces, .ref d_stuck, .ref d_hirers, .ref d_places, .ref d_cameAt, .ref d_cooked, .int d_inside, .int d_night, .int d_minute, .int d_tasted, .int d_lastCook, .int (bB d_stirred)]), (d_yards, kI k 6 (va_cpy dd_yardsF d_yardsF 0 0 6)), (d_paces, kI k 6 (va_cpy dd_pacesF d_pacesF 0 0 6)), (d_stuck, kI k 6 (va_cpy dd_stuckF d_stuckF 0 0 6)), (d_hirers, kI k 6 d_hirersF), (d_places, kI k 6 d_placesF), (d_cameAt, kI k 6 d_cameAtF), (d_cooked, kI k 6 d_cookedF), (dd, kO 4 [.ref dd_yards, .ref dd_paces, .ref dd_stuck, .ref dd_hirers, .ref dd_places, .ref dd_cameAt, .ref dd_cooked, .int dd_inside, .int dd_night, .int dd_minute, .int dd_tasted, .int dd_lastCook, .int (bB dd_stirred)]), (dd_yards, kI k 6 dd_yardsF), (dd_paces, kI k 6 dd_pacesF), (dd_stuck, kI k 6 dd_stuckF), (dd_hirers, kI k 6 dd_hirersF), (dd_places, kI k 6 dd_placesF), (dd_cameAt, kI k 6 dd_cameAtF), (dd_cooked, kI k 6 dd_cookedF)] H := hP
     have hD : va_D A [(d, kO 4 [.ref d_yards, .ref d_paces, .ref d_stuck, .ref d_hirers, .ref d_places, .ref d_cameAt, .ref d_cooked, .int d_inside, .int d_night, .int d_minute, .int d_tasted, .int d_lastCook, .int (bB d_stirred)]), (d_yards, kI k 6 (va_cpy dd_yardsF d_yardsF 0 0 6)), (d_paces, kI k 6 (va_cpy dd_pacesF d_pacesF 0 0 6)), (d_stuck, kI k 6 (va_cpy dd_stuckF d_stuckF 0 0 6)), (d_hirers, kI k 6 d_hirersF), (d_places, kI k 6 d_placesF), (d_cameAt, kI k 6 d_cameAtF), (d_cooked, kI k 6 d_cookedF), (dd, kO 4 [.ref dd_yards, .ref dd_paces, .ref dd_stuck, .ref dd_hirers, .ref dd_places, .ref dd_cameAt, .ref dd_cooked, .int dd_inside, .int dd_night, .int dd_minute, .int dd_tasted, .int dd_lastCook, .int (bB dd_stirred)]), (dd_yards, kI k 6 dd_yardsF), (dd_paces, kI k 6 dd_pacesF), (dd_stuck, kI k 6 dd_stuckF), (dd_hirers, kI k 6 dd_hirersF), (dd_places, kI k 6 dd_placesF), (dd_cameAt, kI k 6 dd_cameAtF), (dd_cooked, kI k 6 dd_cookedF)] := hD
     refine lv_aload_n hx hb dX4_copyFrom_45 rfl (lv_at hl 1 rfl) ?_
     refine va_get (D := D) (ci := 4) (v := .ref dd_hirers) (C := RX4) (T := TX4) (N := 13) hx hb hts hi4 hown hK hP 8 rfl rfl 3 (by decide) lf21 (fun _ h9 => h9) rfl dX4_copyFrom_46 ?_
     refine lv_iconst (v := 0) hx hb dX4_copyFrom_49 (by decide) ?_
     refine lv_aload_n hx hb dX4_copyFrom_50 rfl (lv_at hl 0 rfl) ?_
     refine va_get (D := D) (ci := 4) (v := .ref d_hirers) (C := RX4) (T := TX4) (N := 13) hx hb hts hi4 hown hK hP 0 rfl rfl 3 (by decide) lf21 (fun _ h9 => h9) rfl dX4_copyFrom_51 ?_
     refine lv_iconst (v := 0) hx hb dX4_copyFrom_54 (by decide) ?_
     refine lv_bipush (v := 6) hx hb dX4_copyFrom_55 (by decide) ?_
     refine va_copyi (ty := .int) hx hb (hml.trans hl.1.symm) hown lm60 lna lsa lia hK hP hD hS 12 4 0 0 rfl rfl rfl rfl rfl (by decide +kernel) (by decide +kernel) (by decide +kernel) (by decide +kernel) (by decide +kernel) (fun _ _ => rfl) (by rw [hR]; exact Nat.le_of_ble_eq_true rfl) (by rw [hR]; decide +kernel) dX4_copyFrom_57 (fun H locs hP hD hS => ?_)
     exact by
      have hP : va_P D vwCl [(d, kO 4 [.ref d_yards, .ref d_paces, .ref d_stuck, .ref d_hirers, .ref d_places, .ref d_cameAt, .ref d_cooked, .int d_inside, .int d_night, .int d_minute, .int d_tasted, .int d_lastCook, .int (bB d_stirred)]), (d_yards, kI k 6 (va_cpy dd_yardsF d_yardsF 0 0 6)), (d_paces, kI k 6 (va_cpy dd_pacesF d_pacesF 0 0 6)), (d_stuck, kI k 6 (va_cpy dd_stuckF d_stuckF 0 0 6)), (d_hirers, kI k 6 (va_cpy dd_hirersF d_hirersF 0 0 6)), (d_places, kI k 6 d_placesF), (d_cameAt, kI k 6 d_cameAtF), (d_cooked, kI k 6 d_cookedF), (dd, kO 4 [.ref dd_yards, .ref dd_paces, .ref dd_stuck, .ref dd_hirers, .ref dd_places, .ref dd_cameAt, .ref dd_cooked, .int dd_inside, .int dd_night, .int dd_minute, .int dd_tasted, .int dd_lastCook, .int (bB dd_stirred)]), (dd_yards, kI k 6 dd_yardsF), (dd_paces, kI k 6 dd_pacesF), (dd_stuck, kI k 6 dd_stuckF), (dd_hirers, kI k 6 dd_hirersF), (dd_places, kI k 6 dd_placesF), (dd_cameAt, kI k 6 dd_cameAtF), (dd_cooked, kI k 6 dd_cookedF)] H := hP
      have hD : va_D A [(d, kO 4 [.ref d_yards, .ref d_paces, .ref d_stuck, .ref d_hirers, .ref d_places, .ref d_cameAt, .ref d_cooked, .int d_inside, .int d_night, .int d_minute, .int d_tasted, .int d_lastCook, .int (bB d_stirred)]), (d_yards, kI k 6 (va_cpy dd_yardsF d_yardsF 0 0 6)), (d_paces, kI k 6 (va_cpy dd_pacesF d_pacesF 0 0 6)), (d_stuck, kI k 6 (va_cpy dd_stuckF d_stuckF 0 0 6)), (d_hirers, kI k 6 (va_cpy dd_hirersF d_hirersF 0 0 6)), (d_places, kI k 6 d_placesF), (d_cameAt, kI k 6 d_cameAtF), (d_cooked, kI k 6 d_cookedF), (dd, kO 4 [.ref dd_yards, .ref dd_paces, .ref dd_stuck, .ref dd_hirers, .ref dd_places, .ref dd_cameAt, .ref dd_cooked, .int dd_inside, .int dd_night, .int dd_minute, .int dd_tasted, .int dd_lastCook, .int (bB dd_stirred)]), (dd_yards, kI k 6 dd_yardsF), (dd_paces, kI k 6 dd_pacesF), (dd_stuck, kI k 6 dd_stuckF), (dd_hirers, kI k 6 dd_hirersF), (dd_places, kI k 6 dd_placesF), (dd_cameAt, kI k 6 dd_cameAtF), (dd_cooked, kI k 6 dd_cookedF)] := hD
      refine lv_aload_n hx hb dX4_copyFrom_60 rfl (lv_at hl 1 rfl) ?_
      refine va_get (D := D) (ci := 4) (v := .ref dd_places) (C := RX4) (T := TX4) (N := 13) hx hb hts hi4 hown hK hP 8 rfl rfl 4 (by decide) lf24 (fun _ h9 => h9) rfl dX4_copyFrom_61 ?_
      refine lv_iconst (v := 0) hx hb dX4_copyFrom_64 (by decide) ?_
      refine lv_aload_n hx hb dX4_copyFrom_65 rfl (lv_at hl 0 rfl) ?_
      refine va_get (D := D) (ci := 4) (v := .ref d_places) (C := RX4) (T := TX4) (N := 13) hx hb hts hi4 hown hK hP 0 rfl rfl 4 (by decide) lf24 (fun _ h9 => h9) rfl dX4_copyFrom_66 ?_
      refine lv_iconst (v := 0) hx hb dX4_copyFrom_69 (by decide) ?_
      refine lv_bipush (v := 6) hx hb dX4_copyFrom_70 (by decide) ?_
      refine va_copyi (ty := .int) hx hb (hml.trans hl.1.symm) hown lm60 lna lsa lia hK hP hD hS 13 5 0 0 rfl rfl rfl rfl rfl (by decide +kernel) (by decide +kernel) (by decide +kernel) (by decide +kernel) (by decide +kernel) (fun _ _ => rfl) (by rw [hR]; exact Nat.le_of_ble_eq_true rfl) (by rw [hR]; decide +kernel) dX4_copyFrom_72 (fun H locs hP hD hS => ?_)
      exact by
       have hP : va_P D vwCl [(d, kO 4 [.ref d_yards, .ref d_paces, .ref d_stuck, .ref d_hirers, .ref d_places, .ref d_cameAt, .ref d_cooked, .int d_inside, .int d_night, .int d_minute, .int d_tasted, .int d_lastCook, .int (bB d_stirred)]), (d_yards, kI k 6 (va_cpy dd_yardsF d_yardsF 0 0 6)), (d_paces, kI k 6 (va_cpy dd_pacesF d_pacesF 0 0 6)), (d_stuck, kI k 6 (va_cpy dd_stuckF d_stuckF 0 0 6)), (d_hirers, kI k 6 (va_cpy dd_hirersF d_hirersF 0 0 6)), (d_places, kI k 6 (va_cpy dd_placesF d_placesF 0 0 6)), (d_cameAt, kI k 6 d_cameAtF), (d_cooked, kI k 6 d_cookedF), (dd, kO 4 [.ref dd_yards, .ref dd_paces, .ref dd_stuck, .ref dd_hirers, .ref dd_places, .ref dd_cameAt, .ref dd_cooked, .int dd_inside, .int dd_night, .int dd_minute, .int dd_tasted, .int dd_lastCook, .int (bB dd_stirred)]), (dd_yards, kI k 6 dd_yardsF), (dd_paces, kI k 6 dd_pacesF), (dd_stuck, kI k 6 dd_stuckF), (dd_hirers, kI k 6 dd_hirersF), (dd_places, kI k 6 dd_placesF), (dd_cameAt, kI k 6 dd_cameAtF), (dd_cooked, kI k 6 dd_cookedF)] H := hP
       have hD : va_D A [(d, kO 4 [.ref d_yards, .ref d_paces, .ref d_stuck, .ref d_hirers, .ref d_places, .ref d_cameAt, .ref d_cooked, .int d_inside, .int d_night, .int d_minute, .int d_tasted, .int d_lastCook, .int (bB d_stirred)]), (d_yards, kI k 6 (va_cpy dd_yardsF d_yardsF 0 0 6)), (d_paces, kI k 6 (va_cpy dd_pacesF d_pacesF 0 0 6)), (d_stuck, kI k 6 (va_cpy dd_stuckF d_stuckF 0 0 6)), (d_hirers, kI k 6 (va_cpy dd_hirersF d_hirersF 0 0 6)), (d_places, kI k 6 (va_cpy dd_placesF d_placesF 0 0 6)), (d_cameAt, kI k 6 d_cameAtF), (d_cooked, kI k 6 d_cookedF), (dd, kO 4 [.ref dd_yards, .ref dd_paces, .ref dd_stuck, .ref dd_hirers, .ref dd_places, .ref dd_cameAt, .ref dd_cooked, .int dd_inside, .int dd_night, .int dd_minute, .int dd_tasted, .int dd_lastCook, .int (bB dd_stirred)]), (dd_yards, kI k 6 dd_yardsF), (dd_paces, kI k 6 dd_pacesF), (dd_stuck, kI k 6 dd_stuckF), (dd_hirers, kI k 6 dd_hirersF), (dd_places, kI k 6 dd_placesF), (dd_cameAt, kI k 6 dd_cameAtF), (dd_cooked, kI k 6 dd_cookedF)] := hD
       refine lv_aload_n hx hb dX4_copyFrom_75 rfl (lv_at hl 1 rfl) ?_
       refine va_get (D := D) (ci := 4) (v := .ref dd_cameAt) (C := RX4) (T := TX4) (N := 13) hx hb hts hi4 hown hK hP 8 rfl rfl 5 (by decide) lf27 (fun _ h9 => h9) rfl dX4_copyFrom_76 ?_
       refine lv_iconst (v := 0) hx hb dX4_copyFrom_79 (by decide) ?_
       refine lv_aload_n hx hb dX4_copyFrom_80 rfl (lv_at hl 0 rfl) ?_
       refine va_get (D := D) (ci := 4) (v := .ref d_cameAt) (C := RX4) (T := TX4) (N := 13) hx hb hts hi4 hown hK hP 0 rfl rfl 5 (by decide) lf27 (fun _ h9 => h9) rfl dX4_copyFrom_81 ?_
       refine lv_iconst (v := 0) hx hb dX4_copyFrom_84 (by decide) ?_
       refine lv_bipush (v := 6) hx hb dX4_copyFrom_85 (by decide) ?_
       refine va_copyi (ty := .int) hx hb (hml.trans hl.1.symm) hown lm60 lna lsa lia hK hP hD hS 14 6 0 0 rfl rfl rfl rfl rfl (by decide +kernel) (by decide +kernel) (by decide +kernel) (by decide +kernel) (by decide +kernel) (fun _ _ => rfl) (by rw [hR]; exact Nat.le_of_ble_eq_true rfl) (by rw [hR]; decide +kernel) dX4_copyFrom_87 (fun H locs hP hD hS => ?_)
       exact by
        have hP : va_P D vwCl [(d, kO 4 [.ref d_yards, .ref d_paces, .ref d_stuck, .ref d_hirers, .ref d_places, .ref d_cameAt, .ref d_cooked, .int d_inside, .int d_night, .int d_minute, .int d_tasted, .int d_lastCook, .int (bB d_stirred)]), (d_yards, kI k 6 (va_cpy dd_yardsF d_yardsF 0 0 6)), (d_paces, kI k 6 (va_cpy dd_pacesF d_pacesF 0 0 6)), (d_stuck, kI k 6 (va_cpy dd_stuckF d_stuckF 0 0 6)), (d_hirers, kI k 6 (va_cpy dd_hirersF d_hirersF 0 0 6)), (d_places, kI k 6 (va_cpy dd_placesF d_placesF 0 0 6)), (d_cameAt, kI k 6 (va_cpy dd_cameAtF d_cameAtF 0 0 6)), (d_cooked, kI k 6 d_cookedF), (dd, kO 4 [.ref dd_yards, .ref dd_paces, .ref dd_stuck, .ref dd_hirers, .ref dd_places, .ref dd_cameAt, .ref dd_cooked, .int dd_inside, .int dd_night, .int dd_minute, .int dd_tasted, .int dd_lastCook, .int (bB dd_stirred)]), (dd_yards, kI k 6 dd_yardsF), (dd_paces, kI k 6 dd_pacesF), (dd_stuck, kI k 6 dd_stuckF), (dd_hirers, kI k 6 dd_hirersF), (dd_places, kI k 6 dd_placesF), (dd_cameAt, kI k 6 dd_cameAtF), (dd_cooked, kI k 6 dd_cookedF)] H := hP
        have hD : va_D A [(d, kO 4 [.ref d_yards, .ref d_paces, .ref d_stuck, .ref d_hirers, .ref d_places, .ref d_cameAt, .ref d_cooked, .int d_inside, .int d_night, .int d_minute, .int d_tasted, .int d_lastCook, .int (bB d_stirred)]), (d_yards, kI k 6 (va_cpy dd_yardsF d_yardsF 0 0 6)), (d_paces, kI k 6 (va_cpy dd_pacesF d_pacesF 0 0 6)), (d_stuck, kI k 6 (va_cpy dd_stuckF d_stuckF 0 0 6)), (d_hirers, kI k 6 (va_cpy dd_hirersF d_hirersF 0 0 6)), (d_places, kI k 6 (va_cpy dd_placesF d_placesF 0 0 6)), (d_cameAt, kI k 6 (va_cpy dd_cameAtF d_cameAtF 0 0 6)), (d_cooked, kI k 6 d_cookedF), (dd, kO 4 [.ref dd_yards, .ref dd_paces, .ref dd_stuck, .ref dd_hirers, .ref dd_places, .ref dd_cameAt, .ref dd_cooked, .int dd_inside, .int dd_night, .int dd_minute, .int dd_tasted, .int dd_lastCook, .int (bB dd_stirred)]), (dd_yards, kI k 6 dd_yardsF), (dd_paces, kI k 6 dd_pacesF), (dd_stuck, kI k 6 dd_stuckF), (dd_hirers, kI k 6 dd_hirersF), (dd_places, kI k 6 dd_placesF), (dd_cameAt, kI k 6 dd_cameAtF), (dd_cooked, kI k 6 dd_cookedF)] := hD
        refine lv_aload_n hx hb dX4_copyFrom_90 rfl (lv_at hl 1 rfl) ?_
        refine va_get (D := D) (ci := 4) (v := .ref dd_cooked) (C := RX4) (T := TX4) (N := 13) hx hb hts hi4 hown hK hP 8 rfl rfl 6 (by decide) lf30 (fun _ h9 => h9) rfl dX4_copyFrom_91 ?_
        refine lv_iconst (v := 0) hx hb dX4_copyFrom_94 (by decide) ?_
        refine lv_aload_n hx hb dX4_copyFrom_95 rfl (lv_at hl 0 rfl) ?_
        refine va_get (D := D) (ci := 4) (v := .ref d_cooked) (C := RX4) (T := TX4) (N := 13) hx hb hts hi4 hown hK hP 0 rfl rfl 6 (by decide) lf30 (fun _ h9 => h9) rfl dX4_copyFrom_96 ?_
        refine lv_iconst (v := 0) hx hb dX4_copyFrom_99 (by decide) ?_
        refine lv_bipush (v := 6) hx hb dX4_copyFrom_100 (by decide) ?_
        refine va_copyi (ty := .int) hx hb (hml.trans hl.1.symm) hown lm60 lna lsa lia hK hP hD hS 15 7 0 0 rfl rfl rfl rfl rfl (by decide +kernel) (by decide +kernel) (by decide +kernel) (by decide +kernel) (by decide +kernel) (fun _ _ => rfl) (by rw [hR]; exact Nat.le_of_ble_eq_true rfl) (by rw [hR]; decide +kernel) dX4_copyFrom_102 (fun H locs hP hD hS => ?_)
        exact by
         have hP : va_P D vwCl [(d, kO 4 [.ref d_yards, .ref d_paces, .ref d_stuck, .ref d_hirers, .ref d_places, .ref d_cameAt, .ref d_cooked, .int d_inside, .int d_night, .int d_minute, .int d_tasted, .int d_lastCook, .int (bB d_stirred)]), (d_yards, kI k 6 (va_cpy dd_yardsF d_yardsF 0 0 6)), (d_paces, kI k 6 (va_cpy dd_pacesF d_pacesF 0 0 6)), (d_stuck, kI k 6 (va_cpy dd_stuckF d_stuckF 0 0 6)), (d_hirers, kI k 6 (va_cpy dd_hirersF d_hirersF 0 0 6)), (d_places, kI k 6 (va_cpy dd_placesF d_placesF 0 0 6)), (d_cameAt, kI k 6 (va_cpy dd_cameAtF d_cameAtF 0 0 6)), (d_cooked, kI k 6 (va_cpy dd_cookedF d_cookedF 0 0 6)), (dd, kO 4 [.ref dd_yards, .ref dd_paces, .ref dd_stuck, .ref dd_hirers, .ref dd_places, .ref dd_cameAt, .ref dd_cooked, .int dd_inside, .int dd_night, .int dd_minute, .int dd_tasted, .int dd_lastCook, .int (bB dd_stirred)]), (dd_yards, kI k 6 dd_yardsF), (dd_paces, kI k 6 dd_pacesF), (dd_stuck, kI k 6 dd_stuckF), (dd_hirers, kI k 6 dd_hirersF), (dd_places, kI k 6 dd_placesF), (dd_cameAt, kI k 6 dd_cameAtF), (dd_cooked, kI k 6 dd_cookedF)] H := hP
         have hD : va_D A [(d, kO 4 [.ref d_yards, .ref d_paces, .ref d_stuck, .ref d_hirers, .ref d_places, .ref d_cameAt, .ref d_cooked, .int d_inside, .int d_night, .int d_minute, .int d_tasted, .int d_lastCook, .int (bB d_stirred)]), (d_yards, kI k 6 (va_cpy dd_yardsF d_yardsF 0 0 6)), (d_paces, kI k 6 (va_cpy dd_pacesF d_pacesF 0 0 6)), (d_stuck, kI k 6 (va_cpy dd_stuckF d_stuckF 0 0 6)), (d_hirers, kI k 6 (va_cpy dd_hirersF d_hirersF 0 0 6)), (d_places, kI k 6 (va_cpy dd_placesF d_placesF 0 0 6)), (d_cameAt, kI k 6 (va_cpy dd_cameAtF d_cameAtF 0 0 6)), (d_cooked, kI k 6 (va_cpy dd_cookedF d_cookedF 0 0 6)), (dd, kO 4 [.ref dd_yards, .ref dd_paces, .ref dd_stuck, .ref dd_hirers, .ref dd_places, .ref dd_cameAt, .ref dd_cooked, .int dd_inside, .int dd_night, .int dd_minute, .int dd_tasted, .int dd_lastCook, .int (bB dd_stirred)]), (dd_yards, kI k 6 dd_yardsF), (dd_paces, kI k 6 dd_pacesF), (dd_stuck, kI k 6 dd_stuckF), (dd_hirers, kI k 6 dd_hirersF), (dd_places, kI k 6 dd_placesF), (dd_cameAt, kI k 6 dd_cameAtF), (dd_cooked, kI k 6 dd_cookedF)] := hD
         refine lv_aload_n hx hb dX4_copyFrom_105 rfl (lv_at hl 0 rfl) ?_
         refine lv_aload_n hx hb dX4_copyFrom_106 rfl (lv_at hl 1 rfl) ?_
         refine va_get (D := D) (ci := 4) (v := .int dd_inside) (C := RX4) (T := TX4) (N := 13) hx hb hts hi4 hown hK hP 8 rfl rfl 7 (by decide) lf50 (fun _ h9 => h9) rfl dX4_copyFrom_107 ?_
         refine va_put (D := D) (ci := 4) (v := .int dd_inside) (ty := .int) (C := RX4) (T := TX4) (N := 13) hx hb hts hi4 tyX4 tyX4_ok nmX4 hown hK hP hD hS 0 rfl rfl 7 (by decide) lf50 (fun _ h9 => h9) rfl (by decide +kernel) rfl rfl (Nat.le_of_ble_eq_true rfl) dX4_copyFrom_110 (fun H locs hP hD hS => ?_)
         exact by
          have hP : va_P D vwCl [(d, kO 4 [.ref d_yards, .ref d_paces, .ref d_stuck, .ref d_hirers, .ref d_places, .ref d_cameAt, .ref d_cooked, .int dd_inside, .int d_night, .int d_minute, .int d_tasted, .int d_lastCook, .int (bB d_stirred)]), (d_yards, kI k 6 (va_cpy dd_yardsF d_yardsF 0 0 6)), (d_paces, kI k 6 (va_cpy dd_pacesF d_pacesF 0 0 6)), (d_stuck, kI k 6 (va_cpy dd_stuckF d_stuckF 0 0 6)), (d_hirers, kI k 6 (va_cpy dd_hirersF d_hirersF 0 0 6)), (d_places, kI k 6 (va_cpy dd_placesF d_placesF 0 0 6)), (d_cameAt, kI k 6 (va_cpy dd_cameAtF d_cameAtF 0 0 6)), (d_cooked, kI k 6 (va_cpy dd_cookedF d_cookedF 0 0 6)), (dd, kO 4 [.ref dd_yards, .ref dd_paces, .ref dd_stuck, .ref dd_hirers, .ref dd_places, .ref dd_cameAt, .ref dd_cooked, .int dd_inside, .int dd_night, .int dd_minute, .int dd_tasted, .int dd_lastCook, .int (bB dd_stirred)]), (dd_yards, kI k 6 dd_yardsF), (dd_paces, kI k 6 dd_pacesF), (dd_stuck, kI k 6 dd_stuckF), (dd_hirers, kI k 6 dd_hirersF), (dd_places, kI k 6 dd_placesF), (dd_cameAt, kI k 6 dd_cameAtF), (dd_cooked, kI k 6 dd_cookedF)] H := hP
          have hD : va_D A [(d, kO 4 [.ref d_yards, .ref d_paces, .ref d_stuck, .ref d_hirers, .ref d_places, .ref d_cameAt, .ref d_cooked, .int dd_inside, .int d_night, .int d_minute, .int d_tasted, .int d_lastCook, .int (bB d_stirred)]), (d_yards, kI k 6 (va_cpy dd_yardsF d_yardsF 0 0 6)), (d_paces, kI k 6 (va_cpy dd_pacesF d_pacesF 0 0 6)), (d_stuck, kI k 6 (va_cpy dd_stuckF d_stuckF 0 0 6)), (d_hirers, kI k 6 (va_cpy dd_hirersF d_hirersF 0 0 6)), (d_places, kI k 6 (va_cpy dd_placesF d_placesF 0 0 6)), (d_cameAt, kI k 6 (va_cpy dd_cameAtF d_cameAtF 0 0 6)), (d_cooked, kI k 6 (va_cpy dd_cookedF d_cookedF 0 0 6)), (dd, kO 4 [.ref dd_yards, .ref dd_paces, .ref dd_stuck, .ref dd_hirers, .ref dd_places, .ref dd_cameAt, .ref dd_cooked, .int dd_inside, .int dd_night, .int dd_minute, .int dd_tasted, .int dd_lastCook, .int (bB dd_stirred)]), (dd_yards, kI k 6 dd_yardsF), (dd_paces, kI k 6 dd_pacesF), (dd_stuck, kI k 6 dd_stuckF), (dd_hirers, kI k 6 dd_hirersF), (dd_places, kI k 6 dd_placesF), (dd_cameAt, kI k 6 dd_cameAtF), (dd_cooked, kI k 6 dd_cookedF)] := hD
          refine lv_aload_n hx hb dX4_copyFrom_113 rfl (lv_at hl 0 rfl) ?_
          refine lv_aload_n hx hb dX4_copyFrom_114 rfl (lv_at hl 1 rfl) ?_
          refine va_get (D := D) (ci := 4) (v := .int dd_night) (C := RX4) (T := TX4) (N := 13) hx hb hts hi4 hown hK hP 8 rfl rfl 8 (by decide) lf37 (fun _ h9 => h9) rfl dX4_copyFrom_115 ?_
          refine va_put (D := D) (ci := 4) (v := .int dd_night) (ty := .int) (C := RX4) (T := TX4) (N := 13) hx hb hts hi4 tyX4 tyX4_ok nmX4 hown hK hP hD hS 0 rfl rfl 8 (by decide) lf37 (fun _ h9 => h9) rfl (by decide +kernel) rfl rfl (Nat.le_of_ble_eq_true rfl) dX4_copyFrom_118 (fun H locs hP hD hS => ?_)
          exact by
           have hP : va_P D vwCl [(d, kO 4 [.ref d_yards, .ref d_paces, .ref d_stuck, .ref d_hirers, .ref d_places, .ref d_cameAt, .ref d_cooked, .int dd_inside, .int dd_night, .int d_minute, .int d_tasted, .int d_lastCook, .int (bB d_stirred)]), (d_yards, kI k 6 (va_cpy dd_yardsF d_yardsF 0 0 6)), (d_paces, kI k 6 (va_cpy dd_pacesF d_pacesF 0 0 6)), (d_stuck, kI k 6 (va_cpy dd_stuckF d_stuckF 0 0 6)), (d_hirers, kI k 6 (va_cpy dd_hirersF d_hirersF 0 0 6)), (d_places, kI k 6 (va_cpy dd_placesF d_placesF 0 0 6)), (d_cameAt, kI k 6 (va_cpy dd_cameAtF d_cameAtF 0 0 6)), (d_cooked, kI k 6 (va_cpy dd_cookedF d_cookedF 0 0 6)), (dd, kO 4 [.ref dd_yards, .ref dd_paces, .ref dd_stuck, .ref dd_hirers, .ref dd_places, .ref dd_cameAt, .ref dd_cooked, .int dd_inside, .int dd_night, .int dd_minute, .int dd_tasted, .int dd_lastCook, .int (bB dd_stirred)]), (dd_yards, kI k 6 dd_yardsF), (dd_paces, kI k 6 dd_pacesF), (dd_stuck, kI k 6 dd_stuckF), (dd_hirers, kI k 6 dd_hirersF), (dd_places, kI k 6 dd_placesF), (dd_cameAt, kI k 6 dd_cameAtF), (dd_cooked, kI k 6 dd_cookedF)] H := hP
           have hD : va_D A [(d, kO 4 [.ref d_yards, .ref d_paces, .ref d_stuck, .ref d_hirers, .ref d_places, .ref d_cameAt, .ref d_cooked, .int dd_inside, .int dd_night, .int d_minute, .int d_tasted, .int d_lastCook, .int (bB d_stirred)]), (d_yards, kI k 6 (va_cpy dd_yardsF d_yardsF 0 0 6)), (d_paces, kI k 6 (va_cpy dd_pacesF d_pacesF 0 0 6)), (d_stuck, kI k 6 (va_cpy dd_stuckF d_stuckF 0 0 6)), (d_hirers, kI k 6 (va_cpy dd_hirersF d_hirersF 0 0 6)), (d_places, kI k 6 (va_cpy dd_placesF d_placesF 0 0 6)), (d_cameAt, kI k 6 (va_cpy dd_cameAtF d_cameAtF 0 0 6)), (d_cooked, kI k 6 (va_cpy dd_cookedF d_cookedF 0 0 6)), (dd, kO 4 [.ref dd_yards, .ref dd_paces, .ref dd_stuck, .ref dd_hirers, .ref dd_places, .ref dd_cameAt, .ref dd_cooked, .int dd_inside, .int dd_night, .int dd_minute, .int dd_tasted, .int dd_lastCook, .int (bB dd_stirred)]), (dd_yards, kI k 6 dd_yardsF), (dd_paces, kI k 6 dd_pacesF), (dd_stuck, kI k 6 dd_stuckF), (dd_hirers, kI k 6 dd_hirersF), (dd_places, kI k 6 dd_placesF), (dd_cameAt, kI k 6 dd_cameAtF), (dd_cooked, kI k 6 dd_cookedF)] := hD
           refine lv_aload_n hx hb dX4_copyFrom_121 rfl (lv_at hl 0 rfl) ?_
           refine lv_aload_n hx hb dX4_copyFrom_122 rfl (lv_at hl 1 rfl) ?_
           refine va_get (D := D) (ci := 4) (v := .int dd_minute) (C := RX4) (T := TX4) (N := 13) hx hb hts hi4 hown hK hP 8 rfl rfl 9 (by decide) lf47 (fun _ h9 => h9) rfl dX4_copyFrom_123 ?_
           refine va_put (D := D) (ci := 4) (v := .int dd_minute) (ty := .int) (C := RX4) (T := TX4) (N := 13) hx hb hts hi4 tyX4 tyX4_ok nmX4 hown hK hP hD hS 0 rfl rfl 9 (by decide) lf47 (fun _ h9 => h9) rfl (by decide +kernel) rfl rfl (Nat.le_of_ble_eq_true rfl) dX4_copyFrom_126 (fun H locs hP hD hS => ?_)
           exact by
            have hP : va_P D vwCl [(d, kO 4 [.ref d_yards, .ref d_paces, .ref d_stuck, .ref d_hirers, .ref d_places, .ref d_cameAt, .ref d_cooked, .int dd_inside, .int dd_night, .int dd_minute, .int d_tasted, .int d_lastCook, .int (bB d_stirred)]), (d_yards, kI k 6 (va_cpy dd_yardsF d_yardsF 0 0 6)), (d_paces, kI k 6 (va_cpy dd_pacesF d_pacesF 0 0 6)), (d_stuck, kI k 6 (va_cpy dd_stuckF d_stuckF 0 0 6)), (d_hirers, kI k 6 (va_cpy dd_hirersF d_hirersF 0 0 6)), (d_places, kI k 6 (va_cpy dd_placesF d_placesF 0 0 6)), (d_cameAt, kI k 6 (va_cpy dd_cameAtF d_cameAtF 0 0 6)), (d_cooked, kI k 6 (va_cpy dd_cookedF d_cookedF 0 0 6)), (dd, kO 4 [.ref dd_yards, .ref dd_paces, .ref dd_stuck, .ref dd_hirers, .ref dd_places, .ref dd_cameAt, .ref dd_cooked, .int dd_inside, .int dd_night, .int dd_minute, .int dd_tasted, .int dd_lastCook, .int (bB dd_stirred)]), (dd_yards, kI k 6 dd_yardsF), (dd_paces, kI k 6 dd_pacesF), (dd_stuck, kI k 6 dd_stuckF), (dd_hirers, kI k 6 dd_hirersF), (dd_places, kI k 6 dd_placesF), (dd_cameAt, kI k 6 dd_cameAtF), (dd_cooked, kI k 6 dd_cookedF)] H := hP
            have hD : va_D A [(d, kO 4 [.ref d_yards, .ref d_paces, .ref d_stuck, .ref d_hirers, .ref d_places, .ref d_cameAt, .ref d_cooked, .int dd_inside, .int dd_night, .int dd_minute, .int d_tasted, .int d_lastCook, .int (bB d_stirred)]), (d_yards, kI k 6 (va_cpy dd_yardsF d_yardsF 0 0 6)), (d_paces, kI k 6 (va_cpy dd_pacesF d_pacesF 0 0 6)), (d_stuck, kI k 6 (va_cpy dd_stuckF d_stuckF 0 0 6)), (d_hirers, kI k 6 (va_cpy dd_hirersF d_hirersF 0 0 6)), (d_places, kI k 6 (va_cpy dd_placesF d_placesF 0 0 6)), (d_cameAt, kI k 6 (va_cpy dd_cameAtF d_cameAtF 0 0 6)), (d_cooked, kI k 6 (va_cpy dd_cookedF d_cookedF 0 0 6)), (dd, kO 4 [.ref dd_yards, .ref dd_paces, .ref dd_stuck, .ref dd_hirers, .ref dd_places, .ref dd_cameAt, .ref dd_cooked, .int dd_inside, .int dd_night, .int dd_minute, .int dd_tasted, .int dd_lastCook, .int (bB dd_stirred)]), (dd_yards, kI k 6 dd_yardsF), (dd_paces, kI k 6 dd_pacesF), (dd_stuck, kI k 6 dd_stuckF), (dd_hirers, kI k 6 dd_hirersF), (dd_places, kI k 6 dd_placesF), (dd_cameAt, kI k 6 dd_cameAtF), (dd_cooked, kI k 6 dd_cookedF)] := hD
            refine lv_aload_n hx hb dX4_copyFrom_129 rfl (lv_at hl 0 rfl) ?_
            refine lv_aload_n hx hb dX4_copyFrom_130 rfl (lv_at hl 1 rfl) ?_
            refine va_get (D := D) (ci := 4) (v := .int dd_tasted) (C := RX4) (T := TX4) (N := 13) hx hb hts hi4 hown hK hP 8 rfl rfl 10 (by decide) lf40 (fun _ h9 => h9) rfl dX4_copyFrom_131 ?_
            refine va_put (D := D) (ci := 4) (v := .int dd_tasted) (ty := .int) (C := RX4) (T := TX4) (N := 13) hx hb hts hi4 tyX4 tyX4_ok nmX4 hown hK hP hD hS 0 rfl rfl 10 (by decide) lf40 (fun _ h9 => h9) rfl (by decide +kernel) rfl rfl (Nat.le_of_ble_eq_true rfl) dX4_copyFrom_134 (fun H locs hP hD hS => ?_)
            exact by
             have hP : va_P D vwCl [(d, kO 4 [.ref d_yards, .ref d_paces, .ref d_stuck, .ref d_hirers, .ref d_places, .ref d_cameAt, .ref d_cooked, .int dd_inside, .int dd_night, .int dd_minute, .int dd_tasted, .int d_lastCook, .int (bB d_stirred)]), (d_yards, kI k 6 (va_cpy dd_yardsF d_yardsF 0 0 6)), (d_paces, kI k 6 (va_cpy dd_pacesF d_pacesF 0 0 6)), (d_stuck, kI k 6 (va_cpy dd_stuckF d_stuckF 0 0 6)), (d_hirers, kI k 6 (va_cpy dd_hirersF d_hirersF 0 0 6)), (d_places, kI k 6 (va_cpy dd_placesF d_placesF 0 0 6)), (d_cameAt, kI k 6 (va_cpy dd_cameAtF d_cameAtF 0 0 6)), (d_cooked, kI k 6 (va_cpy dd_cookedF d_cookedF 0 0 6)), (dd, kO 4 [.ref dd_yards, .ref dd_paces, .ref dd_stuck, .ref dd_hirers, .ref dd_places, .ref dd_cameAt, .ref dd_cooked, .int dd_inside, .int dd_night, .int dd_minute, .int dd_tasted, .int dd_lastCook, .int (bB dd_stirred)]), (dd_yards, kI k 6 dd_yardsF), (dd_paces, kI k 6 dd_pacesF), (dd_stuck, kI k 6 dd_stuckF), (dd_hirers, kI k 6 dd_hirersF), (dd_places, kI k 6 dd_placesF), (dd_cameAt, kI k 6 dd_cameAtF), (dd_cooked, kI k 6 dd_cookedF)] H := hP
             have hD : va_D A [(d, kO 4 [.ref d_yards, .ref d_paces, .ref d_stuck, .ref d_hirers, .ref d_places, .ref d_cameAt, .ref d_cooked, .int dd_inside, .int dd_night, .int dd_minute, .int dd_tasted, .int d_lastCook, .int (bB d_stirred)]), (d_yards, kI k 6 (va_cpy dd_yardsF d_yardsF 0 0 6)), (d_paces, kI k 6 (va_cpy dd_pacesF d_pacesF 0 0 6)), (d_stuck, kI k 6 (va_cpy dd_stuckF d_stuckF 0 0 6)), (d_hirers, kI k 6 (va_cpy dd_hirersF d_hirersF 0 0 6)), (d_places, kI k 6 (va_cpy dd_placesF d_placesF 0 0 6)), (d_cameAt, kI k 6 (va_cpy dd_cameAtF d_cameAtF 0 0 6)), (d_cooked, kI k 6 (va_cpy dd_cookedF d_cookedF 0 0 6)), (dd, kO 4 [.ref dd_yards, .ref dd_paces, .ref dd_stuck, .ref dd_hirers, .ref dd_places, .ref dd_cameAt, .ref dd_cooked, .int dd_inside, .int dd_night, .int dd_minute, .int dd_tasted, .int dd_lastCook, .int (bB dd_stirred)]), (dd_yards, kI k 6 dd_yardsF), (dd_paces, kI k 6 dd_pacesF), (dd_stuck, kI k 6 dd_stuckF), (dd_hirers, kI k 6 dd_hirersF), (dd_places, kI k 6 dd_placesF), (dd_cameAt, kI k 6 dd_cameAtF), (dd_cooked, kI k 6 dd_cookedF)] := hD
             refine lv_aload_n hx hb dX4_copyFrom_137 rfl (lv_at hl 0 rfl) ?_
             refine lv_aload_n hx hb dX4_copyFrom_138 rfl (lv_at hl 1 rfl) ?_
             refine va_get (D := D) (ci := 4) (v := .int dd_lastCook) (C := RX4) (T := TX4) (N := 13) hx hb hts hi4 hown hK hP 8 rfl rfl 11 (by decide) lf33 (fun _ h9 => h9) rfl dX4_copyFrom_139 ?_
             refine va_put (D := D) (ci := 4) (v := .int dd_lastCook) (ty := .int) (C := RX4) (T := TX4) (N := 13) hx hb hts hi4 tyX4 tyX4_ok nmX4 hown hK hP hD hS 0 rfl rfl 11 (by decide) lf33 (fun _ h9 => h9) rfl (by decide +kernel) rfl rfl (Nat.le_of_ble_eq_true rfl) dX4_copyFrom_142 (fun H locs hP hD hS => ?_)
             exact by
              have hP : va_P D vwCl [(d, kO 4 [.ref d_yards, .ref d_paces, .ref d_stuck, .ref d_hirers, .ref d_places, .ref d_cameAt, .ref d_cooked, .int dd_inside, .int dd_night, .int dd_minute, .int dd_tasted, .int dd_lastCook, .int (bB d_stirred)]), (d_yards, kI k 6 (va_cpy dd_yardsF d_yardsF 0 0 6)), (d_paces, kI k 6 (va_cpy dd_pacesF d_pacesF 0 0 6)), (d_stuck, kI k 6 (va_cpy dd_stuckF d_stuckF 0 0 6)), (d_hirers, kI k 6 (va_cpy dd_hirersF d_hirersF 0 0 6)), (d_places, kI k 6 (va_cpy dd_placesF d_placesF 0 0 6)), (d_cameAt, kI k 6 (va_cpy dd_cameAtF d_cameAtF 0 0 6)), (d_cooked, kI k 6 (va_cpy dd_cookedF d_cookedF 0 0 6)), (dd, kO 4 [.ref dd_yards, .ref dd_paces, .ref dd_stuck, .ref dd_hirers, .ref dd_places, .ref dd_cameAt, .ref dd_cooked, .int dd_inside, .int dd_night, .int dd_minute, .int dd_tasted, .int dd_lastCook, .int (bB dd_stirred)]), (dd_yards, kI k 6 dd_yardsF), (dd_paces, kI k 6 dd_pacesF), (dd_stuck, kI k 6 dd_stuckF), (dd_hirers, kI k 6 dd_hirersF), (dd_places, kI k 6 dd_placesF), (dd_cameAt, kI k 6 dd_cameAtF), (dd_cooked, kI k 6 dd_cookedF)] H := hP
              have hD : va_D A [(d, kO 4 [.ref d_yards, .ref d_paces, .ref d_stuck, .ref d_hirers, .ref d_places, .ref d_cameAt, .ref d_cooked, .int dd_inside, .int dd_night, .int dd_minute, .int dd_tasted, .int dd_lastCook, .int (bB d_stirred)]), (d_yards, kI k 6 (va_cpy dd_yardsF d_yardsF 0 0 6)), (d_paces, kI k 6 (va_cpy dd_pacesF d_pacesF 0 0 6)), (d_stuck, kI k 6 (va_cpy dd_stuckF d_stuckF 0 0 6)), (d_hirers, kI k 6 (va_cpy dd_hirersF d_hirersF 0 0 6)), (d_places, kI k 6 (va_cpy dd_placesF d_placesF 0 0 6)), (d_cameAt, kI k 6 (va_cpy dd_cameAtF d_cameAtF 0 0 6)), (d_cooked, kI k 6 (va_cpy dd_cookedF d_cookedF 0 0 6)), (dd, kO 4 [.ref dd_yards, .ref dd_paces, .ref dd_stuck, .ref dd_hirers, .ref dd_places, .ref dd_cameAt, .ref dd_cooked, .int dd_inside, .int dd_night, .int dd_minute, .int dd_tasted, .int dd_lastCook, .int (bB dd_stirred)]), (dd_yards, kI k 6 dd_yardsF), (dd_paces, kI k 6 dd_pacesF), (dd_stuck, kI k 6 dd_stuckF), (dd_hirers, kI k 6 dd_hirersF), (dd_places, kI k 6 dd_placesF), (dd_cameAt, kI k 6 dd_cameAtF), (dd_cooked, kI k 6 dd_cookedF)] := hD
              rw [hQ]
              have hP9 := hP.sub (ws' := [(d, kO 4 [.ref d_yards, .ref d_paces, .ref d_stuck, .ref d_hirers, .ref d_places, .ref d_cameAt, .ref d_cooked, .int dd_inside, .int dd_night, .int dd_minute, .int dd_tasted, .int dd_lastCook, .int (bB d_stirred)]), (d_yards, kI k 6 (va_cpy dd_yardsF d_yardsF 0 0 6)), (d_paces, kI k 6 (va_cpy dd_pacesF d_pacesF 0 0 6)), (d_stuck, kI k 6 (va_cpy dd_stuckF d_stuckF 0 0 6)), (d_hirers, kI k 6 (va_cpy dd_hirersF d_hirersF 0 0 6)), (d_places, kI k 6 (va_cpy dd_placesF d_placesF 0 0 6)), (d_cameAt, kI k 6 (va_cpy dd_cameAtF d_cameAtF 0 0 6)), (d_cooked, kI k 6 (va_cpy dd_cookedF d_cookedF 0 0 6)), (dd, kO 4 [.ref dd_yards, .ref dd_paces, .ref dd_stuck, .ref dd_hirers, .ref dd_places, .ref dd_cameAt, .ref dd_cooked, .int dd_inside, .int dd_night, .int dd_minute, .int dd_tasted, .int dd_lastCook, .int (bB dd_stirred)]), (dd_yards, kI k 6 dd_yardsF), (dd_paces, kI k 6 dd_pacesF), (dd_stuck, kI k 6 dd_stuckF), (dd_hirers, kI k 6 dd_hirersF), (dd_places, kI k 6 dd_placesF), (dd_cameAt, kI k 6 dd_cameAtF), (dd_cooked, kI k 6 dd_cookedF)]) [0, 1, 2, 3, 4, 5, 6, 7, 8, 9, 10, 11, 12, 13, 14, 15] rfl
              have hD9 := hD.sub (ws' := [(d, kO 4 [.ref d_yards, .ref d_paces, .ref d_stuck, .ref d_hirers, .ref d_places, .ref d_cameAt, .ref d_cooked, .int dd_inside, .int dd_night, .int dd_minute, .int dd_tasted, .int dd_lastCook, .int (bB d_stirred)]), (d_yards, kI k 6 (va_cpy dd_yardsF d_yardsF 0 0 6)), (d_paces, kI k 6 (va_cpy dd_pacesF d_pacesF 0 0 6)), (d_stuck, kI k 6 (va_cpy dd_stuckF d_stuckF 0 0 6)), (d_hirers, kI k 6 (va_cpy dd_hirersF d_hirersF 0 0 6)), (d_places, kI k 6 (va_cpy dd_placesF d_placesF 0 0 6)), (d_cameAt, kI k 6 (va_cpy dd_cameAtF d_cameAtF 0 0 6)), (d_cooked, kI k 6 (va_cpy dd_cookedF d_cookedF 0 0 6)), (dd, kO 4 [.ref dd_yards, .ref dd_paces, .ref dd_stuck, .ref dd_hirers, .ref dd_places, .ref dd_cameAt, .ref dd_cooked, .int dd_inside, .int dd_night, .int dd_minute, .int dd_tasted, .int dd_lastCook, .int (bB dd_stirred)]), (dd_yards, kI k 6 dd_yardsF), (dd_paces, kI k 6 dd_pacesF), (dd_stuck, kI k 6 dd_stuckF), (dd_hirers, kI k 6 dd_hirersF), (dd_places, kI k 6 dd_placesF), (dd_cameAt, kI k 6 dd_cameAtF), (dd_cooked, kI k 6 dd_cookedF)]) [0, 1, 2, 3, 4, 5, 6, 7, 8, 9, 10, 11, 12, 13, 14, 15] (by decide +kernel) rfl
              exact W.vret hx hb hr (fun zt ht hW => ⟨⟨⟨dd_inside, dd_night, dd_minute, dd_tasted, dd_lastCook, (va_cpy dd_yardsF d_yardsF 0 0 6), (va_cpy dd_pacesF d_pacesF 0 0 6), (va_cpy dd_stuckF d_stuckF 0 0 6), (va_cpy dd_hirersF d_hirersF 0 0 6), (va_cpy dd_placesF d_placesF 0 0 6), (va_cpy dd_cameAtF d_cameAtF 0 0 6), (va_cpy dd_cookedF d_cookedF 0 0 6)⟩, rfl, (hZ.trans hE0), by rw [ht]; exact hP9, hD9⟩, hS.F ht⟩) hS.2.2 dX4_copyFrom_145
