set_option maxHeartbeats 4000000 in
set_option maxRecDepth 100000 in
theorem sX4_isOnRoad (l : Launch) (D : va_G) (k : Nat → ClassId) (sz : Nat) (d : Nat) (g : Int32) (d_yards : Nat) (d_paces : Nat) (d_stuck : Nat) (d_hirers : Nat) (d_places : Nat) (d_cameAt : Nat) (d_cooked : Nat) (d_inside : Int32) (d_night : Int32) (d_minute : Int32) (d_tasted : Int32) (d_lastCook : Int32) (d_stirred : Bool) (d_yardsF : Nat → Int32) : Met l yX4_isOnRoad wsX4_isOnRoad ({ frames := 0, cells := 0, slots := 0, locals := 0 }) (va_Pc [.ref d, .int g] (kz_Pre D k [(d, kO 4 [.ref d_yards, .ref d_paces, .ref d_stuck, .ref d_hirers, .ref d_places, .ref d_cameAt, .ref d_cooked, .int d_inside, .int d_night, .int d_minute, .int d_tasted, .int d_lastCook, .int (bB d_stirred)]), (d_yards, kI k 6 d_yardsF)] sz)) (va_Qi (fun (rr : Int32) (uu : Bool) => rr = bB uu ∧ ((uu) = (fX4_isOnRoad g d_yardsF)) ∧ (uu = true → (0 ≤ Int32.toInt g ∧ Int32.toInt g < 6))) (fun uu zt => kz_B D (va_A [(d, kO 4 [.ref d_yards, .ref d_paces, .ref d_stuck, .ref d_hirers, .ref d_places, .ref d_cameAt, .ref d_cooked, .int d_inside, .int d_night, .int d_minute, .int d_tasted, .int d_lastCook, .int (bB d_stirred)]), (d_yards, kI k 6 d_yardsF)] sz) [(d, kO 4 [.ref d_yards, .ref d_paces, .ref d_stuck, .ref d_hirers, .ref d_places, .ref d_cameAt, .ref d_cooked, .int d_inside, .int d_night, .int d_minute, .int d_tasted, .int d_lastCook, .int (bB d_stirred)]), (d_yards, kI k 6 d_yardsF)] zt) (va_A [(d, kO 4 [.ref d_yards, .ref d_paces, .ref d_stuck, .ref d_hirers, .ref d_places, .ref d_cameAt, .ref d_cooked, .int d_inside, .int d_night, .int d_minute, .int d_tasted, .int d_lastCook, .int (bB d_stirred)]), (d_yards, kI k 6 d_yardsF)] sz)) 0 0 (va_A [(d, kO 4 [.ref d_yards, .ref d_paces, .ref d_stuck, .ref d_hirers, .ref d_places, .ref d_cameAt, .ref d_cooked, .int d_inside, .int d_night, .int d_minute, .int d_tasted, .int d_lastCook, .int (bB d_stirred)]), (d_yards, kI k 6 d_yardsF)] sz) := by
  refine Met.ofW (cc := cX4_isOnRoad) (maxL := 2) (ret := (some .boolean)) (by decide) rfl ?_
  intro p e s m args below meth c s₁ B hml hv
  obtain ⟨hav, hsz, hP, hK, hD0, hE⟩ := hv
  have hx := B.exec
  have hb := B.bytes
  have hr := B.returns
  have hts := atoms_spec (ws := wsX4_isOnRoad) B.pre
  have hown : s.vm.findClass RX4 = some m.cls := findClass_of_methodNamed B.named
  have hlocks := B.notSynchronized
  have hi4 : ∀ w ∈ u_ws RX4 TX4 13, w ∈ wsX4_isOnRoad := fun w h9 => List.mem_cons_of_mem _ (List.mem_append_right _ h9)
  have lf9 := hts (.fieldLink RX4 9 "LastCook$Road" "yards" "[I") (List.mem_cons_of_mem _ (List.mem_append_left _ (List.mem_of_getElem? (i := 0) rfl)))
  subst hsz
  have hD := hD0.self (sz := s.heap.size)
  generalize hAe : va_A [(d, kO 4 [.ref d_yards, .ref d_paces, .ref d_stuck, .ref d_hirers, .ref d_places, .ref d_cameAt, .ref d_cooked, .int d_inside, .int d_night, .int d_minute, .int d_tasted, .int d_lastCook, .int (bB d_stirred)]), (d_yards, kI k 6 d_yardsF)] s.heap.size = A at hD ⊢
  have hA : ∀ q : Nat, s.heap.size ≤ q → A q := fun q h => by rw [← hAe]; exact Or.inr h
  have hS : va_S A s.heap s.heap [] := va_S.rf
  have hl := lv_entry ([.ref d, .int g]) (n := 2) (Nat.le_of_ble_eq_true rfl)
  rw [show entryFrame m args 2 = entryFrame m ([.ref d, .int g] : List Value).toArray 2 by rw [hav], lg_entry_eq]
  generalize (lg_sl ([.ref d, .int g]) ++ List.replicate (2 - (lg_sl ([.ref d, .int g])).length) Slot.unset).toArray = ls at hl ⊢
  have hl : lv_has ls 2 [(0, .ref d), (1, .int g)] := hl
  obtain ⟨R, hR⟩ : ∃ R, R = (headSpec wsX4_isOnRoad ({ frames := 0, cells := 0, slots := 0, locals := 0 } : Room)).room := ⟨_, rfl⟩
  rw [← hR]
  generalize hQ : MQ below _ args s 0 0 A = Q
  replace hQ := hQ.symm
  obtain ⟨H, hH⟩ : ∃ H, H = s.heap := ⟨_, rfl⟩
  rw [← hH] at hP ⊢
  have hS : va_S A s.heap H [] := by rw [hH]; exact hS
  obtain ⟨E0, hE0⟩ : ∃ E0 : Bool, E0 = (fX4_isOnRoad g d_yardsF) := ⟨_, rfl⟩
  have hZ : (fX4_isOnRoad g d_yardsF) = E0 := hE0.symm
  refine lv_iload_n hx hb dX4_isOnRoad_0 rfl (lv_at hl 1 rfl) ?_
  have hj23_1 : ∀ (H : Heap) (locs : List Loc) (ls : Array Slot), (fX4_isOnRoad_J23a = E0) → va_P D vwCl [(d, kO 4 [.ref d_yards, .ref d_paces, .ref d_stuck, .ref d_hirers, .ref d_places, .ref d_cameAt, .ref d_cooked, .int d_inside, .int d_night, .int d_minute, .int d_tasted, .int d_lastCook, .int (bB d_stirred)]), (d_yards, kI k 6 d_yardsF)] H → va_D A [(d, kO 4 [.ref d_yards, .ref d_paces, .ref d_stuck, .ref d_hirers, .ref d_places, .ref d_cameAt, .ref d_cooked, .int d_inside, .int d_night, .int d_minute, .int d_tasted, .int d_lastCook, .int (bB d_stirred)]), (d_yards, kI k 6 d_yardsF)] → va_S A s.heap H locs → lv_has ls 2 [(0, .ref d), (1, .int g)] → W p l e R s m args below meth c H locs 0 0 Q (F0 m 23 ls []) := by
    intro H locs ls hZ hP hD hS hl
    refine lv_iconst (v := 0) hx hb dX4_isOnRoad_23 (by decide) ?_
    rw [hQ]
    have hP9 := hP.sub (ws' := [(d, kO 4 [.ref d_yards, .ref d_paces, .ref d_stuck, .ref d_hirers, .ref d_places, .ref d_cameAt, .ref d_cooked, .int d_inside, .int d_night, .int d_minute, .int d_tasted, .int d_lastCook, .int (bB d_stirred)]), (d_yards, kI k 6 d_yardsF)]) [0, 1] rfl
    have hD9 := hD.sub (ws' := [(d, kO 4 [.ref d_yards, .ref d_paces, .ref d_stuck, .ref d_hirers, .ref d_places, .ref d_cameAt, .ref d_cooked, .int d_inside, .int d_night, .int d_minute, .int d_tasted, .int d_lastCook, .int (bB d_stirred)]), (d_yards, kI k 6 d_yardsF)]) [0, 1] (by decide +kernel) rfl
    exact W.zret (v := 0) hx hb hr rfl (fun zt ht hW => ⟨⟨0, false, rfl, ⟨rfl, (hZ.trans hE0), (fun h9 => by first | exact absurd h9 (by decide) | exact Bool.noConfusion h9 | omega | (dsimp only; omega))⟩, by rw [ht]; exact hP9, hD9⟩, hS.F ht⟩) hS.2.2 dX4_isOnRoad_24
  refine lv_if_lt (tgt := 23) hx hb dX4_isOnRoad_1 (by decide) (fun c_2 => ?_) (fun c_2 => ?_)
  · exact by
     have t_2 : (Int32.toInt g) < 0 := tI_lt rfl (by decide) c_2
     have hZ := (if_pos c_2).symm.trans hZ
     exact hj23_1 _ _ _ hZ (hP.sub [0, 1] rfl) (hD.sub [0, 1] (by decide +kernel) rfl) hS (lv_sub hl [0, 1] rfl)
  · exact by
     have t_2 : (Int32.toInt g) ≥ 0 := tI_nlt rfl (by decide) c_2
     have hZ := (if_neg c_2).symm.trans hZ
     refine lv_iload_n hx hb dX4_isOnRoad_4 rfl (lv_at hl 1 rfl) ?_
     refine lv_bipush (v := 6) hx hb dX4_isOnRoad_5 (by decide) ?_
     refine lv_icmp_ge (tgt := 23) hx hb dX4_isOnRoad_7 (by decide) (fun c_3 => ?_) (fun c_3 => ?_)
     · exact by
        have t_3 : 6 ≤ (Int32.toInt g) := tI_le (by decide) rfl c_3
        have hZ := (if_pos c_3).symm.trans hZ
        exact hj23_1 _ _ _ hZ (hP.sub [0, 1] rfl) (hD.sub [0, 1] (by decide +kernel) rfl) hS (lv_sub hl [0, 1] rfl)
     · exact by
        have t_3 : 6 > (Int32.toInt g) := tI_nle (by decide) rfl c_3
        have hZ := (if_neg c_3).symm.trans hZ
        refine lv_aload_n hx hb dX4_isOnRoad_10 rfl (lv_at hl 0 rfl) ?_
        refine va_get (D := D) (ci := 4) (v := .ref d_yards) (C := RX4) (T := TX4) (N := 13) hx hb hts hi4 hown hK hP 0 rfl rfl 0 (by decide) lf9 (fun _ h9 => h9) rfl dX4_isOnRoad_11 ?_
        refine lv_iload_n hx hb dX4_isOnRoad_14 rfl (lv_at hl 1 rfl) ?_
        refine va_iald hx hb hK hP 1 0 rfl rfl (vp_in_iff.mpr (by omega)) dX4_isOnRoad_15 ?_
        refine lv_if_le (tgt := 23) hx hb dX4_isOnRoad_16 (by decide) (fun c_4 => ?_) (fun c_4 => ?_)
        · exact by
           have hZ := (if_pos c_4).symm.trans hZ
           exact hj23_1 _ _ _ hZ (hP.sub [0, 1] rfl) (hD.sub [0, 1] (by decide +kernel) rfl) hS (lv_sub hl [0, 1] rfl)
        · exact by
           have hZ := (if_neg c_4).symm.trans hZ
           refine lv_iconst (v := 1) hx hb dX4_isOnRoad_19 (by decide) ?_
           refine lv_goto (tgt := 24) hx hb dX4_isOnRoad_20 (by decide) ?_
           rw [hQ]
           have hP9 := hP.sub (ws' := [(d, kO 4 [.ref d_yards, .ref d_paces, .ref d_stuck, .ref d_hirers, .ref d_places, .ref d_cameAt, .ref d_cooked, .int d_inside, .int d_night, .int d_minute, .int d_tasted, .int d_lastCook, .int (bB d_stirred)]), (d_yards, kI k 6 d_yardsF)]) [0, 1] rfl
           have hD9 := hD.sub (ws' := [(d, kO 4 [.ref d_yards, .ref d_paces, .ref d_stuck, .ref d_hirers, .ref d_places, .ref d_cameAt, .ref d_cooked, .int d_inside, .int d_night, .int d_minute, .int d_tasted, .int d_lastCook, .int (bB d_stirred)]), (d_yards, kI k 6 d_yardsF)]) [0, 1] (by decide +kernel) rfl
           exact W.zret (v := 1) hx hb hr rfl (fun zt ht hW => ⟨⟨1, true, rfl, ⟨rfl, (hZ.trans hE0), (fun h9 => by first | exact absurd h9 (by decide) | exact Bool.noConfusion h9 | omega | (dsimp only; omega))⟩, by rw [ht]; exact hP9, hD9⟩, hS.F ht⟩) hS.2.2 dX4_isOnRoad_24
theorem dX4_isSomeoneOutWhoIsNotGreat_0 : decode cX4_isSomeoneOutWhoIsNotGreat 0 = .ok (.iconst 0, 1) := dk_iconst_0 (by decide +kernel)
theorem dX4_isSomeoneOutWhoIsNotGreat_1 : decode cX4_isSomeoneOutWhoIsNotGreat 1 = .ok (.istore_n 2, 1) := dk_istore_n_2 (by decide +kernel)
theorem dX4_isSomeoneOutWhoIsNotGreat_2 : decode cX4_isSomeoneOutWhoIsNotGreat 2 = .ok (.iload_n 2, 1) := dk_iload_n_2 (by decide +kernel)
theorem dX4_isSomeoneOutWhoIsNotGreat_3 : decode cX4_isSomeoneOutWhoIsNotGreat 3 = .ok (.aload_n 1, 1) := dk_aload_n_1 (by decide +kernel)
theorem dX4_isSomeoneOutWhoIsNotGreat_4 : decode cX4_isSomeoneOutWhoIsNotGreat 4 = .ok (.getfield 53, 3) := dk_getfield (by decide +kernel)
theorem dX4_isSomeoneOutWhoIsNotGreat_7 : decode cX4_isSomeoneOutWhoIsNotGreat 7 = .ok (.if_icmp .ge 29, 3) := dk_if_icmp_ge (by decide +kernel)
theorem dX4_isSomeoneOutWhoIsNotGreat_10 : decode cX4_isSomeoneOutWhoIsNotGreat 10 = .ok (.aload_n 0, 1) := dk_aload_n_0 (by decide +kernel)
theorem dX4_isSomeoneOutWhoIsNotGreat_11 : decode cX4_isSomeoneOutWhoIsNotGreat 11 = .ok (.iload_n 2, 1) := dk_iload_n_2 (by decide +kernel)
theorem dX4_isSomeoneOutWhoIsNotGreat_12 : decode cX4_isSomeoneOutWhoIsNotGreat 12 = .ok (.invokevirtual 66, 3) := dk_invokevirtual (by decide +kernel)
theorem dX4_isSomeoneOutWhoIsNotGreat_15 : decode cX4_isSomeoneOutWhoIsNotGreat 15 = .ok (.ifCond .eq 15, 3) := dk_ifCond_eq (by decide +kernel)
theorem dX4_isSomeoneOutWhoIsNotGreat_18 : decode cX4_isSomeoneOutWhoIsNotGreat 18 = .ok (.aload_n 1, 1) := dk_aload_n_1 (by decide +kernel)
theorem dX4_isSomeoneOutWhoIsNotGreat_19 : decode cX4_isSomeoneOutWhoIsNotGreat 19 = .ok (.getfield 84, 3) := dk_getfield (by decide +kernel)
theorem dX4_isSomeoneOutWhoIsNotGreat_22 : decode cX4_isSomeoneOutWhoIsNotGreat 22 = .ok (.iload_n 2, 1) := dk_iload_n_2 (by decide +kernel)
theorem dX4_isSomeoneOutWhoIsNotGreat_23 : decode cX4_isSomeoneOutWhoIsNotGreat 23 = .ok (.iaload, 1) := dk_iaload (by decide +kernel)
theorem dX4_isSomeoneOutWhoIsNotGreat_24 : decode cX4_isSomeoneOutWhoIsNotGreat 24 = .ok (.iconst 3, 1) := dk_iconst_3 (by decide +kernel)
theorem dX4_isSomeoneOutWhoIsNotGreat_25 : decode cX4_isSomeoneOutWhoIsNotGreat 25 = .ok (.if_icmp .eq 5, 3) := dk_if_icmp_eq (by decide +kernel)
theorem dX4_isSomeoneOutWhoIsNotGreat_28 : decode cX4_isSomeoneOutWhoIsNotGreat 28 = .ok (.iconst 1, 1) := dk_iconst_1 (by decide +kernel)
theorem dX4_isSomeoneOutWhoIsNotGreat_29 : decode cX4_isSomeoneOutWhoIsNotGreat 29 = .ok (.ireturn, 1) := dk_ireturn (by decide +kernel)
theorem dX4_isSomeoneOutWhoIsNotGreat_30 : decode cX4_isSomeoneOutWhoIsNotGreat 30 = .ok (.iinc 2 1, 3) := dk_iinc (by decide +kernel)
theorem dX4_isSomeoneOutWhoIsNotGreat_33 : decode cX4_isSomeoneOutWhoIsNotGreat 33 = .ok (.goto (-31), 3) := dk_goto (by decide +kernel)
theorem dX4_isSomeoneOutWhoIsNotGreat_36 : decode cX4_isSomeoneOutWhoIsNotGreat 36 = .ok (.iconst 0, 1) := dk_iconst_0 (by decide +kernel)
theorem dX4_isSomeoneOutWhoIsNotGreat_37 : decode cX4_isSomeoneOutWhoIsNotGreat 37 = .ok (.ireturn, 1) := dk_ireturn (by decide +kernel)
set_option maxRecDepth 20000 in
theorem ggX4_isSomeoneOutWhoIsNotGreat_X4_isOnRoad : GoodIn wsX4_isSomeoneOutWhoIsNotGreat wsX4_isOnRoad := goodIn_sub (sub_cons (List.mem_cons_of_mem _ (List.mem_append_left _ (List.mem_append_left _ (List.mem_of_getElem? (i := 6) rfl)))) (sub_app (sub_cons (List.mem_cons_of_mem _ (List.mem_append_left _ (List.mem_append_left _ (List.mem_of_getElem? (i := 7) rfl)))) sub_nil) (fun w h9 => (List.mem_cons_of_mem _ (List.mem_append_right _ h9))))) gw_X4_isOnRoad
set_option maxRecDepth 20000 in
theorem gX4_isSomeoneOutWhoIsNotGreat_X4_isOnRoad : GoodIn wsX4_isSomeoneOutWhoIsNotGreat (wsV RX4 66 RX4 yX4_isOnRoad wsX4_isOnRoad) := goodIn_app (goodIn_sub (sub_cons (List.mem_cons_of_mem _ (List.mem_append_left _ (List.mem_append_left _ (List.mem_of_getElem? (i := 2) rfl)))) (sub_cons (List.mem_cons_of_mem _ (List.mem_append_left _ (List.mem_append_left _ (List.mem_of_getElem? (i := 3) rfl)))) (sub_cons (List.mem_cons_of_mem _ (List.mem_append_left _ (List.mem_append_left _ (List.mem_of_getElem? (i := 4) rfl)))) (sub_cons (List.mem_cons_of_mem _ (List.mem_append_left _ (List.mem_append_left _ (List.mem_of_getElem? (i := 5) rfl)))) sub_nil)))) (by decide +kernel)) ggX4_isSomeoneOutWhoIsNotGreat_X4_isOnRoad
set_option maxHeartbeats 4000000 in
set_option maxRecDepth 100000 in
theorem sX4_isSomeoneOutWhoIsNotGreat (l : Launch) (D : va_G) (k : Nat → ClassId) (sz : Nat) (d : Nat) (t : Nat) (d_yards : Nat) (d_paces : Nat) (d_stuck : Nat) (d_hirers : Nat) (d_places : Nat) (d_cameAt : Nat) (d_cooked : Nat) (d_inside : Int32) (d_night : Int32) (d_minute : Int32) (d_tasted : Int32) (d_lastCook : Int32) (d_stirred : Bool) (d_yardsF : Nat → Int32) (t_names : Nat) (t_kinds : Nat) (t_yards : Nat) (t_paces : Nat) (t_skills : Nat) (t_snow : Nat) (tw : Nat) (t_guests : Nat) (t_snows : Nat) (t_bend : Int32) (t_hour : Int32) (t_bendTold : Bool) (t_hourTold : Bool) (t_kindsF : Nat → Int32) (h_t_guests : t_guests ≤ 6) (h_t_snows : t_snows ≤ 12) : Met l yX4_isSomeoneOutWhoIsNotGreat wsX4_isSomeoneOutWhoIsNotGreat ({ frames := 1, cells := 0, slots := 0, locals := 70 }) (va_Pc [.ref d, .ref t] (kz_Pre D k [(d, kO 4 [.ref d_yards, .ref d_paces, .ref d_stuck, .ref d_hirers, .ref d_places, .ref d_cameAt, .ref d_cooked, .int d_inside, .int d_night, .int d_minute, .int d_tasted, .int d_lastCook, .int (bB d_stirred)]), (d_yards, kI k 6 d_yardsF), (t, kO 7 [.ref t_names, .ref t_kinds, .ref t_yards, .ref t_paces, .ref t_skills, .ref t_snow, .ref tw, .int (nI t_guests), .int (nI t_snows), .int t_bend, .int t_hour, .int (bB t_bendTold), .int (bB t_hourTold)]), (t_kinds, kI k 6 t_kindsF)] sz)) (va_Qi (fun (rr : Int32) (uu : Bool) => rr = bB uu ∧ ((uu) = (fX4_isSomeoneOutWhoIsNotGreat d_yardsF t_guests t_kindsF))) (fun uu zt => kz_B D (va_A [(d, kO 4 [.ref d_yards, .ref d_paces, .ref d_stuck, .ref d_hirers, .ref d_places, .ref d_cameAt, .ref d_cooked, .int d_inside, .int d_night, .int d_minute, .int d_tasted, .int d_lastCook, .int (bB d_stirred)]), (d_yards, kI k 6 d_yardsF), (t, kO 7 [.ref t_names, .ref t_kinds, .ref t_yards, .ref t_paces, .ref t_skills, .ref t_snow, .ref tw, .int (nI t_guests), .int (nI t_snows), .int t_bend, .int t_hour, .int (bB t_bendTold), .int (bB t_hourTold)]), (t_kinds, kI k 6 t_kindsF)] sz) [(d, kO 4 [.ref d_yards, .ref d_paces, .ref d_stuck, .ref d_hirers, .ref d_places, .ref d_cameAt, .ref d_cooked, .int d_inside, .int d_night, .int d_minute, .int d_tasted, .int d_lastCook, .int (bB d_stirred)]), (d_yards, kI k 6 d_yardsF), (t, kO 7 [.ref t_names, .ref t_kinds, .ref t_yards, .ref t_paces, .ref t_skills, .ref t_snow, .ref tw, .int (nI t_guests), .int (nI t_snows), .int t_bend, .int t_hour, .int (bB t_bendTold), .int (bB t_hourTold)]), (t_kinds, kI k 6 t_kindsF)] zt) (va_A [(d, kO 4 [.ref d_yards, .ref d_paces, .ref d_stuck, .ref d_hirers, .ref d_places, .ref d_cameAt, .ref d_cooked, .int d_inside, .int d_night, .int d_minute, .int d_tasted, .int d_lastCook, .int (bB d_stirred)]), (d_yards, kI k 6 d_yardsF), (t, kO 7 [.ref t_names, .ref t_kinds, .ref t_yards, .ref t_paces, .ref t_skills, .ref t_snow, .ref tw, .int (nI t_guests), .int (nI t_snows), .int t_bend, .int t_hour, .int (bB t_bendTold), .int (bB t_hourTold)]), (t_kinds, kI k 6 t_kindsF)] sz)) 0 0 (va_A [(d, kO 4 [.ref d_yards, .ref d_paces, .ref d_stuck, .ref d_hirers, .ref d_places, .ref d_cameAt, .ref d_cooked, .int d_inside, .int d_night, .int d_minute, .int d_tasted, .int d_lastCook, .int (bB d_stirred)]), (d_yards, kI k 6 d_yardsF), (t, kO 7 [.ref t_names, .ref t_kinds, .ref t_yards, .ref t_paces, .ref t_skills, .ref t_snow, .ref tw, .int (nI t_guests), .int (nI t_snows), .int t_bend, .int t_hour, .int (bB t_bendTold), .int (bB t_hourTold)]), (t_kinds, kI k 6 t_kindsF)] sz) := by
  refine Met.ofW (cc := cX4_isSomeoneOutWhoIsNotGreat) (maxL := 3) (ret := (some .boolean)) (by decide) rfl ?_
  intro p e s m args below meth c s₁ B hml hv
  obtain ⟨hav, hsz, hP, hK, hD0, hE⟩ := hv
  have hx := B.exec
  have hb := B.bytes
  have hr := B.returns
  have hts := atoms_spec (ws := wsX4_isSomeoneOutWhoIsNotGreat) B.pre
  have hown : s.vm.findClass RX4 = some m.cls := findClass_of_methodNamed B.named
  have hlocks := B.notSynchronized
  have hi7 : ∀ w ∈ u_ws RX7 TX7 13, w ∈ wsX4_isSomeoneOutWhoIsNotGreat := fun w h9 => List.mem_cons_of_mem _ (List.mem_append_left _ (List.mem_append_right _ h9))
  have lf53 := hts (.fieldLink RX4 53 "LastCook$Told" "guests" "I") (List.mem_cons_of_mem _ (List.mem_append_left _ (List.mem_append_left _ (List.mem_of_getElem? (i := 0) rfl))))
  have lf84 := hts (.fieldLink RX4 84 "LastCook$Told" "kinds" "[I") (List.mem_cons_of_mem _ (List.mem_append_left _ (List.mem_append_left _ (List.mem_of_getElem? (i := 1) rfl))))
  subst hsz
  have hD := hD0.self (sz := s.heap.size)
  generalize hAe : va_A [(d, kO 4 [.ref d_yards, .ref d_paces, .ref d_stuck, .ref d_hirers, .ref d_places, .ref d_cameAt, .ref d_cooked, .int d_inside, .int d_night, .int d_minute, .int d_tasted, .int d_lastCook, .int (bB d_stirred)]), (d_yards, kI k 6 d_yardsF), (t, kO 7 [.ref t_names, .ref t_kinds, .ref t_yards, .ref t_paces, .ref t_skills, .ref t_snow, .ref tw, .int (nI t_guests), .int (nI t_snows), .int t_bend, .int t_hour, .int (bB t_bendTold), .int (bB t_hourTold)]), (t_kinds, kI k 6 t_kindsF)] s.heap.size = A at hD ⊢
  have hA : ∀ q : Nat, s.heap.size ≤ q → A q := fun q h => by rw [← hAe]; exact Or.inr h
  have hS : va_S A s.heap s.heap [] := va_S.rf
  have hl := lv_entry ([.ref d, .ref t]) (n := 3) (Nat.le_of_ble_eq_true rfl)
  rw [show entryFrame m args 3 = entryFrame m ([.ref d, .ref t] : List Value).toArray 3 by rw [hav], lg_entry_eq]
  generalize (lg_sl ([.ref d, .ref t]) ++ List.replicate (3 - (lg_sl ([.ref d, .ref t])).length) Slot.unset).toArray = ls at hl ⊢
  have hl : lv_has ls 3 [(0, .ref d), (1, .ref t)] := hl
  obtain ⟨R, hR⟩ : ∃ R, R = (headSpec wsX4_isSomeoneOutWhoIsNotGreat ({ frames := 1, cells := 0, slots := 0, locals := 70 } : Room)).room := ⟨_, rfl⟩
  rw [← hR]
  generalize hQ : MQ below _ args s 0 0 A = Q
  replace hQ := hQ.symm
  obtain ⟨H, hH⟩ : ∃ H, H = s.heap := ⟨_, rfl⟩
  rw [← hH] at hP ⊢
  have hS : va_S A s.heap H [] := by rw [hH]; exact hS
  obtain ⟨E0, hE0⟩ : ∃ E0 : Bool, E0 = (fX4_isSomeoneOutWhoIsNotGreat d_yardsF t_guests t_kindsF) := ⟨_, rfl⟩
  have hZ : (fX4_isSomeoneOutWhoIsNotGreat d_yardsF t_guests t_kindsF) = E0 := hE0.symm
  refine lv_iconst (v := 0) hx hb dX4_isSomeoneOutWhoIsNotGreat_0 (by decide) ?_
  refine lv_istore_n (lv' := [(2, .int 0), (0, .ref d), (1, .ref t)]) hx hb dX4_isSomeoneOutWhoIsNotGreat_1 rfl hl (by decide) rfl (fun ls hl => ?_)
  exact by
   have hloop2 : ∀ (nq : Nat) (l2_2 : Nat) (H : Heap) (locs : List Loc) (ls : Array Slot), (6 + 1 - l2_2) < nq → (l2_2 ≤ 6) → (lp (fun _ => false) (fX4_isSomeoneOutWhoIsNotGreat_B2a d_yardsF t_guests t_kindsF) nq l2_2 = E0) → va_P D vwCl [(d, kO 4 [.ref d_yards, .ref d_paces, .ref d_stuck, .ref d_hirers, .ref d_places, .ref d_cameAt, .ref d_cooked, .int d_inside, .int d_night, .int d_minute, .int d_tasted, .int d_lastCook, .int (bB d_stirred)]), (d_yards, kI k 6 d_yardsF), (t, kO 7 [.ref t_names, .ref t_kinds, .ref t_yards, .ref t_paces, .ref t_skills, .ref t_snow, .ref tw, .int (nI t_guests), .int (nI t_snows), .int t_bend, .int t_hour, .int (bB t_bendTold), .int (bB t_hourTold)]), (t_kinds, kI k 6 t_kindsF)] H → va_D A [(d, kO 4 [.ref d_yards, .ref d_paces, .ref d_stuck, .ref d_hirers, .ref d_places, .ref d_cameAt, .ref d_cooked, .int d_inside, .int d_night, .int d_minute, .int d_tasted, .int d_lastCook, .int (bB d_stirred)]), (d_yards, kI k 6 d_yardsF), (t, kO 7 [.ref t_names, .ref t_kinds, .ref t_yards, .ref t_paces, .ref t_skills, .ref t_snow, .ref tw, .int (nI t_guests), .int (nI t_snows), .int t_bend, .int t_hour, .int (bB t_bendTold), .int (bB t_hourTold)]), (t_kinds, kI k 6 t_kindsF)] → va_S A s.heap H locs → lv_has ls 3 [(0, .ref d), (1, .ref t), (2, .int (nI l2_2))] → W p l e R s m args below meth c H locs 0 0 Q (F0 m 2 ls []) := by
     intro n2
     induction n2 with
     | zero => intro l2_2 H locs ls hm; exact absurd hm (Nat.not_lt_zero _)
     | succ n2 ih2 =>
       intro l2_2 H locs ls hm2 i_l2_2 hZ hP hD hS hl
       obtain ⟨rc2_1, hrc2_1⟩ : ∃ r : Nat → Bool, r = lp (fun _ => false) (fX4_isSomeoneOutWhoIsNotGreat_B2a d_yardsF t_guests t_kindsF) n2 := ⟨_, rfl⟩
       have hZ : (fX4_isSomeoneOutWhoIsNotGreat_B2a d_yardsF t_guests t_kindsF) rc2_1 l2_2 = E0 := by rw [hrc2_1]; exact hZ
       refine lv_iload_n hx hb dX4_isSomeoneOutWhoIsNotGreat_2 rfl (lv_at hl 2 rfl) ?_
       refine lv_aload_n hx hb dX4_isSomeoneOutWhoIsNotGreat_3 rfl (lv_at hl 1 rfl) ?_
       refine va_get (D := D) (ci := 7) (v := .int (nI t_guests)) (C := RX7) (T := TX7) (N := 13) hx hb hts hi7 hown hK hP 2 rfl rfl 7 (by decide) lf53 (fun _ h9 => h9) rfl dX4_isSomeoneOutWhoIsNotGreat_4 ?_
       refine lv_icmp_ge (tgt := 36) hx hb dX4_isSomeoneOutWhoIsNotGreat_7 (by decide) (fun c_2 => ?_) (fun c_2 => ?_)
       · exact by
          have k_2 : t_guests ≤ l2_2 := (nI_leI (a := t_guests) (b := l2_2) (by omega) (by omega)).mp c_2
          have hZ := (if_pos k_2).symm.trans hZ
          refine lv_iconst (v := 0) hx hb dX4_isSomeoneOutWhoIsNotGreat_36 (by decide) ?_
          rw [hQ]
          have hP9 := hP.sub (ws' := [(d, kO 4 [.ref d_yards, .ref d_paces, .ref d_stuck, .ref d_hirers, .ref d_places, .ref d_cameAt, .ref d_cooked, .int d_inside, .int d_night, .int d_minute, .int d_tasted, .int d_lastCook, .int (bB d_stirred)]), (d_yards, kI k 6 d_yardsF), (t, kO 7 [.ref t_names, .ref t_kinds, .ref t_yards, .ref t_paces, .ref t_skills, .ref t_snow, .ref tw, .int (nI t_guests), .int (nI t_snows), .int t_bend, .int t_hour, .int (bB t_bendTold), .int (bB t_hourTold)]), (t_kinds, kI k 6 t_kindsF)]) [0, 1, 2, 3] rfl
          have hD9 := hD.sub (ws' := [(d, kO 4 [.ref d_yards, .ref d_paces, .ref d_stuck, .ref d_hirers, .ref d_places, .ref d_cameAt, .ref d_cooked, .int d_inside, .int d_night, .int d_minute, .int d_tasted, .int d_lastCook, .int (bB d_stirred)]), (d_yards, kI k 6 d_yardsF), (t, kO 7 [.ref t_names, .ref t_kinds, .ref t_yards, .ref t_paces, .ref t_skills, .ref t_snow, .ref tw, .int (nI t_guests), .int (nI t_snows), .int t_bend, .int t_hour, .int (bB t_bendTold), .int (bB t_hourTold)]), (t_kinds, kI k 6 t_kindsF)]) [0, 1, 2, 3] (by decide +kernel) rfl
          exact W.zret (v := 0) hx hb hr rfl (fun zt ht hW => ⟨⟨0, false, rfl, ⟨rfl, (hZ.trans hE0)⟩, by rw [ht]; exact hP9, hD9⟩, hS.F ht⟩) hS.2.2 dX4_isSomeoneOutWhoIsNotGreat_37
       · exact by
          have k_2 : ¬ (t_guests ≤ l2_2) := fun h => c_2 ((nI_leI (a := t_guests) (b := l2_2) (by omega) (by omega)).mpr h)
          have hZ := (if_neg k_2).symm.trans hZ
          refine lv_aload_n hx hb dX4_isSomeoneOutWhoIsNotGreat_10 rfl (lv_at hl 0 rfl) ?_
          refine lv_iload_n hx hb dX4_isSomeoneOutWhoIsNotGreat_11 rfl (lv_at hl 2 rfl) ?_
          refine kz_Vi (As := [.int (nI l2_2)]) (rest := []) (wc := [(d, kO 4 [.ref d_yards, .ref d_paces, .ref d_stuck, .ref d_hirers, .ref d_places, .ref d_cameAt, .ref d_cooked, .int d_inside, .int d_night, .int d_minute, .int d_tasted, .int d_lastCook, .int (bB d_stirred)]), (d_yards, kI k 6 d_yardsF)]) (wr := [(t, kO 7 [.ref t_names, .ref t_kinds, .ref t_yards, .ref t_paces, .ref t_skills, .ref t_snow, .ref tw, .int (nI t_guests), .int (nI t_snows), .int t_bend, .int t_hour, .int (bB t_bendTold), .int (bB t_hourTold)]), (t_kinds, kI k 6 t_kindsF)]) ⟨hx, hb, hml, hown, hts⟩ hK hE hP hD hS hA (sX4_isOnRoad l D k H.size d (nI l2_2) d_yards d_paces d_stuck d_hirers d_places d_cameAt d_cooked d_inside d_night d_minute d_tasted d_lastCook d_stirred d_yardsF) (cwV 1 hts gX4_isSomeoneOutWhoIsNotGreat_X4_isOnRoad rfl rfl rfl (by decide +kernel) (by rw [hR]; exact ⟨Nat.le_of_ble_eq_true rfl, Nat.le_of_ble_eq_true rfl⟩)) [0, 1] [2, 3] rfl rfl (by decide +kernel) (by decide +kernel) (by decide +kernel) 0 rfl rfl rfl hl.1 rfl (Nat.le_of_ble_eq_true rfl) dX4_isSomeoneOutWhoIsNotGreat_12 (by rw [hR]; exact ⟨Nat.le_of_ble_eq_true rfl, Nat.le_of_ble_eq_true rfl⟩) (fun r3 u3 H locs hw3 hP hD hS => ?_)
          exact by
           try dsimp only at hw3
           obtain ⟨rfl, hw3⟩ := hw3
           have hP : va_P D vwCl [(t, kO 7 [.ref t_names, .ref t_kinds, .ref t_yards, .ref t_paces, .ref t_skills, .ref t_snow, .ref tw, .int (nI t_guests), .int (nI t_snows), .int t_bend, .int t_hour, .int (bB t_bendTold), .int (bB t_hourTold)]), (t_kinds, kI k 6 t_kindsF), (d, kO 4 [.ref d_yards, .ref d_paces, .ref d_stuck, .ref d_hirers, .ref d_places, .ref d_cameAt, .ref d_cooked, .int d_inside, .int d_night, .int d_minute, .int d_tasted, .int d_lastCook, .int (bB d_stirred)]), (d_yards, kI k 6 d_yardsF)] H := hP
           have hD : va_D A [(t, kO 7 [.ref t_names, .ref t_kinds, .ref t_yards, .ref t_paces, .ref t_skills, .ref t_snow, .ref tw, .int (nI t_guests), .int (nI t_snows), .int t_bend, .int t_hour, .int (bB t_bendTold), .int (bB t_hourTold)]), (t_kinds, kI k 6 t_kindsF), (d, kO 4 [.ref d_yards, .ref d_paces, .ref d_stuck, .ref d_hirers, .ref d_places, .ref d_cameAt, .ref d_cooked, .int d_inside, .int d_night, .int d_minute, .int d_tasted, .int d_lastCook, .int (bB d_stirred)]), (d_yards, kI k 6 d_yardsF)] := hD
           obtain ⟨hw3_0, hw3_1⟩ := hw3
           have tq4 : Int32.toInt (nI l2_2) = ((l2_2 : Nat) : Int) := nI_toInt (by omega)
           have hZ := bn1_e hw3_0 hZ
           have hj30_5 : ∀ (H : Heap) (locs : List Loc) (ls : Array Slot), ((fX4_isSomeoneOutWhoIsNotGreat_J30a l2_2 rc2_1) = E0) → va_P D vwCl [(t, kO 7 [.ref t_names, .ref t_kinds, .ref t_yards, .ref t_paces, .ref t_skills, .ref t_snow, .ref tw, .int (nI t_guests), .int (nI t_snows), .int t_bend, .int t_hour, .int (bB t_bendTold), .int (bB t_hourTold)]), (t_kinds, kI k 6 t_kindsF), (d, kO 4 [.ref d_yards, .ref d_paces, .ref d_stuck, .ref d_hirers, .ref d_places, .ref d_cameAt, .ref d_cooked, .int d_inside, .int d_night, .int d_minute, .int d_tasted, .int d_lastCook, .int (bB d_stirred)]), (d_yards, kI k 6 d_yardsF)] H → va_D A [(t, kO 7 [.ref t_names, .ref t_kinds, .ref t_yards, .ref t_paces, .ref t_skills, .ref t_snow, .ref tw, .int (nI t_guests), .int (nI t_snows), .int t_bend, .int t_hour, .int (bB t_bendTold), .int (bB t_hourTold)]), (t_kinds, kI k 6 t_kindsF), (d, kO 4 [.ref d_yards, .ref d_paces, .ref d_stuck, .ref d_hirers, .ref d_places, .ref d_cameAt, .ref d_cooked, .int d_inside, .int d_night, .int d_minute, .int d_tasted, .int d_lastCook, .int (bB d_stirred)]), (d_yards, kI k 6 d_yardsF)] → va_S A s.heap H locs → lv_has ls 3 [(0, .ref d), (1, .ref t), (2, .int (nI l2_2))] → W p l e R s m args below meth c H locs 0 0 Q (F0 m 30 ls []) := by
             intro H locs ls hZ hP hD hS hl
             refine lv_iinc (v := (nI (l2_2 + 1))) (lv' := [(2, .int (nI (l2_2 + 1))), (0, .ref d), (1, .ref t)]) hx hb dX4_isSomeoneOutWhoIsNotGreat_30 hl (k := 2) rfl (nI_1 _) (by decide) rfl (fun ls hl => ?_)
             exact by
              refine lv_goto (tgt := 2) hx hb dX4_isSomeoneOutWhoIsNotGreat_33 (by decide) ?_
              exact ih2 (l2_2 + 1) _ _ _ (by omega) (by first | omega | assumption) (by rw [← hrc2_1]; exact hZ) (hP.sub [2, 3, 0, 1] rfl) (hD.sub [2, 3, 0, 1] (by decide +kernel) rfl) hS (lv_sub hl [1, 2, 0] rfl)
           refine lv_if_eq (tgt := 30) hx hb dX4_isSomeoneOutWhoIsNotGreat_15 (by decide) (fun c_6 => ?_) (fun c_6 => ?_)
           · exact by
              have b_6 : u3 = false := bB_0 c_6
              have hZ := (if_neg (bF b_6)).symm.trans hZ
              exact hj30_5 _ _ _ hZ (hP.sub [0, 1, 2, 3] rfl) (hD.sub [0, 1, 2, 3] (by decide +kernel) rfl) hS (lv_sub hl [0, 1, 2] rfl)
           · exact by
              have b_6 : u3 = true := bB_1 c_6
              have zf_6 := hw3_1 b_6
              have hZ := (if_pos b_6).symm.trans hZ
              refine lv_aload_n hx hb dX4_isSomeoneOutWhoIsNotGreat_18 rfl (lv_at hl 1 rfl) ?_
              refine va_get (D := D) (ci := 7) (v := .ref t_kinds) (C := RX7) (T := TX7) (N := 13) hx hb hts hi7 hown hK hP 0 rfl rfl 1 (by decide) lf84 (fun _ h9 => h9) rfl dX4_isSomeoneOutWhoIsNotGreat_19 ?_
              refine lv_iload_n hx hb dX4_isSomeoneOutWhoIsNotGreat_22 rfl (lv_at hl 2 rfl) ?_
              refine va_iald hx hb hK hP 1 0 rfl rfl (vp_in_nI (n := l2_2) (by omega) (by omega)) dX4_isSomeoneOutWhoIsNotGreat_23 ?_
              refine lv_iconst (v := 3) hx hb dX4_isSomeoneOutWhoIsNotGreat_24 (by decide) ?_
              refine lv_icmp_eq (tgt := 30) hx hb dX4_isSomeoneOutWhoIsNotGreat_25 (by decide) (fun c_7 => ?_) (fun c_7 => ?_)
              · exact by
                 have hZ := (if_pos c_7).symm.trans hZ
                 exact hj30_5 _ _ _ hZ (hP.sub [0, 1, 2, 3] rfl) (hD.sub [0, 1, 2, 3] (by decide +kernel) rfl) hS (lv_sub hl [0, 1, 2] rfl)
              · exact by
                 have hZ := (if_neg c_7).symm.trans hZ
                 refine lv_iconst (v := 1) hx hb dX4_isSomeoneOutWhoIsNotGreat_28 (by decide) ?_
                 rw [hQ]
                 have hP9 := hP.sub (ws' := [(d, kO 4 [.ref d_yards, .ref d_paces, .ref d_stuck, .ref d_hirers, .ref d_places, .ref d_cameAt, .ref d_cooked, .int d_inside, .int d_night, .int d_minute, .int d_tasted, .int d_lastCook, .int (bB d_stirred)]), (d_yards, kI k 6 d_yardsF), (t, kO 7 [.ref t_names, .ref t_kinds, .ref t_yards, .ref t_paces, .ref t_skills, .ref t_snow, .ref tw, .int (nI t_guests), .int (nI t_snows), .int t_bend, .int t_hour, .int (bB t_bendTold), .int (bB t_hourTold)]), (t_kinds, kI k 6 t_kindsF)]) [2, 3, 0, 1] rfl
                 have hD9 := hD.sub (ws' := [(d, kO 4 [.ref d_yards, .ref d_paces, .ref d_stuck, .ref d_hirers, .ref d_places, .ref d_cameAt, .ref d_cooked, .int d_inside, .int d_night, .int d_minute, .int d_tasted, .int d_lastCook, .int (bB d_stirred)]), (d_yards, kI k 6 d_yardsF), (t, kO 7 [.ref t_names, .ref t_kinds, .ref t_yards, .ref t_paces, .ref t_skills, .ref t_snow, .ref tw, .int (nI t_guests), .int (nI t_snows), .int t_bend, .int t_hour, .int (bB t_bendTold), .int (bB t_hourTold)]), (t_kinds, kI k 6 t_kindsF)]) [2, 3, 0, 1] (by decide +kernel) rfl
                 exact W.zret (v := 1) hx hb hr rfl (fun zt ht hW => ⟨⟨1, true, rfl, ⟨rfl, (hZ.trans hE0)⟩, by rw [ht]; exact hP9, hD9⟩, hS.F ht⟩) hS.2.2 dX4_isSomeoneOutWhoIsNotGreat_29
   exact hloop2 ((6 + 1 - 0) + 1) 0 _ _ _ (Nat.lt_succ_self _) (by first | omega | assumption) hZ (hP.sub [0, 1, 2, 3] rfl) (hD.sub [0, 1, 2, 3] (by decide +kernel) rfl) hS (lv_sub hl [1, 2, 0] rfl)
theorem dX4_holdingBack_0 : decode cX4_holdingBack 0 = .ok (.aload_n 0, 1) := dk_aload_n_0 (by decide +kernel)
theorem dX4_holdingBack_1 : decode cX4_holdingBack 1 = .ok (.aload_n 1, 1) := dk_aload_n_1 (by decide +kernel)
theorem dX4_holdingBack_2 : decode cX4_holdingBack 2 = .ok (.invokevirtual 80, 3) := dk_invokevirtual (by decide +kernel)
theorem dX4_holdingBack_5 : decode cX4_holdingBack 5 = .ok (.istore_n 2, 1) := dk_istore_n_2 (by decide +kernel)
theorem dX4_holdingBack_6 : decode cX4_holdingBack 6 = .ok (.iconst 0, 1) := dk_iconst_0 (by decide +kernel)
theorem dX4_holdingBack_7 : decode cX4_holdingBack 7 = .ok (.istore_n 3, 1) := dk_istore_n_3 (by decide +kernel)
theorem dX4_holdingBack_8 : decode cX4_holdingBack 8 = .ok (.iconst 0, 1) := dk_iconst_0 (by decide +kernel)
theorem dX4_holdingBack_9 : decode cX4_holdingBack 9 = .ok (.istore 4, 2) := dk_istore (by decide +kernel)
theorem dX4_holdingBack_11 : decode cX4_holdingBack 11 = .ok (.iload 4, 2) := dk_iload (by decide +kernel)
theorem dX4_holdingBack_13 : decode cX4_holdingBack 13 = .ok (.aload_n 1, 1) := dk_aload_n_1 (by decide +kernel)
theorem dX4_holdingBack_14 : decode cX4_holdingBack 14 = .ok (.getfield 53, 3) := dk_getfield (by decide +kernel)
theorem dX4_holdingBack_17 : decode cX4_holdingBack 17 = .ok (.if_icmp .ge 92, 3) := dk_if_icmp_ge (by decide +kernel)
theorem dX4_holdingBack_20 : decode cX4_holdingBack 20 = .ok (.aload_n 0, 1) := dk_aload_n_0 (by decide +kernel)
theorem dX4_holdingBack_21 : decode cX4_holdingBack 21 = .ok (.aload_n 0, 1) := dk_aload_n_0 (by decide +kernel)
theorem dX4_holdingBack_22 : decode cX4_holdingBack 22 = .ok (.getfield 21, 3) := dk_getfield (by decide +kernel)
theorem dX4_holdingBack_25 : decode cX4_holdingBack 25 = .ok (.iload 4, 2) := dk_iload (by decide +kernel)
theorem dX4_holdingBack_27 : decode cX4_holdingBack 27 = .ok (.iaload, 1) := dk_iaload (by decide +kernel)
theorem dX4_holdingBack_28 : decode cX4_holdingBack 28 = .ok (.invokevirtual 66, 3) := dk_invokevirtual (by decide +kernel)
theorem dX4_holdingBack_31 : decode cX4_holdingBack 31 = .ok (.ifCond .ne 44, 3) := dk_ifCond_ne (by decide +kernel)
theorem dX4_holdingBack_34 : decode cX4_holdingBack 34 = .ok (.aload_n 1, 1) := dk_aload_n_1 (by decide +kernel)
theorem dX4_holdingBack_35 : decode cX4_holdingBack 35 = .ok (.getfield 84, 3) := dk_getfield (by decide +kernel)
theorem dX4_holdingBack_38 : decode cX4_holdingBack 38 = .ok (.iload 4, 2) := dk_iload (by decide +kernel)
theorem dX4_holdingBack_40 : decode cX4_holdingBack 40 = .ok (.iaload, 1) := dk_iaload (by decide +kernel)
theorem dX4_holdingBack_41 : decode cX4_holdingBack 41 = .ok (.iconst 2, 1) := dk_iconst_2 (by decide +kernel)
theorem dX4_holdingBack_42 : decode cX4_holdingBack 42 = .ok (.if_icmp .ne 18, 3) := dk_if_icmp_ne (by decide +kernel)
theorem dX4_holdingBack_45 : decode cX4_holdingBack 45 = .ok (.aload_n 0, 1) := dk_aload_n_0 (by decide +kernel)
theorem dX4_holdingBack_46 : decode cX4_holdingBack 46 = .ok (.getfield 50, 3) := dk_getfield (by decide +kernel)
theorem dX4_holdingBack_49 : decode cX4_holdingBack 49 = .ok (.ifCond .ne 11, 3) := dk_ifCond_ne (by decide +kernel)
theorem dX4_holdingBack_52 : decode cX4_holdingBack 52 = .ok (.aload_n 1, 1) := dk_aload_n_1 (by decide +kernel)
theorem dX4_holdingBack_53 : decode cX4_holdingBack 53 = .ok (.getfield 53, 3) := dk_getfield (by decide +kernel)
theorem dX4_holdingBack_56 : decode cX4_holdingBack 56 = .ok (.iconst 1, 1) := dk_iconst_1 (by decide +kernel)
theorem dX4_holdingBack_57 : decode cX4_holdingBack 57 = .ok (.if_icmp .gt 18, 3) := dk_if_icmp_gt (by decide +kernel)
theorem dX4_holdingBack_60 : decode cX4_holdingBack 60 = .ok (.aload_n 1, 1) := dk_aload_n_1 (by decide +kernel)
theorem dX4_holdingBack_61 : decode cX4_holdingBack 61 = .ok (.getfield 84, 3) := dk_getfield (by decide +kernel)
theorem dX4_holdingBack_64 : decode cX4_holdingBack 64 = .ok (.iload 4, 2) := dk_iload (by decide +kernel)
theorem dX4_holdingBack_66 : decode cX4_holdingBack 66 = .ok (.iaload, 1) := dk_iaload (by decide +kernel)
theorem dX4_holdingBack_67 : decode cX4_holdingBack 67 = .ok (.iconst 3, 1) := dk_iconst_3 (by decide +kernel)
theorem dX4_holdingBack_68 : decode cX4_holdingBack 68 = .ok (.if_icmp .ne 11, 3) := dk_if_icmp_ne (by decide +kernel)
theorem dX4_holdingBack_71 : decode cX4_holdingBack 71 = .ok (.iload_n 2, 1) := dk_iload_n_2 (by decide +kernel)
theorem dX4_holdingBack_72 : decode cX4_holdingBack 72 = .ok (.ifCond .eq 7, 3) := dk_ifCond_eq (by decide +kernel)
theorem dX4_holdingBack_75 : decode cX4_holdingBack 75 = .ok (.iconst 1, 1) := dk_iconst_1 (by decide +kernel)
theorem dX4_holdingBack_76 : decode cX4_holdingBack 76 = .ok (.goto 4, 3) := dk_goto (by decide +kernel)
theorem dX4_holdingBack_79 : decode cX4_holdingBack 79 = .ok (.iconst 0, 1) := dk_iconst_0 (by decide +kernel)
theorem dX4_holdingBack_80 : decode cX4_holdingBack 80 = .ok (.istore 5, 2) := dk_istore (by decide +kernel)
theorem dX4_holdingBack_82 : decode cX4_holdingBack 82 = .ok (.iload 5, 2) := dk_iload (by decide +kernel)
theorem dX4_holdingBack_84 : decode cX4_holdingBack 84 = .ok (.ifCond .eq 19, 3) := dk_ifCond_eq (by decide +kernel)
theorem dX4_holdingBack_87 : decode cX4_holdingBack 87 = .ok (.aload_n 0, 1) := dk_aload_n_0 (by decide +kernel)
theorem dX4_holdingBack_88 : decode cX4_holdingBack 88 = .ok (.iload 4, 2) := dk_iload (by decide +kernel)
theorem dX4_holdingBack_90 : decode cX4_holdingBack 90 = .ok (.invokevirtual 66, 3) := dk_invokevirtual (by decide +kernel)
theorem dX4_holdingBack_93 : decode cX4_holdingBack 93 = .ok (.ifCond .eq 10, 3) := dk_ifCond_eq (by decide +kernel)
theorem dX4_holdingBack_96 : decode cX4_holdingBack 96 = .ok (.iload_n 3, 1) := dk_iload_n_3 (by decide +kernel)
theorem dX4_holdingBack_97 : decode cX4_holdingBack 97 = .ok (.iconst 1, 1) := dk_iconst_1 (by decide +kernel)
theorem dX4_holdingBack_98 : decode cX4_holdingBack 98 = .ok (.iload 4, 2) := dk_iload (by decide +kernel)
theorem dX4_holdingBack_100 : decode cX4_holdingBack 100 = .ok (.ishl, 1) := dk_ishl (by decide +kernel)
theorem dX4_holdingBack_101 : decode cX4_holdingBack 101 = .ok (.ior, 1) := dk_ior (by decide +kernel)
theorem dX4_holdingBack_102 : decode cX4_holdingBack 102 = .ok (.istore_n 3, 1) := dk_istore_n_3 (by decide +kernel)
theorem dX4_holdingBack_103 : decode cX4_holdingBack 103 = .ok (.iinc 4 1, 3) := dk_iinc (by decide +kernel)
theorem dX4_holdingBack_106 : decode cX4_holdingBack 106 = .ok (.goto (-95), 3) := dk_goto (by decide +kernel)
theorem dX4_holdingBack_109 : decode cX4_holdingBack 109 = .ok (.iload_n 3, 1) := dk_iload_n_3 (by decide +kernel)
theorem dX4_holdingBack_110 : decode cX4_holdingBack 110 = .ok (.ireturn, 1) := dk_ireturn (by decide +kernel)
set_option maxRecDepth 20000 in
theorem ggX4_holdingBack_X4_isSomeoneOutWhoIsNotGreat : GoodIn wsX4_holdingBack wsX4_isSomeoneOutWhoIsNotGreat := goodIn_sub (sub_cons (List.mem_cons_of_mem _ (List.mem_append_left _ (List.mem_append_left _ (List.mem_of_getElem? (i := 8) rfl)))) (sub_app (sub_app (sub_cons (List.mem_cons_of_mem _ (List.mem_append_left _ (List.mem_append_left _ (List.mem_of_getElem? (i := 0) rfl)))) (sub_cons (List.mem_cons_of_mem _ (List.mem_append_left _ (List.mem_append_left _ (List.mem_of_getElem? (i := 2) rfl)))) (sub_cons (List.mem_cons_of_mem _ (List.mem_append_left _ (List.mem_append_left _ (List.mem_of_getElem? (i := 9) rfl)))) (sub_cons (List.mem_cons_of_mem _ (List.mem_append_left _ (List.mem_append_left _ (List.mem_of_getElem? (i := 10) rfl)))) (sub_cons (List.mem_cons_of_mem _ (List.mem_append_left _ (List.mem_append_left _ (List.mem_of_getElem? (i := 11) rfl)))) (sub_cons (List.mem_cons_of_mem _ (List.mem_append_left _ (List.mem_append_left _ (List.mem_of_getElem? (i := 7) rfl)))) (sub_cons (List.mem_cons_of_mem _ (List.mem_append_left _ (List.mem_append_left _ (List.mem_of_getElem? (i := 12) rfl)))) (sub_cons (List.mem_cons_of_mem _ (List.mem_append_left _ (List.mem_append_left _ (List.mem_of_getElem? (i := 13) rfl)))) sub_nil)))))))) (fun w h9 => (List.mem_cons_of_mem _ (List.mem_append_left _ (List.mem_append_right _ h9))))) (fun w h9 => (List.mem_cons_of_mem _ (List.mem_append_right _ h9))))) gw_X4_isSomeoneOutWhoIsNotGreat
set_option maxRecDepth 20000 in
theorem gX4_holdingBack_X4_isSomeoneOutWhoIsNotGreat : GoodIn wsX4_holdingBack (wsV RX4 80 RX4 yX4_isSomeoneOutWhoIsNotGreat wsX4_isSomeoneOutWhoIsNotGreat) := goodIn_app (goodIn_sub (sub_cons (List.mem_cons_of_mem _ (List.mem_append_left _ (List.mem_append_left _ (List.mem_of_getElem? (i := 4) rfl)))) (sub_cons (List.mem_cons_of_mem _ (List.mem_append_left _ (List.mem_append_left _ (List.mem_of_getElem? (i := 5) rfl)))) (sub_cons (List.mem_cons_of_mem _ (List.mem_append_left _ (List.mem_append_left _ (List.mem_of_getElem? (i := 6) rfl)))) (sub_cons (List.mem_cons_of_mem _ (List.mem_append_left _ (List.mem_append_left _ (List.mem_of_getElem? (i := 7) rfl)))) sub_nil)))) (by decide +kernel)) ggX4_holdingBack_X4_isSomeoneOutWhoIsNotGreat
set_option maxRecDepth 20000 in
theorem ggX4_holdingBack_X4_isOnRoad : GoodIn wsX4_holdingBack wsX4_isOnRoad := goodIn_sub (sub_cons (List.mem_cons_of_mem _ (List.mem_append_left _ (List.mem_append_left _ (List.mem_of_getElem? (i := 12) rfl)))) (sub_app (sub_cons (List.mem_cons_of_mem _ (List.mem_append_left _ (List.mem_append_left _ (List.mem_of_getElem? (i := 13) rfl)))) sub_nil) (fun w h9 => (List.mem_cons_of_mem _ (List.mem_append_right _ h9))))) gw_X4_isOnRoad
set_option maxRecDepth 20000 in
theorem gX4_holdingBack_X4_isOnRoad : GoodIn wsX4_holdingBack (wsV RX4 66 RX4 yX4_isOnRoad wsX4_isOnRoad) := goodIn_app (goodIn_sub (sub_cons (List.mem_cons_of_mem _ (List.mem_append_left _ (List.mem_append_left _ (List.mem_of_getElem? (i := 9) rfl)))) (sub_cons (List.mem_cons_of_mem _ (List.mem_append_left _ (List.mem_append_left _ (List.mem_of_getElem? (i := 10) rfl)))) (sub_cons (List.mem_cons_of_mem _ (List.mem_append_left _ (List.mem_append_left _ (List.mem_of_getElem? (i := 11) rfl)))) (sub_cons (List.mem_cons_of_mem _ (List.mem_append_left _ (List.mem_append_left _ (List.mem_of_getElem? (i := 7) rfl)))) sub_nil)))) (by decide +kernel)) ggX4_holdingBack_X4_isOnRoad
set_option maxHeartbeats 4000000 in
set_option maxRecDepth 100000 in
theorem sX4_holdingBack (l : Launch) (D : va_G) (k : Nat → ClassId) (sz : Nat) (d : Nat) (t : Nat) (d_yards : Nat) (d_paces : Nat) (d_stuck : Nat) (d_hirers : Nat) (d_places : Nat) (d_cameAt : Nat) (d_cooked : Nat) (d_inside : Int32) (d_night : Int32) (d_minute : Int32) (d_tasted : Int32) (d_lastCook : Int32) (d_stirred : Bool) (d_yardsF : Nat → Int32) (d_hirersF : Nat → Int32) (t_names : Nat) (t_kinds : Nat) (t_yards : Nat) (t_paces : Nat) (t_skills : Nat) (t_snow : Nat) (tw : Nat) (t_guests : Nat) (t_snows : Nat) (t_bend : Int32) (t_hour : Int32) (t_bendTold : Bool) (t_hourTold : Bool) (t_kindsF : Nat → Int32) (h_t_guests : t_guests ≤ 6) (h_t_snows : t_snows ≤ 12) : Met l yX4_holdingBack wsX4_holdingBack ({ frames := 2, cells := 0, slots := 0, locals := 140 }) (va_Pc [.ref d, .ref t] (kz_Pre D k [(d, kO 4 [.ref d_yards, .ref d_paces, .ref d_stuck, .ref d_hirers, .ref d_places, .ref d_cameAt, .ref d_cooked, .int d_inside, .int d_night, .int d_minute, .int d_tasted, .int d_lastCook, .int (bB d_stirred)]), (d_yards, kI k 6 d_yardsF), (d_hirers, kI k 6 d_hirersF), (t, kO 7 [.ref t_names, .ref t_kinds, .ref t_yards, .ref t_paces, .ref t_skills, .ref t_snow, .ref tw, .int (nI t_guests), .int (nI t_snows), .int t_bend, .int t_hour, .int (bB t_bendTold), .int (bB t_hourTold)]), (t_kinds, kI k 6 t_kindsF)] sz)) (va_Qi (fun (rr : Int32) (uu : Unit) => ((rr) = (fX4_holdingBack d_inside d_yardsF d_hirersF t_guests t_kindsF))) (fun uu zt => kz_B D (va_A [(d, kO 4 [.ref d_yards, .ref d_paces, .ref d_stuck, .ref d_hirers, .ref d_places, .ref d_cameAt, .ref d_cooked, .int d_inside, .int d_night, .int d_minute, .int d_tasted, .int d_lastCook, .int (bB d_stirred)]), (d_yards, kI k 6 d_yardsF), (d_hirers, kI k 6 d_hirersF), (t, kO 7 [.ref t_names, .ref t_kinds, .ref t_yards, .ref t_paces, .ref t_skills, .ref t_snow, .ref tw, .int (nI t_guests), .int (nI t_snows), .int t_bend, .int t_hour, .int (bB t_bendTold), .int (bB t_hourTold)]), (t_kinds, kI k 6 t_kindsF)] sz) [(d, kO 4 [.ref d_yards, .ref d_paces, .ref d_stuck, .ref d_hirers, .ref d_places, .ref d_cameAt, .ref d_cooked, .int d_inside, .int d_night, .int d_minute, .int d_tasted, .int d_lastCook, .int (bB d_stirred)]), (d_yards, kI k 6 d_yardsF), (d_hirers, kI k 6 d_hirersF), (t, kO 7 [.ref t_names, .ref t_kinds, .ref t_yards, .ref t_paces, .ref t_skills, .ref t_snow, .ref tw, .int (nI t_guests), .int (nI t_snows), .int t_bend, .int t_hour, .int (bB t_bendTold), .int (bB t_hourTold)]), (t_kinds, kI k 6 t_kindsF)] zt) (va_A [(d, kO 4 [.ref d_yards, .ref d_paces, .ref d_stuck, .ref d_hirers, .ref d_places, .ref d_cameAt, .ref d_cooked, .int d_inside, .int d_night, .int d_minute, .int d_tasted, .int d_lastCook, .int (bB d_stirred)]), (d_yards, kI k 6 d_yardsF), (d_hirers, kI k 6 d_hirersF), (t, kO 7 [.ref t_names, .ref t_kinds, .ref t_yards, .ref t_paces, .ref t_skills, .ref t_snow, .ref tw, .int (nI t_guests), .int (nI t_snows), .int t_bend, .int t_hour, .int (bB t_bendTold), .int (bB t_hourTold)]), (t_kinds, kI k 6 t_kindsF)] sz)) 0 0 (va_A [(d, kO 4 [.ref d_yards, .ref d_paces, .ref d_stuck, .ref d_hirers, .ref d_places, .ref d_cameAt, .ref d_cooked, .int d_inside, .int d_night, .int d_minute, .int d_tasted, .int d_lastCook, .int (bB d_stirred)]), (d_yards, kI k 6 d_yardsF), (d_hirers, kI k 6 d_hirersF), (t, kO 7 [.ref t_names, .ref t_kinds, .ref t_yards, .ref t_paces, .ref t_skills, .ref t_snow, .ref tw, .int (nI t_guests), .int (nI t_snows), .int t_bend, .int t_hour, .int (bB t_bendTold), .int (bB t_hourTold)]), (t_kinds, kI k 6 t_kindsF)] sz) := by
  refine Met.ofW (cc := cX4_holdingBack) (maxL := 6) (ret := (some .int)) (by decide) rfl ?_
  intro p e s m args below meth c s₁ B hml hv
  obtain ⟨hav, hsz, hP, hK, hD0, hE⟩ := hv
  have hx := B.exec
  have hb := B.bytes
  have hr := B.returns
  have hts := atoms_spec (ws := wsX4_holdingBack) B.pre
  have hown : s.vm.findClass RX4 = some m.cls := findClass_of_methodNamed B.named
  have hlocks := B.notSynchronized
  have hi4 : ∀ w ∈ u_ws RX4 TX4 13, w ∈ wsX4_holdingBack := fun w h9 => List.mem_cons_of_mem _ (List.mem_append_right _ h9)
  have hi7 : ∀ w ∈ u_ws RX7 TX7 13, w ∈ wsX4_holdingBack := fun w h9 => List.mem_cons_of_mem _ (List.mem_append_left _ (List.mem_append_right _ h9))
  have lf53 := hts (.fieldLink RX4 53 "LastCook$Told" "guests" "I") (List.mem_cons_of_mem _ (List.mem_append_left _ (List.mem_append_left _ (List.mem_of_getElem? (i := 0) rfl))))
  have lf21 := hts (.fieldLink RX4 21 "LastCook$Road" "hirers" "[I") (List.mem_cons_of_mem _ (List.mem_append_left _ (List.mem_append_left _ (List.mem_of_getElem? (i := 1) rfl))))
  have lf84 := hts (.fieldLink RX4 84 "LastCook$Told" "kinds" "[I") (List.mem_cons_of_mem _ (List.mem_append_left _ (List.mem_append_left _ (List.mem_of_getElem? (i := 2) rfl))))
  have lf50 := hts (.fieldLink RX4 50 "LastCook$Road" "inside" "I") (List.mem_cons_of_mem _ (List.mem_append_left _ (List.mem_append_left _ (List.mem_of_getElem? (i := 3) rfl))))
  subst hsz
  have hD := hD0.self (sz := s.heap.size)
  generalize hAe : va_A [(d, kO 4 [.ref d_yards, .ref d_paces, .ref d_stuck, .ref d_hirers, .ref d_places, .ref d_cameAt, .ref d_cooked, .int d_inside, .int d_night, .int d_minute, .int d_tasted, .int d_lastCook, .int (bB d_stirred)]), (d_yards, kI k 6 d_yardsF), (d_hirers, kI k 6 d_hirersF), (t, kO 7 [.ref t_names, .ref t_kinds, .ref t_yards, .ref t_paces, .ref t_skills, .ref t_snow, .ref tw, .int (nI t_guests), .int (nI t_snows), .int t_bend, .int t_hour, .int (bB t_bendTold), .int (bB t_hourTold)]), (t_kinds, kI k 6 t_kindsF)] s.heap.size = A at hD ⊢
  have hA : ∀ q : Nat, s.heap.size ≤ q → A q := fun q h => by rw [← hAe]; exact Or.inr h
  have hS : va_S A s.heap s.heap [] := va_S.rf
  have hl := lv_entry ([.ref d, .ref t]) (n := 6) (Nat.le_of_ble_eq_true rfl)
  rw [show entryFrame m args 6 = entryFrame m ([.ref d, .ref t] : List Value).toArray 6 by rw [hav], lg_entry_eq]
  generalize (lg_sl ([.ref d, .ref t]) ++ List.replicate (6 - (lg_sl ([.ref d, .ref t])).length) Slot.unset).toArray = ls at hl ⊢
  have hl : lv_has ls 6 [(0, .ref d), (1, .ref t)] := hl
  obtain ⟨R, hR⟩ : ∃ R, R = (headSpec wsX4_holdingBack ({ frames := 2, cells := 0, slots := 0, locals := 140 } : Room)).room := ⟨_, rfl⟩
  rw [← hR]
  generalize hQ : MQ below _ args s 0 0 A = Q
  replace hQ := hQ.symm
  obtain ⟨H, hH⟩ : ∃ H, H = s.heap := ⟨_, rfl⟩
  rw [← hH] at hP ⊢
  have hS : va_S A s.heap H [] := by rw [hH]; exact hS
  obtain ⟨E0, hE0⟩ : ∃ E0 : Int32, E0 = (fX4_holdingBack d_inside d_yardsF d_hirersF t_guests t_kindsF) := ⟨_, rfl⟩
  have hZ : (fX4_holdingBack d_inside d_yardsF d_hirersF t_guests t_kindsF) = E0 := hE0.symm
  refine lv_aload_n hx hb dX4_holdingBack_0 rfl (lv_at hl 0 rfl) ?_
  refine lv_aload_n hx hb dX4_holdingBack_1 rfl (lv_at hl 1 rfl) ?_
  refine kz_Vi (As := [.ref t]) (rest := []) (wc := [(d, kO 4 [.ref d_yards, .ref d_paces, .ref d_stuck, .ref d_hirers, .ref d_places, .ref d_cameAt, .ref d_cooked, .int d_inside, .int d_night, .int d_minute, .int d_tasted, .int d_lastCook, .int (bB d_stirred)]), (d_yards, kI k 6 d_yardsF), (t, kO 7 [.ref t_names, .ref t_kinds, .ref t_yards, .ref t_paces, .ref t_skills, .ref t_snow, .ref tw, .int (nI t_guests), .int (nI t_snows), .int t_bend, .int t_hour, .int (bB t_bendTold), .int (bB t_hourTold)]), (t_kinds, kI k 6 t_kindsF)]) (wr := [(d_hirers, kI k 6 d_hirersF)]) ⟨hx, hb, hml, hown, hts⟩ hK hE hP hD hS hA (sX4_isSomeoneOutWhoIsNotGreat l D k H.size d t d_yards d_paces d_stuck d_hirers d_places d_cameAt d_cooked d_inside d_night d_minute d_tasted d_lastCook d_stirred d_yardsF t_names t_kinds t_yards t_paces t_skills t_snow tw t_guests t_snows t_bend t_hour t_bendTold t_hourTold t_kindsF (by first | omega | assumption | decide) (by first | omega | assumption | decide)) (cwV 1 hts gX4_holdingBack_X4_isSomeoneOutWhoIsNotGreat rfl rfl rfl (by decide +kernel) (by rw [hR]; exact ⟨Nat.le_of_ble_eq_true rfl, Nat.le_of_ble_eq_true rfl⟩)) [0, 1, 3, 4] [2] rfl rfl (by decide +kernel) (by decide +kernel) (by decide +kernel) 0 rfl rfl rfl hl.1 rfl (Nat.le_of_ble_eq_true rfl) dX4_holdingBack_2 (by rw [hR]; exact ⟨Nat.le_of_ble_eq_true rfl, Nat.le_of_ble_eq_true rfl⟩) (fun r1 u1 H locs hw1 hP hD hS => ?_)
  exact by
   try dsimp only at hw1
   obtain ⟨rfl, hw1⟩ := hw1
   have hP : va_P D vwCl [(d_hirers, kI k 6 d_hirersF), (d, kO 4 [.ref d_yards, .ref d_paces, .ref d_stuck, .ref d_hirers, .ref d_places, .ref d_cameAt, .ref d_cooked, .int d_inside, .int d_night, .int d_minute, .int d_tasted, .int d_lastCook, .int (bB d_stirred)]), (d_yards, kI k 6 d_yardsF), (t, kO 7 [.ref t_names, .ref t_kinds, .ref t_yards, .ref t_paces, .ref t_skills, .ref t_snow, .ref tw, .int (nI t_guests), .int (nI t_snows), .int t_bend, .int t_hour, .int (bB t_bendTold), .int (bB t_hourTold)]), (t_kinds, kI k 6 t_kindsF)] H := hP
   have hD : va_D A [(d_hirers, kI k 6 d_hirersF), (d, kO 4 [.ref d_yards, .ref d_paces, .ref d_stuck, .ref d_hirers, .ref d_places, .ref d_cameAt, .ref d_cooked, .int d_inside, .int d_night, .int d_minute, .int d_tasted, .int d_lastCook, .int (bB d_stirred)]), (d_yards, kI k 6 d_yardsF), (t, kO 7 [.ref t_names, .ref t_kinds, .ref t_yards, .ref t_paces, .ref t_skills, .ref t_snow, .ref tw, .int (nI t_guests), .int (nI t_snows), .int t_bend, .int t_hour, .int (bB t_bendTold), .int (bB t_hourTold)]), (t_kinds, kI k 6 t_kindsF)] := hD
   have hw1_0 := hw1
   have hZ := bn1_e hw1_0 hZ
   refine lv_istore_n (lv' := [(2, .int (bB u1)), (0, .ref d), (1, .ref t)]) hx hb dX4_holdingBack_5 rfl hl (by decide) rfl (fun ls hl => ?_)
   exact by
    refine lv_iconst (v := 0) hx hb dX4_holdingBack_6 (by decide) ?_
    refine lv_istore_n (lv' := [(3, .int 0), (2, .int (bB u1)), (0, .ref d), (1, .ref t)]) hx hb dX4_holdingBack_7 rfl hl (by decide) rfl (fun ls hl => ?_)
    exact by
     refine lv_iconst (v := 0) hx hb dX4_holdingBack_8 (by decide) ?_
     refine lv_istore (lv' := [(4, .int 0), (3, .int 0), (2, .int (bB u1)), (0, .ref d), (1, .ref t)]) hx hb dX4_holdingBack_9 hl (by decide) rfl (fun ls hl => ?_)
     exact by
      have hloop11 : ∀ (nq : Nat) (l3_11 : Int32) (l4_11 : Nat) (H : Heap) (locs : List Loc) (ls : Array Slot), (6 + 1 - l4_11) < nq → (l4_11 ≤ 6) → (lp (fun _ _ => (0 : Int32)) (fX4_holdingBack_B11a d_inside d_yardsF d_hirersF t_guests t_kindsF u1) nq l3_11 l4_11 = E0) → va_P D vwCl [(d_hirers, kI k 6 d_hirersF), (d, kO 4 [.ref d_yards, .ref d_paces, .ref d_stuck, .ref d_hirers, .ref d_places, .ref d_cameAt, .ref d_cooked, .int d_inside, .int d_night, .int d_minute, .int d_tasted, .int d_lastCook, .int (bB d_stirred)]), (d_yards, kI k 6 d_yardsF), (t, kO 7 [.ref t_names, .ref t_kinds, .ref t_yards, .ref t_paces, .ref t_skills, .ref t_snow, .ref tw, .int (nI t_guests), .int (nI t_snows), .int t_bend, .int t_hour, .int (bB t_bendTold), .int (bB t_hourTold)]), (t_kinds, kI k 6 t_kindsF)] H → va_D A [(d_hirers, kI k 6 d_hirersF), (d, kO 4 [.ref d_yards, .ref d_paces, .ref d_stuck, .ref d_hirers, .ref d_places, .ref d_cameAt, .ref d_cooked, .int d_inside, .int d_night, .int d_minute, .int d_tasted, .int d_lastCook, .int (bB d_stirred)]), (d_yards, kI k 6 d_yardsF), (t, kO 7 [.ref t_names, .ref t_kinds, .ref t_yards, .ref t_paces, .ref t_skills, .ref t_snow, .ref tw, .int (nI t_guests), .int (nI t_snows), .int t_bend, .int t_hour, .int (bB t_bendTold), .int (bB t_hourTold)]), (t_kinds, kI k 6 t_kindsF)] → va_S A s.heap H locs → lv_has ls 6 [(0, .ref d), (1, .ref t), (2, .int (bB u1)), (3, .int l3_11), (4, .int (nI l4_11))] → W p l e R s m args below meth c H locs 0 0 Q (F0 m 11 ls []) := by
        intro n11
        induction n11 with
        | zero => intro l3_11 l4_11 H locs ls hm; exact absurd hm (Nat.not_lt_zero _)
        | succ n11 ih11 =>
          intro l3_11 l4_11 H locs ls hm11 i_l4_11 hZ hP hD hS hl
          obtain ⟨rc11_2, hrc11_2⟩ : ∃ r : Int32 → Nat → Int32, r = lp (fun _ _ => (0 : Int32)) (fX4_holdingBack_B11a d_inside d_yardsF d_hirersF t_guests t_kindsF u1) n11 := ⟨_, rfl⟩
          have hZ : (fX4_holdingBack_B11a d_inside d_yardsF d_hirersF t_guests t_kindsF u1) rc11_2 l3_11 l4_11 = E0 := by rw [hrc11_2]; exact hZ
          refine lv_iload hx hb dX4_holdingBack_11 (lv_at hl 4 rfl) ?_
          refine lv_aload_n hx hb dX4_holdingBack_13 rfl (lv_at hl 1 rfl) ?_
          refine va_get (D := D) (ci := 7) (v := .int (nI t_guests)) (C := RX7) (T := TX7) (N := 13) hx hb hts hi7 hown hK hP 3 rfl rfl 7 (by decide) lf53 (fun _ h9 => h9) rfl dX4_holdingBack_14 ?_
          refine lv_icmp_ge (tgt := 109) hx hb dX4_holdingBack_17 (by decide) (fun c_3 => ?_) (fun c_3 => ?_)
          · exact by
             have k_3 : t_guests ≤ l4_11 := (nI_leI (a := t_guests) (b := l4_11) (by omega) (by omega)).mp c_3
             have hZ := (if_pos k_3).symm.trans hZ
             refine lv_iload_n hx hb dX4_holdingBack_109 rfl (lv_at hl 3 rfl) ?_
             rw [hQ]
             have hP9 := hP.sub (ws' := [(d, kO 4 [.ref d_yards, .ref d_paces, .ref d_stuck, .ref d_hirers, .ref d_places, .ref d_cameAt, .ref d_cooked, .int d_inside, .int d_night, .int d_minute, .int d_tasted, .int d_lastCook, .int (bB d_stirred)]), (d_yards, kI k 6 d_yardsF), (d_hirers, kI k 6 d_hirersF), (t, kO 7 [.ref t_names, .ref t_kinds, .ref t_yards, .ref t_paces, .ref t_skills, .ref t_snow, .ref tw, .int (nI t_guests), .int (nI t_snows), .int t_bend, .int t_hour, .int (bB t_bendTold), .int (bB t_hourTold)]), (t_kinds, kI k 6 t_kindsF)]) [1, 2, 0, 3, 4] rfl
             have hD9 := hD.sub (ws' := [(d, kO 4 [.ref d_yards, .ref d_paces, .ref d_stuck, .ref d_hirers, .ref d_places, .ref d_cameAt, .ref d_cooked, .int d_inside, .int d_night, .int d_minute, .int d_tasted, .int d_lastCook, .int (bB d_stirred)]), (d_yards, kI k 6 d_yardsF), (d_hirers, kI k 6 d_hirersF), (t, kO 7 [.ref t_names, .ref t_kinds, .ref t_yards, .ref t_paces, .ref t_skills, .ref t_snow, .ref tw, .int (nI t_guests), .int (nI t_snows), .int t_bend, .int t_hour, .int (bB t_bendTold), .int (bB t_hourTold)]), (t_kinds, kI k 6 t_kindsF)]) [1, 2, 0, 3, 4] (by decide +kernel) rfl
             exact W.iret (v := l3_11) hx hb hr (fun zt ht hW => ⟨⟨l3_11, (), rfl, (hZ.trans hE0), by rw [ht]; exact hP9, hD9⟩, hS.F ht⟩) hS.2.2 dX4_holdingBack_110
          · exact by
             have k_3 : ¬ (t_guests ≤ l4_11) := fun h => c_3 ((nI_leI (a := t_guests) (b := l4_11) (by omega) (by omega)).mpr h)
             have hZ := (if_neg k_3).symm.trans hZ
             refine lv_aload_n hx hb dX4_holdingBack_20 rfl (lv_at hl 0 rfl) ?_
             refine lv_aload_n hx hb dX4_holdingBack_21 rfl (lv_at hl 0 rfl) ?_
             refine va_get (D := D) (ci := 4) (v := .ref d_hirers) (C := RX4) (T := TX4) (N := 13) hx hb hts hi4 hown hK hP 1 rfl rfl 3 (by decide) lf21 (fun _ h9 => h9) rfl dX4_holdingBack_22 ?_
             refine lv_iload hx hb dX4_holdingBack_25 (lv_at hl 4 rfl) ?_
             refine va_iald hx hb hK hP 0 0 rfl rfl (vp_in_nI (n := l4_11) (by omega) (by omega)) dX4_holdingBack_27 ?_
             refine kz_Vi (As := [.int (d_hirersF (Int32.toNatClampNeg (nI l4_11)))]) (rest := []) (wc := [(d, kO 4 [.ref d_yards, .ref d_paces, .ref d_stuck, .ref d_hirers, .ref d_places, .ref d_cameAt, .ref d_cooked, .int d_inside, .int d_night, .int d_minute, .int d_tasted, .int d_lastCook, .int (bB d_stirred)]), (d_yards, kI k 6 d_yardsF)]) (wr := [(d_hirers, kI k 6 d_hirersF), (t, kO 7 [.ref t_names, .ref t_kinds, .ref t_yards, .ref t_paces, .ref t_skills, .ref t_snow, .ref tw, .int (nI t_guests), .int (nI t_snows), .int t_bend, .int t_hour, .int (bB t_bendTold), .int (bB t_hourTold)]), (t_kinds, kI k 6 t_kindsF)]) ⟨hx, hb, hml, hown, hts⟩ hK hE hP hD hS hA (sX4_isOnRoad l D k H.size d (d_hirersF (Int32.toNatClampNeg (nI l4_11))) d_yards d_paces d_stuck d_hirers d_places d_cameAt d_cooked d_inside d_night d_minute d_tasted d_lastCook d_stirred d_yardsF) (cwV 1 hts gX4_holdingBack_X4_isOnRoad rfl rfl rfl (by decide +kernel) (by rw [hR]; exact ⟨Nat.le_of_ble_eq_true rfl, Nat.le_of_ble_eq_true rfl⟩)) [1, 2] [0, 3, 4] rfl rfl (by decide +kernel) (by decide +kernel) (by decide +kernel) 0 rfl rfl rfl hl.1 rfl (Nat.le_of_ble_eq_true rfl) dX4_holdingBack_28 (by rw [hR]; exact ⟨Nat.le_of_ble_eq_true rfl, Nat.le_of_ble_eq_true rfl⟩) (fun r4 u4 H locs hw4 hP hD hS => ?_)
             exact by
              try dsimp only at hw4
              obtain ⟨rfl, hw4⟩ := hw4
              have hP : va_P D vwCl [(d_hirers, kI k 6 d_hirersF), (t, kO 7 [.ref t_names, .ref t_kinds, .ref t_yards, .ref t_paces, .ref t_skills, .ref t_snow, .ref tw, .int (nI t_guests), .int (nI t_snows), .int t_bend, .int t_hour, .int (bB t_bendTold), .int (bB t_hourTold)]), (t_kinds, kI k 6 t_kindsF), (d, kO 4 [.ref d_yards, .ref d_paces, .ref d_stuck, .ref d_hirers, .ref d_places, .ref d_cameAt, .ref d_cooked, .int d_inside, .int d_night, .int d_minute, .int d_tasted, .int d_lastCook, .int (bB d_stirred)]), (d_yards, kI k 6 d_yardsF)] H := hP
              have hD : va_D A [(d_hirers, kI k 6 d_hirersF), (t, kO 7 [.ref t_names, .ref t_kinds, .ref t_yards, .ref t_paces, .ref t_skills, .ref t_snow, .ref tw, .int (nI t_guests), .int (nI t_snows), .int t_bend, .int t_hour, .int (bB t_bendTold), .int (bB t_hourTold)]), (t_kinds, kI k 6 t_kindsF), (d, kO 4 [.ref d_yards, .ref d_paces, .ref d_stuck, .ref d_hirers, .ref d_places, .ref d_cameAt, .ref d_cooked, .int d_inside, .int d_night, .int d_minute, .int d_tasted, .int d_lastCook, .int (bB d_stirred)]), (d_yards, kI k 6 d_yardsF)] := hD
              obtain ⟨hw4_0, hw4_1⟩ := hw4
              have hZ := bn1_e hw4_0 hZ
              have hj80_5 : ∀ (s0_80 : Bool) (H : Heap) (locs : List Loc) (ls : Array Slot), ((fX4_holdingBack_J80a d_yardsF l3_11 l4_11 rc11_2) s0_80 = E0) → va_P D vwCl [(d_hirers, kI k 6 d_hirersF), (t, kO 7 [.ref t_names, .ref t_kinds, .ref t_yards, .ref t_paces, .ref t_skills, .ref t_snow, .ref tw, .int (nI t_guests), .int (nI t_snows), .int t_bend, .int t_hour, .int (bB t_bendTold), .int (bB t_hourTold)]), (t_kinds, kI k 6 t_kindsF), (d, kO 4 [.ref d_yards, .ref d_paces, .ref d_stuck, .ref d_hirers, .ref d_places, .ref d_cameAt, .ref d_cooked, .int d_inside, .int d_night, .int d_minute, .int d_tasted, .int d_lastCook, .int (bB d_stirred)]), (d_yards, kI k 6 d_yardsF)] H → va_D A [(d_hirers, kI k 6 d_hirersF), (t, kO 7 [.ref t_names, .ref t_kinds, .ref t_yards, .ref t_paces, .ref t_skills, .ref t_snow, .ref tw, .int (nI t_guests), .int (nI t_snows), .int t_bend, .int t_hour, .int (bB t_bendTold), .int (bB t_hourTold)]), (t_kinds, kI k 6 t_kindsF), (d, kO 4 [.ref d_yards, .ref d_paces, .ref d_stuck, .ref d_hirers, .ref d_places, .ref d_cameAt, .ref d_cooked, .int d_inside, .int d_night, .int d_minute, .int d_tasted, .int d_lastCook, .int (bB d_stirred)]), (d_yards, kI k 6 d_yardsF)] → va_S A s.heap H locs → lv_has ls 6 [(0, .ref d), (1, .ref t), (2, .int (bB u1)), (3, .int l3_11), (4, .int (nI l4_11))] → W p l e R s m args below meth c H locs 0 0 Q (F0 m 80 ls [.int (bB s0_80)]) := by
                intro s0_80 H locs ls hZ hP hD hS hl
                refine lv_istore (lv' := [(5, .int (bB s0_80)), (0, .ref d), (1, .ref t), (2, .int (bB u1)), (3, .int l3_11), (4, .int (nI l4_11))]) hx hb dX4_holdingBack_80 hl (by decide) rfl (fun ls hl => ?_)
                exact by
                 refine lv_iload hx hb dX4_holdingBack_82 (lv_at hl 0 rfl) ?_
                 have hj103_6 : ∀ (l3_103 : Int32) (H : Heap) (locs : List Loc) (ls : Array Slot), ((fX4_holdingBack_J103a l4_11 rc11_2) l3_103 = E0) → va_P D vwCl [(d_hirers, kI k 6 d_hirersF), (t, kO 7 [.ref t_names, .ref t_kinds, .ref t_yards, .ref t_paces, .ref t_skills, .ref t_snow, .ref tw, .int (nI t_guests), .int (nI t_snows), .int t_bend, .int t_hour, .int (bB t_bendTold), .int (bB t_hourTold)]), (t_kinds, kI k 6 t_kindsF), (d, kO 4 [.ref d_yards, .ref d_paces, .ref d_stuck, .ref d_hirers, .ref d_places, .ref d_cameAt, .ref d_cooked, .int d_inside, .int d_night, .int d_minute, .int d_tasted, .int d_lastCook, .int (bB d_stirred)]), (d_yards, kI k 6 d_yardsF)] H → va_D A [(d_hirers, kI k 6 d_hirersF), (t, kO 7 [.ref t_names, .ref t_kinds, .ref t_yards, .ref t_paces, .ref t_skills, .ref t_snow, .ref tw, .int (nI t_guests), .int (nI t_snows), .int t_bend, .int t_hour, .int (bB t_bendTold), .int (bB t_hourTold)]), (t_kinds, kI k 6 t_kindsF), (d, kO 4 [.ref d_yards, .ref d_paces, .ref d_stuck, .ref d_hirers, .ref d_places, .ref d_cameAt, .ref d_cooked, .int d_inside, .int d_night, .int d_minute, .int d_tasted, .int d_lastCook, .int (bB d_stirred)]), (d_yards, kI k 6 d_yardsF)] → va_S A s.heap H locs → lv_has ls 6 [(0, .ref d), (1, .ref t), (2, .int (bB u1)), (3, .int l3_103), (4, .int (nI l4_11)), (5, .int (bB s0_80))] → W p l e R s m args below meth c H locs 0 0 Q (F0 m 103 ls []) := by
                   intro l3_103 H locs ls hZ hP hD hS hl
                   refine lv_iinc (v := (nI (l4_11 + 1))) (lv' := [(4, .int (nI (l4_11 + 1))), (0, .ref d), (1, .ref t), (2, .int (bB u1)), (3, .int l3_103), (5, .int (bB s0_80))]) hx hb dX4_holdingBack_103 hl (k := 4) rfl (nI_1 _) (by decide) rfl (fun ls hl => ?_)
                   exact by
                    refine lv_goto (tgt := 11) hx hb dX4_holdingBack_106 (by decide) ?_
                    exact ih11 l3_103 (l4_11 + 1) _ _ _ (by omega) (by first | omega | assumption) (by rw [← hrc11_2]; exact hZ) (hP.sub [0, 3, 4, 1, 2] rfl) (hD.sub [0, 3, 4, 1, 2] (by decide +kernel) rfl) hS (lv_sub hl [1, 2, 3, 4, 0] rfl)
                 refine lv_if_eq (tgt := 103) hx hb dX4_holdingBack_84 (by decide) (fun c_7 => ?_) (fun c_7 => ?_)
                 · exact by
                    have b_7 : s0_80 = false := bB_0 c_7
                    have hZ := (if_neg (bF b_7)).symm.trans hZ
                    exact hj103_6 l3_11 _ _ _ hZ (hP.sub [0, 1, 2, 3, 4] rfl) (hD.sub [0, 1, 2, 3, 4] (by decide +kernel) rfl) hS (lv_sub hl [1, 2, 3, 4, 5, 0] rfl)
                 · exact by
                    have b_7 : s0_80 = true := bB_1 c_7
                    have hZ := (if_pos b_7).symm.trans hZ
                    refine lv_aload_n hx hb dX4_holdingBack_87 rfl (lv_at hl 1 rfl) ?_
                    refine lv_iload hx hb dX4_holdingBack_88 (lv_at hl 5 rfl) ?_
                    refine kz_Vi (As := [.int (nI l4_11)]) (rest := []) (wc := [(d, kO 4 [.ref d_yards, .ref d_paces, .ref d_stuck, .ref d_hirers, .ref d_places, .ref d_cameAt, .ref d_cooked, .int d_inside, .int d_night, .int d_minute, .int d_tasted, .int d_lastCook, .int (bB d_stirred)]), (d_yards, kI k 6 d_yardsF)]) (wr := [(d_hirers, kI k 6 d_hirersF), (t, kO 7 [.ref t_names, .ref t_kinds, .ref t_yards, .ref t_paces, .ref t_skills, .ref t_snow, .ref tw, .int (nI t_guests), .int (nI t_snows), .int t_bend, .int t_hour, .int (bB t_bendTold), .int (bB t_hourTold)]), (t_kinds, kI k 6 t_kindsF)]) ⟨hx, hb, hml, hown, hts⟩ hK hE hP hD hS hA (sX4_isOnRoad l D k H.size d (nI l4_11) d_yards d_paces d_stuck d_hirers d_places d_cameAt d_cooked d_inside d_night d_minute d_tasted d_lastCook d_stirred d_yardsF) (cwV 1 hts gX4_holdingBack_X4_isOnRoad rfl rfl rfl (by decide +kernel) (by rw [hR]; exact ⟨Nat.le_of_ble_eq_true rfl, Nat.le_of_ble_eq_true rfl⟩)) [3, 4] [0, 1, 2] rfl rfl (by decide +kernel) (by decide +kernel) (by decide +kernel) 0 rfl rfl rfl hl.1 rfl (Nat.le_of_ble_eq_true rfl) dX4_holdingBack_90 (by rw [hR]; exact ⟨Nat.le_of_ble_eq_true rfl, Nat.le_of_ble_eq_true rfl⟩) (fun r8 u8 H locs hw8 hP hD hS => ?_)
                    exact by
                     try dsimp only at hw8
                     obtain ⟨rfl, hw8⟩ := hw8
                     have hP : va_P D vwCl [(d_hirers, kI k 6 d_hirersF), (t, kO 7 [.ref t_names, .ref t_kinds, .ref t_yards, .ref t_paces, .ref t_skills, .ref t_snow, .ref tw, .int (nI t_guests), .int (nI t_snows), .int t_bend, .int t_hour, .int (bB t_bendTold), .int (bB t_hourTold)]), (t_kinds, kI k 6 t_kindsF), (d, kO 4 [.ref d_yards, .ref d_paces, .ref d_stuck, .ref d_hirers, .ref d_places, .ref d_cameAt, .ref d_cooked, .int d_inside, .int d_night, .int d_minute, .int d_tasted, .int d_lastCook, .int (bB d_stirred)]), (d_yards, kI k 6 d_yardsF)] H := hP
                     have hD : va_D A [(d_hirers, kI k 6 d_hirersF), (t, kO 7 [.ref t_names, .ref t_kinds, .ref t_yards, .ref t_paces, .ref t_skills, .ref t_snow, .ref tw, .int (nI t_guests), .int (nI t_snows), .int t_bend, .int t_hour, .int (bB t_bendTold), .int (bB t_hourTold)]), (t_kinds, kI k 6 t_kindsF), (d, kO 4 [.ref d_yards, .ref d_paces, .ref d_stuck, .ref d_hirers, .ref d_places, .ref d_cameAt, .ref d_cooked, .int d_inside, .int d_night, .int d_minute, .int d_tasted, .int d_lastCook, .int (bB d_stirred)]), (d_yards, kI k 6 d_yardsF)] := hD
                     obtain ⟨hw8_0, hw8_1⟩ := hw8
                     have tq9 : Int32.toInt (nI l4_11) = ((l4_11 : Nat) : Int) := nI_toInt (by omega)
                     have hZ := bn1_e hw8_0 hZ
                     refine lv_if_eq (tgt := 103) hx hb dX4_holdingBack_93 (by decide) (fun c_10 => ?_) (fun c_10 => ?_)
                     · exact by
                        have b_10 : u8 = false := bB_0 c_10
                        have hZ := (if_neg (bF b_10)).symm.trans hZ
                        exact hj103_6 l3_11 _ _ _ hZ (hP.sub [0, 1, 2, 3, 4] rfl) (hD.sub [0, 1, 2, 3, 4] (by decide +kernel) rfl) hS (lv_sub hl [1, 2, 3, 4, 5, 0] rfl)
                     · exact by
                        have b_10 : u8 = true := bB_1 c_10
                        have zf_10 := hw8_1 b_10
                        have hZ := (if_pos b_10).symm.trans hZ
                        refine lv_iload_n hx hb dX4_holdingBack_96 rfl (lv_at hl 4 rfl) ?_
                        refine lv_iconst (v := 1) hx hb dX4_holdingBack_97 (by decide) ?_
                        refine lv_iload hx hb dX4_holdingBack_98 (lv_at hl 5 rfl) ?_
                        refine lv_ishl hx hb dX4_holdingBack_100 ?_
                        refine lv_ior hx hb dX4_holdingBack_101 ?_
                        refine lv_istore_n (lv' := [(3, .int (l3_11 ||| (1 <<< ((nI l4_11) &&& 31)))), (5, .int (bB s0_80)), (0, .ref d), (1, .ref t), (2, .int (bB u1)), (4, .int (nI l4_11))]) hx hb dX4_holdingBack_102 rfl hl (by decide) rfl (fun ls hl => ?_)
                        exact by
                         exact hj103_6 (l3_11 ||| (1 <<< ((nI l4_11) &&& 31))) _ _ _ hZ (hP.sub [0, 1, 2, 3, 4] rfl) (hD.sub [0, 1, 2, 3, 4] (by decide +kernel) rfl) hS (lv_sub hl [2, 3, 4, 0, 5, 1] rfl)
              have hj75_11 : ∀ (H : Heap) (locs : List Loc) (ls : Array Slot), ((fX4_holdingBack_J75a d_yardsF l3_11 l4_11 rc11_2) = E0) → va_P D vwCl [(d_hirers, kI k 6 d_hirersF), (t, kO 7 [.ref t_names, .ref t_kinds, .ref t_yards, .ref t_paces, .ref t_skills, .ref t_snow, .ref tw, .int (nI t_guests), .int (nI t_snows), .int t_bend, .int t_hour, .int (bB t_bendTold), .int (bB t_hourTold)]), (t_kinds, kI k 6 t_kindsF), (d, kO 4 [.ref d_yards, .ref d_paces, .ref d_stuck, .ref d_hirers, .ref d_places, .ref d_cameAt, .ref d_cooked, .int d_inside, .int d_night, .int d_minute, .int d_tasted, .int d_lastCook, .int (bB d_stirred)]), (d_yards, kI k 6 d_yardsF)] H → va_D A [(d_hirers, kI k 6 d_hirersF), (t, kO 7 [.ref t_names, .ref t_kinds, .ref t_yards, .ref t_paces, .ref t_skills, .ref t_snow, .ref tw, .int (nI t_guests), .int (nI t_snows), .int t_bend, .int t_hour, .int (bB t_bendTold), .int (bB t_hourTold)]), (t_kinds, kI k 6 t_kindsF), (d, kO 4 [.ref d_yards, .ref d_paces, .ref d_stuck, .ref d_hirers, .ref d_places, .ref d_cameAt, .ref d_cooked, .int d_inside, .int d_night, .int d_minute, .int d_tasted, .int d_lastCook, .int (bB d_stirred)]), (d_yards, kI k 6 d_yardsF)] → va_S A s.heap H locs → lv_has ls 6 [(0, .ref d), (1, .ref t), (2, .int (bB u1)), (3, .int l3_11), (4, .int (nI l4_11))] → W p l e R s m args below meth c H locs 0 0 Q (F0 m 75 ls []) := by
                intro H locs ls hZ hP hD hS hl
                refine lv_iconst (v := 1) hx hb dX4_holdingBack_75 (by decide) ?_
                refine lv_goto (tgt := 80) hx hb dX4_holdingBack_76 (by decide) ?_
                exact hj80_5 true _ _ _ hZ (hP.sub [0, 1, 2, 3, 4] rfl) (hD.sub [0, 1, 2, 3, 4] (by decide +kernel) rfl) hS (lv_sub hl [0, 1, 2, 3, 4] rfl)
              refine lv_if_ne (tgt := 75) hx hb dX4_holdingBack_31 (by decide) (fun c_12 => ?_) (fun c_12 => ?_)
              · exact by
                 have b_12 : u4 = true := bB_1 c_12
                 have zf_12 := hw4_1 b_12
                 have hZ := (if_pos b_12).symm.trans hZ
                 exact hj75_11 _ _ _ hZ (hP.sub [0, 1, 2, 3, 4] rfl) (hD.sub [0, 1, 2, 3, 4] (by decide +kernel) rfl) hS (lv_sub hl [0, 1, 2, 3, 4] rfl)
              · exact by
                 have b_12 : u4 = false := bB_0 c_12
                 have hZ := (if_neg (bF b_12)).symm.trans hZ
                 refine lv_aload_n hx hb dX4_holdingBack_34 rfl (lv_at hl 1 rfl) ?_
                 refine va_get (D := D) (ci := 7) (v := .ref t_kinds) (C := RX7) (T := TX7) (N := 13) hx hb hts hi7 hown hK hP 1 rfl rfl 1 (by decide) lf84 (fun _ h9 => h9) rfl dX4_holdingBack_35 ?_
                 refine lv_iload hx hb dX4_holdingBack_38 (lv_at hl 4 rfl) ?_
                 refine va_iald hx hb hK hP 2 0 rfl rfl (vp_in_nI (n := l4_11) (by omega) (by omega)) dX4_holdingBack_40 ?_
                 refine lv_iconst (v := 2) hx hb dX4_holdingBack_41 (by decide) ?_
                 have hj60_13 : ∀ (H : Heap) (locs : List Loc) (ls : Array Slot), ((fX4_holdingBack_J60a d_yardsF t_kindsF u1 l3_11 l4_11 rc11_2) = E0) → va_P D vwCl [(d_hirers, kI k 6 d_hirersF), (t, kO 7 [.ref t_names, .ref t_kinds, .ref t_yards, .ref t_paces, .ref t_skills, .ref t_snow, .ref tw, .int (nI t_guests), .int (nI t_snows), .int t_bend, .int t_hour, .int (bB t_bendTold), .int (bB t_hourTold)]), (t_kinds, kI k 6 t_kindsF), (d, kO 4 [.ref d_yards, .ref d_paces, .ref d_stuck, .ref d_hirers, .ref d_places, .ref d_cameAt, .ref d_cooked, .int d_inside, .int d_night, .int d_minute, .int d_tasted, .int d_lastCook, .int (bB d_stirred)]), (d_yards, kI k 6 d_yardsF)] H → va_D A [(d_hirers, kI k 6 d_hirersF), (t, kO 7 [.ref t_names, .ref t_kinds, .ref t_yards, .ref t_paces, .ref t_skills, .ref t_snow, .ref tw, .int (nI t_guests), .int (nI t_snows), .int t_bend, .int t_hour, .int (bB t_bendTold), .int (bB t_hourTold)]), (t_kinds, kI k 6 t_kindsF), (d, kO 4 [.ref d_yards, .ref d_paces, .ref d_stuck, .ref d_hirers, .ref d_places, .ref d_cameAt, .ref d_cooked, .int d_inside, .int d_night, .int d_minute, .int d_tasted, .int d_lastCook, .int (bB d_stirred)]), (d_yards, kI k 6 d_yardsF)] → va_S A s.heap H locs → lv_has ls 6 [(0, .ref d), (1, .ref t), (2, .int (bB u1)), (3, .int l3_11), (4, .int (nI l4_11))] → W p l e R s m args below meth c H locs 0 0 Q (F0 m 60 ls []) := by
                   intro H locs ls hZ hP hD hS hl
                   refine lv_aload_n hx hb dX4_holdingBack_60 rfl (lv_at hl 1 rfl) ?_
                   refine va_get (D := D) (ci := 7) (v := .ref t_kinds) (C := RX7) (T := TX7) (N := 13) hx hb hts hi7 hown hK hP 1 rfl rfl 1 (by decide) lf84 (fun _ h9 => h9) rfl dX4_holdingBack_61 ?_
                   refine lv_iload hx hb dX4_holdingBack_64 (lv_at hl 4 rfl) ?_
                   refine va_iald hx hb hK hP 2 0 rfl rfl (vp_in_nI (n := l4_11) (by omega) (by omega)) dX4_holdingBack_66 ?_
                   refine lv_iconst (v := 3) hx hb dX4_holdingBack_67 (by decide) ?_
                   have hj79_14 : ∀ (H : Heap) (locs : List Loc) (ls : Array Slot), ((fX4_holdingBack_J79a d_yardsF l3_11 l4_11 rc11_2) = E0) → va_P D vwCl [(d_hirers, kI k 6 d_hirersF), (t, kO 7 [.ref t_names, .ref t_kinds, .ref t_yards, .ref t_paces, .ref t_skills, .ref t_snow, .ref tw, .int (nI t_guests), .int (nI t_snows), .int t_bend, .int t_hour, .int (bB t_bendTold), .int (bB t_hourTold)]), (t_kinds, kI k 6 t_kindsF), (d, kO 4 [.ref d_yards, .ref d_paces, .ref d_stuck, .ref d_hirers, .ref d_places, .ref d_cameAt, .ref d_cooked, .int d_inside, .int d_night, .int d_minute, .int d_tasted, .int d_lastCook, .int (bB d_stirred)]), (d_yards, kI k 6 d_yardsF)] H → va_D A [(d_hirers, kI k 6 d_hirersF), (t, kO 7 [.ref t_names, .ref t_kinds, .ref t_yards, .ref t_paces, .ref t_skills, .ref t_snow, .ref tw, .int (nI t_guests), .int (nI t_snows), .int t_bend, .int t_hour, .int (bB t_bendTold), .int (bB t_hourTold)]), (t_kinds, kI k 6 t_kindsF), (d, kO 4 [.ref d_yards, .ref d_paces, .ref d_stuck, .ref d_hirers, .ref d_places, .ref d_cameAt, .ref d_cooked, .int d_inside, .int d_night, .int d_minute, .int d_tasted, .int d_lastCook, .int (bB d_stirred)]), (d_yards, kI k 6 d_yardsF)] → va_S A s.heap H locs → lv_has ls 6 [(0, .ref d), (1, .ref t), (2, .int (bB u1)), (3, .int l3_11), (4, .int (nI l4_11))] → W p l e R s m args below meth c H locs 0 0 Q (F0 m 79 ls []) := by
                     intro H locs ls hZ hP hD hS hl
                     refine lv_iconst (v := 0) hx hb dX4_holdingBack_79 (by decide) ?_
                     exact hj80_5 false _ _ _ hZ (hP.sub [0, 1, 2, 3, 4] rfl) (hD.sub [0, 1, 2, 3, 4] (by decide +kernel) rfl) hS (lv_sub hl [0, 1, 2, 3, 4] rfl)
                   refine lv_icmp_ne (tgt := 79) hx hb dX4_holdingBack_68 (by decide) (fun c_15 => ?_) (fun c_15 => ?_)
                   · exact by
                      have hZ := (if_neg c_15).symm.trans hZ
                      exact hj79_14 _ _ _ hZ (hP.sub [0, 1, 2, 3, 4] rfl) (hD.sub [0, 1, 2, 3, 4] (by decide +kernel) rfl) hS (lv_sub hl [0, 1, 2, 3, 4] rfl)
                   · exact by
                      have hZ := (if_pos c_15).symm.trans hZ
                      refine lv_iload_n hx hb dX4_holdingBack_71 rfl (lv_at hl 2 rfl) ?_
                      refine lv_if_eq (tgt := 79) hx hb dX4_holdingBack_72 (by decide) (fun c_16 => ?_) (fun c_16 => ?_)
                      · exact by
                         have b_16 : u1 = false := bB_0 c_16
                         have hZ := (if_neg (bF b_16)).symm.trans hZ
                         exact hj79_14 _ _ _ hZ (hP.sub [0, 1, 2, 3, 4] rfl) (hD.sub [0, 1, 2, 3, 4] (by decide +kernel) rfl) hS (lv_sub hl [0, 1, 2, 3, 4] rfl)
                      · exact by
                         have b_16 : u1 = true := bB_1 c_16
                         have hZ := (if_pos b_16).symm.trans hZ
                         exact hj75_11 _ _ _ hZ (hP.sub [0, 1, 2, 3, 4] rfl) (hD.sub [0, 1, 2, 3, 4] (by decide +kernel) rfl) hS (lv_sub hl [0, 1, 2, 3, 4] rfl)
                 refine lv_icmp_ne (tgt := 60) hx hb dX4_holdingBack_42 (by decide) (fun c_17 => ?_) (fun c_17 => ?_)
                 · exact by
                    have hZ := (if_neg c_17).symm.trans hZ
                    exact hj60_13 _ _ _ hZ (hP.sub [0, 1, 2, 3, 4] rfl) (hD.sub [0, 1, 2, 3, 4] (by decide +kernel) rfl) hS (lv_sub hl [0, 1, 2, 3, 4] rfl)
                 · exact by
                    have hZ := (if_pos c_17).symm.trans hZ
                    refine lv_aload_n hx hb dX4_holdingBack_45 rfl (lv_at hl 0 rfl) ?_
                    refine va_get (D := D) (ci := 4) (v := .int d_inside) (C := RX4) (T := TX4) (N := 13) hx hb hts hi4 hown hK hP 3 rfl rfl 7 (by decide) lf50 (fun _ h9 => h9) rfl dX4_holdingBack_46 ?_
                    refine lv_if_ne (tgt := 60) hx hb dX4_holdingBack_49 (by decide) (fun c_18 => ?_) (fun c_18 => ?_)
                    · exact by
                       have t_18 : (Int32.toInt d_inside) ≠ 0 := tI_ne rfl (by decide) c_18
                       have hZ := (if_neg c_18).symm.trans hZ
                       exact hj60_13 _ _ _ hZ (hP.sub [0, 1, 2, 3, 4] rfl) (hD.sub [0, 1, 2, 3, 4] (by decide +kernel) rfl) hS (lv_sub hl [0, 1, 2, 3, 4] rfl)
                    · exact by
                       have t_18 : (Int32.toInt d_inside) = 0 := tI_eq rfl (by decide) c_18
                       have hZ := (if_pos c_18).symm.trans hZ
                       refine lv_aload_n hx hb dX4_holdingBack_52 rfl (lv_at hl 1 rfl) ?_
                       refine va_get (D := D) (ci := 7) (v := .int (nI t_guests)) (C := RX7) (T := TX7) (N := 13) hx hb hts hi7 hown hK hP 1 rfl rfl 7 (by decide) lf53 (fun _ h9 => h9) rfl dX4_holdingBack_53 ?_
                       refine lv_iconst (v := 1) hx hb dX4_holdingBack_56 (by decide) ?_
                       refine lv_icmp_gt (tgt := 75) hx hb dX4_holdingBack_57 (by decide) (fun c_19 => ?_) (fun c_19 => ?_)
                       · exact by
                          have k_19 : 1 < t_guests := (nI_ltI (a := 1) (b := t_guests) (by omega) (by omega)).mp c_19
                          have hZ := (if_pos k_19).symm.trans hZ
                          exact hj75_11 _ _ _ hZ (hP.sub [0, 1, 2, 3, 4] rfl) (hD.sub [0, 1, 2, 3, 4] (by decide +kernel) rfl) hS (lv_sub hl [0, 1, 2, 3, 4] rfl)
                       · exact by
                          have k_19 : ¬ (1 < t_guests) := fun h => c_19 ((nI_ltI (a := 1) (b := t_guests) (by omega) (by omega)).mpr h)
                          have hZ := (if_neg k_19).symm.trans hZ
                          exact hj60_13 _ _ _ hZ (hP.sub [0, 1, 2, 3, 4] rfl) (hD.sub [0, 1, 2, 3, 4] (by decide +kernel) rfl) hS (lv_sub hl [0, 1, 2, 3, 4] rfl)
      exact hloop11 ((6 + 1 - 0) + 1) (0 : Int32) 0 _ _ _ (Nat.lt_succ_self _) (by first | omega | assumption) hZ (hP.sub [0, 1, 2, 3, 4] rfl) (hD.sub [0, 1, 2, 3, 4] (by decide +kernel) rfl) hS (lv_sub hl [3, 4, 2, 1, 0] rfl)
theorem dX4_walk_0 : decode cX4_walk 0 = .ok (.aload_n 0, 1) := dk_aload_n_0 (by decide +kernel)
theorem dX4_walk_1 : decode cX4_walk 1 = .ok (.aload_n 1, 1) := dk_aload_n_1 (by decide +kernel)
theorem dX4_walk_2 : decode cX4_walk 2 = .ok (.invokevirtual 87, 3) := dk_invokevirtual (by decide +kernel)
theorem dX4_walk_5 : decode cX4_walk 5 = .ok (.istore_n 3, 1) := dk_istore_n_3 (by decide +kernel)
theorem dX4_walk_6 : decode cX4_walk 6 = .ok (.aload_n 0, 1) := dk_aload_n_0 (by decide +kernel)
theorem dX4_walk_7 : decode cX4_walk 7 = .ok (.iconst 0, 1) := dk_iconst_0 (by decide +kernel)
theorem dX4_walk_8 : decode cX4_walk 8 = .ok (.putfield 91, 3) := dk_putfield (by decide +kernel)
theorem dX4_walk_11 : decode cX4_walk 11 = .ok (.iconst 0, 1) := dk_iconst_0 (by decide +kernel)
theorem dX4_walk_12 : decode cX4_walk 12 = .ok (.istore 4, 2) := dk_istore (by decide +kernel)
theorem dX4_walk_14 : decode cX4_walk 14 = .ok (.iload 4, 2) := dk_iload (by decide +kernel)
theorem dX4_walk_16 : decode cX4_walk 16 = .ok (.aload_n 1, 1) := dk_aload_n_1 (by decide +kernel)
theorem dX4_walk_17 : decode cX4_walk 17 = .ok (.getfield 53, 3) := dk_getfield (by decide +kernel)
theorem dX4_walk_20 : decode cX4_walk 20 = .ok (.if_icmp .ge 174, 3) := dk_if_icmp_ge (by decide +kernel)
theorem dX4_walk_23 : decode cX4_walk 23 = .ok (.aload_n 0, 1) := dk_aload_n_0 (by decide +kernel)
theorem dX4_walk_24 : decode cX4_walk 24 = .ok (.iload 4, 2) := dk_iload (by decide +kernel)
theorem dX4_walk_26 : decode cX4_walk 26 = .ok (.invokevirtual 66, 3) := dk_invokevirtual (by decide +kernel)
theorem dX4_walk_29 : decode cX4_walk 29 = .ok (.ifCond .ne 6, 3) := dk_ifCond_ne (by decide +kernel)
theorem dX4_walk_32 : decode cX4_walk 32 = .ok (.goto 156, 3) := dk_goto (by decide +kernel)
theorem dX4_walk_35 : decode cX4_walk 35 = .ok (.aload_n 0, 1) := dk_aload_n_0 (by decide +kernel)
theorem dX4_walk_36 : decode cX4_walk 36 = .ok (.getfield 18, 3) := dk_getfield (by decide +kernel)
theorem dX4_walk_39 : decode cX4_walk 39 = .ok (.iload 4, 2) := dk_iload (by decide +kernel)
theorem dX4_walk_41 : decode cX4_walk 41 = .ok (.iaload, 1) := dk_iaload (by decide +kernel)
theorem dX4_walk_42 : decode cX4_walk 42 = .ok (.ifCond .le 22, 3) := dk_ifCond_le (by decide +kernel)
theorem dX4_walk_45 : decode cX4_walk 45 = .ok (.aload_n 0, 1) := dk_aload_n_0 (by decide +kernel)
theorem dX4_walk_46 : decode cX4_walk 46 = .ok (.getfield 18, 3) := dk_getfield (by decide +kernel)
theorem dX4_walk_49 : decode cX4_walk 49 = .ok (.iload 4, 2) := dk_iload (by decide +kernel)
theorem dX4_walk_51 : decode cX4_walk 51 = .ok (.dup2, 1) := dk_dup2 (by decide +kernel)
theorem dX4_walk_52 : decode cX4_walk 52 = .ok (.iaload, 1) := dk_iaload (by decide +kernel)
theorem dX4_walk_53 : decode cX4_walk 53 = .ok (.iconst 1, 1) := dk_iconst_1 (by decide +kernel)
theorem dX4_walk_54 : decode cX4_walk 54 = .ok (.isub, 1) := dk_isub (by decide +kernel)
theorem dX4_walk_55 : decode cX4_walk 55 = .ok (.iastore, 1) := dk_iastore (by decide +kernel)
theorem dX4_walk_56 : decode cX4_walk 56 = .ok (.aload_n 0, 1) := dk_aload_n_0 (by decide +kernel)
theorem dX4_walk_57 : decode cX4_walk 57 = .ok (.iconst 1, 1) := dk_iconst_1 (by decide +kernel)
theorem dX4_walk_58 : decode cX4_walk 58 = .ok (.putfield 91, 3) := dk_putfield (by decide +kernel)
theorem dX4_walk_61 : decode cX4_walk 61 = .ok (.goto 127, 3) := dk_goto (by decide +kernel)
theorem dX4_walk_64 : decode cX4_walk 64 = .ok (.aload_n 0, 1) := dk_aload_n_0 (by decide +kernel)
theorem dX4_walk_65 : decode cX4_walk 65 = .ok (.getfield 9, 3) := dk_getfield (by decide +kernel)
theorem dX4_walk_68 : decode cX4_walk 68 = .ok (.iload 4, 2) := dk_iload (by decide +kernel)
theorem dX4_walk_70 : decode cX4_walk 70 = .ok (.iaload, 1) := dk_iaload (by decide +kernel)
theorem dX4_walk_71 : decode cX4_walk 71 = .ok (.istore 5, 2) := dk_istore (by decide +kernel)
theorem dX4_walk_73 : decode cX4_walk 73 = .ok (.iload_n 3, 1) := dk_iload_n_3 (by decide +kernel)
theorem dX4_walk_74 : decode cX4_walk 74 = .ok (.iload 4, 2) := dk_iload (by decide +kernel)
theorem dX4_walk_76 : decode cX4_walk 76 = .ok (.ishr, 1) := dk_ishr (by decide +kernel)
theorem dX4_walk_77 : decode cX4_walk 77 = .ok (.iconst 1, 1) := dk_iconst_1 (by decide +kernel)
theorem dX4_walk_78 : decode cX4_walk 78 = .ok (.iand, 1) := dk_iand (by decide +kernel)
theorem dX4_walk_79 : decode cX4_walk 79 = .ok (.iconst 1, 1) := dk_iconst_1 (by decide +kernel)
theorem dX4_walk_80 : decode cX4_walk 80 = .ok (.if_icmp .ne 15, 3) := dk_if_icmp_ne (by decide +kernel)
theorem dX4_walk_83 : decode cX4_walk 83 = .ok (.iload 5, 2) := dk_iload (by decide +kernel)
theorem dX4_walk_85 : decode cX4_walk 85 = .ok (.aload_n 1, 1) := dk_aload_n_1 (by decide +kernel)
theorem dX4_walk_86 : decode cX4_walk 86 = .ok (.getfield 95, 3) := dk_getfield (by decide +kernel)
theorem dX4_walk_89 : decode cX4_walk 89 = .ok (.invokestatic 70, 3) := dk_invokestatic (by decide +kernel)
theorem dX4_walk_92 : decode cX4_walk 92 = .ok (.goto 4, 3) := dk_goto (by decide +kernel)
theorem dX4_walk_95 : decode cX4_walk 95 = .ok (.iconst 0, 1) := dk_iconst_0 (by decide +kernel)
theorem dX4_walk_96 : decode cX4_walk 96 = .ok (.istore 6, 2) := dk_istore (by decide +kernel)
theorem dX4_walk_98 : decode cX4_walk 98 = .ok (.iload 6, 2) := dk_iload (by decide +kernel)
theorem dX4_walk_100 : decode cX4_walk 100 = .ok (.iload 5, 2) := dk_iload (by decide +kernel)
theorem dX4_walk_102 : decode cX4_walk 102 = .ok (.iconst 1, 1) := dk_iconst_1 (by decide +kernel)
theorem dX4_walk_103 : decode cX4_walk 103 = .ok (.aload_n 0, 1) := dk_aload_n_0 (by decide +kernel)
theorem dX4_walk_104 : decode cX4_walk 104 = .ok (.getfield 15, 3) := dk_getfield (by decide +kernel)
theorem dX4_walk_107 : decode cX4_walk 107 = .ok (.iload 4, 2) := dk_iload (by decide +kernel)
theorem dX4_walk_109 : decode cX4_walk 109 = .ok (.iaload, 1) := dk_iaload (by decide +kernel)
theorem dX4_walk_110 : decode cX4_walk 110 = .ok (.iload_n 2, 1) := dk_iload_n_2 (by decide +kernel)
theorem dX4_walk_111 : decode cX4_walk 111 = .ok (.isub, 1) := dk_isub (by decide +kernel)
theorem dX4_walk_112 : decode cX4_walk 112 = .ok (.invokestatic 98, 3) := dk_invokestatic (by decide +kernel)
theorem dX4_walk_115 : decode cX4_walk 115 = .ok (.isub, 1) := dk_isub (by decide +kernel)
theorem dX4_walk_116 : decode cX4_walk 116 = .ok (.invokestatic 98, 3) := dk_invokestatic (by decide +kernel)
theorem dX4_walk_119 : decode cX4_walk 119 = .ok (.istore 7, 2) := dk_istore (by decide +kernel)
theorem dX4_walk_121 : decode cX4_walk 121 = .ok (.aload_n 0, 1) := dk_aload_n_0 (by decide +kernel)
theorem dX4_walk_122 : decode cX4_walk 122 = .ok (.dup, 1) := dk_dup (by decide +kernel)
theorem dX4_walk_123 : decode cX4_walk 123 = .ok (.getfield 91, 3) := dk_getfield (by decide +kernel)
theorem dX4_walk_126 : decode cX4_walk 126 = .ok (.iload 7, 2) := dk_iload (by decide +kernel)
theorem dX4_walk_128 : decode cX4_walk 128 = .ok (.iload 5, 2) := dk_iload (by decide +kernel)
theorem dX4_walk_130 : decode cX4_walk 130 = .ok (.if_icmp .eq 7, 3) := dk_if_icmp_eq (by decide +kernel)
theorem dX4_walk_133 : decode cX4_walk 133 = .ok (.iconst 1, 1) := dk_iconst_1 (by decide +kernel)
theorem dX4_walk_134 : decode cX4_walk 134 = .ok (.goto 4, 3) := dk_goto (by decide +kernel)
theorem dX4_walk_137 : decode cX4_walk 137 = .ok (.iconst 0, 1) := dk_iconst_0 (by decide +kernel)
theorem dX4_walk_138 : decode cX4_walk 138 = .ok (.ior, 1) := dk_ior (by decide +kernel)
theorem dX4_walk_139 : decode cX4_walk 139 = .ok (.putfield 91, 3) := dk_putfield (by decide +kernel)
theorem dX4_walk_142 : decode cX4_walk 142 = .ok (.aload_n 0, 1) := dk_aload_n_0 (by decide +kernel)
theorem dX4_walk_143 : decode cX4_walk 143 = .ok (.getfield 9, 3) := dk_getfield (by decide +kernel)
theorem dX4_walk_146 : decode cX4_walk 146 = .ok (.iload 4, 2) := dk_iload (by decide +kernel)
theorem dX4_walk_148 : decode cX4_walk 148 = .ok (.iload 7, 2) := dk_iload (by decide +kernel)
theorem dX4_walk_150 : decode cX4_walk 150 = .ok (.iastore, 1) := dk_iastore (by decide +kernel)
theorem dX4_walk_151 : decode cX4_walk 151 = .ok (.iload 7, 2) := dk_iload (by decide +kernel)
theorem dX4_walk_153 : decode cX4_walk 153 = .ok (.ifCond .ne 35, 3) := dk_ifCond_ne (by decide +kernel)
theorem dX4_walk_156 : decode cX4_walk 156 = .ok (.aload_n 0, 1) := dk_aload_n_0 (by decide +kernel)
theorem dX4_walk_157 : decode cX4_walk 157 = .ok (.getfield 24, 3) := dk_getfield (by decide +kernel)
theorem dX4_walk_160 : decode cX4_walk 160 = .ok (.iload 4, 2) := dk_iload (by decide +kernel)
theorem dX4_walk_162 : decode cX4_walk 162 = .ok (.aload_n 0, 1) := dk_aload_n_0 (by decide +kernel)
theorem dX4_walk_163 : decode cX4_walk 163 = .ok (.getfield 50, 3) := dk_getfield (by decide +kernel)
theorem dX4_walk_166 : decode cX4_walk 166 = .ok (.iastore, 1) := dk_iastore (by decide +kernel)
theorem dX4_walk_167 : decode cX4_walk 167 = .ok (.aload_n 0, 1) := dk_aload_n_0 (by decide +kernel)
theorem dX4_walk_168 : decode cX4_walk 168 = .ok (.getfield 27, 3) := dk_getfield (by decide +kernel)
theorem dX4_walk_171 : decode cX4_walk 171 = .ok (.iload 4, 2) := dk_iload (by decide +kernel)
theorem dX4_walk_173 : decode cX4_walk 173 = .ok (.aload_n 0, 1) := dk_aload_n_0 (by decide +kernel)
theorem dX4_walk_174 : decode cX4_walk 174 = .ok (.getfield 47, 3) := dk_getfield (by decide +kernel)
theorem dX4_walk_177 : decode cX4_walk 177 = .ok (.iastore, 1) := dk_iastore (by decide +kernel)
theorem dX4_walk_178 : decode cX4_walk 178 = .ok (.aload_n 0, 1) := dk_aload_n_0 (by decide +kernel)
theorem dX4_walk_179 : decode cX4_walk 179 = .ok (.dup, 1) := dk_dup (by decide +kernel)
theorem dX4_walk_180 : decode cX4_walk 180 = .ok (.getfield 50, 3) := dk_getfield (by decide +kernel)
theorem dX4_walk_183 : decode cX4_walk 183 = .ok (.iconst 1, 1) := dk_iconst_1 (by decide +kernel)
theorem dX4_walk_184 : decode cX4_walk 184 = .ok (.iadd, 1) := dk_iadd (by decide +kernel)
theorem dX4_walk_185 : decode cX4_walk 185 = .ok (.putfield 50, 3) := dk_putfield (by decide +kernel)
theorem dX4_walk_188 : decode cX4_walk 188 = .ok (.iinc 4 1, 3) := dk_iinc (by decide +kernel)
theorem dX4_walk_191 : decode cX4_walk 191 = .ok (.goto (-177), 3) := dk_goto (by decide +kernel)
theorem dX4_walk_194 : decode cX4_walk 194 = .ok (.return_, 1) := dk_return_ (by decide +kernel)
set_option maxRecDepth 20000 in
theorem ggX4_walk_X4_holdingBack : GoodIn wsX4_walk wsX4_holdingBack := goodIn_sub (sub_cons (List.mem_cons_of_mem _ (List.mem_append_left _ (List.mem_append_left _ (List.mem_append_left _ (List.mem_of_getElem? (i := 21) rfl))))) (sub_app (sub_app (sub_cons (List.mem_cons_of_mem _ (List.mem_append_left _ (List.mem_append_left _ (List.mem_append_left _ (List.mem_of_getElem? (i := 1) rfl))))) (sub_cons (List.mem_cons_of_mem _ (List.mem_append_left _ (List.mem_append_left _ (List.mem_append_left _ (List.mem_of_getElem? (i := 22) rfl))))) (sub_cons (List.mem_cons_of_mem _ (List.mem_append_left _ (List.mem_append_left _ (List.mem_append_left _ (List.mem_of_getElem? (i := 23) rfl))))) (sub_cons (List.mem_cons_of_mem _ (List.mem_append_left _ (List.mem_append_left _ (List.mem_append_left _ (List.mem_of_getElem? (i := 14) rfl))))) (sub_cons (List.mem_cons_of_mem _ (List.mem_append_left _ (List.mem_append_left _ (List.mem_append_right _ (List.mem_of_getElem? (i := 0) rfl))))) (sub_cons (List.mem_cons_of_mem _ (List.mem_append_left _ (List.mem_append_left _ (List.mem_append_right _ (List.mem_of_getElem? (i := 1) rfl))))) (sub_cons (List.mem_cons_of_mem _ (List.mem_append_left _ (List.mem_append_left _ (List.mem_append_right _ (List.mem_of_getElem? (i := 2) rfl))))) (sub_cons (List.mem_cons_of_mem _ (List.mem_append_left _ (List.mem_append_left _ (List.mem_append_left _ (List.mem_of_getElem? (i := 20) rfl))))) (sub_cons (List.mem_cons_of_mem _ (List.mem_append_left _ (List.mem_append_left _ (List.mem_append_right _ (List.mem_of_getElem? (i := 3) rfl))))) (sub_cons (List.mem_cons_of_mem _ (List.mem_append_left _ (List.mem_append_left _ (List.mem_append_right _ (List.mem_of_getElem? (i := 4) rfl))))) (sub_cons (List.mem_cons_of_mem _ (List.mem_append_left _ (List.mem_append_left _ (List.mem_append_right _ (List.mem_of_getElem? (i := 5) rfl))))) (sub_cons (List.mem_cons_of_mem _ (List.mem_append_left _ (List.mem_append_left _ (List.mem_append_right _ (List.mem_of_getElem? (i := 6) rfl))))) (sub_cons (List.mem_cons_of_mem _ (List.mem_append_left _ (List.mem_append_left _ (List.mem_append_right _ (List.mem_of_getElem? (i := 7) rfl))))) (sub_cons (List.mem_cons_of_mem _ (List.mem_append_left _ (List.mem_append_left _ (List.mem_append_left _ (List.mem_of_getElem? (i := 3) rfl))))) sub_nil)))))))))))))) (fun w h9 => (List.mem_cons_of_mem _ (List.mem_append_right _ h9)))) (fun w h9 => (List.mem_cons_of_mem _ (List.mem_append_left _ (List.mem_append_right _ h9)))))) gw_X4_holdingBack
set_option maxRecDepth 20000 in
theorem gX4_walk_X4_holdingBack : GoodIn wsX4_walk (wsV RX4 87 RX4 yX4_holdingBack wsX4_holdingBack) := goodIn_app (goodIn_sub (sub_cons (List.mem_cons_of_mem _ (List.mem_append_left _ (List.mem_append_left _ (List.mem_append_left _ (List.mem_of_getElem? (i := 17) rfl))))) (sub_cons (List.mem_cons_of_mem _ (List.mem_append_left _ (List.mem_append_left _ (List.mem_append_left _ (List.mem_of_getElem? (i := 18) rfl))))) (sub_cons (List.mem_cons_of_mem _ (List.mem_append_left _ (List.mem_append_left _ (List.mem_append_left _ (List.mem_of_getElem? (i := 19) rfl))))) (sub_cons (List.mem_cons_of_mem _ (List.mem_append_left _ (List.mem_append_left _ (List.mem_append_left _ (List.mem_of_getElem? (i := 20) rfl))))) sub_nil)))) (by decide +kernel)) ggX4_walk_X4_holdingBack
set_option maxRecDepth 20000 in
theorem ggX4_walk_X4_isOnRoad : GoodIn wsX4_walk wsX4_isOnRoad := goodIn_sub (sub_cons (List.mem_cons_of_mem _ (List.mem_append_left _ (List.mem_append_left _ (List.mem_append_right _ (List.mem_of_getElem? (i := 7) rfl))))) (sub_app (sub_cons (List.mem_cons_of_mem _ (List.mem_append_left _ (List.mem_append_left _ (List.mem_append_left _ (List.mem_of_getElem? (i := 3) rfl))))) sub_nil) (fun w h9 => (List.mem_cons_of_mem _ (List.mem_append_left _ (List.mem_append_right _ h9)))))) gw_X4_isOnRoad
set_option maxRecDepth 20000 in
theorem gX4_walk_X4_isOnRoad : GoodIn wsX4_walk (wsV RX4 66 RX4 yX4_isOnRoad wsX4_isOnRoad) := goodIn_app (goodIn_sub (sub_cons (List.mem_cons_of_mem _ (List.mem_append_left _ (List.mem_append_left _ (List.mem_append_right _ (List.mem_of_getElem? (i := 4) rfl))))) (sub_cons (List.mem_cons_of_mem _ (List.mem_append_left _ (List.mem_append_left _ (List.mem_append_right _ (List.mem_of_getElem? (i := 5) rfl))))) (sub_cons (List.mem_cons_of_mem _ (List.mem_append_left _ (List.mem_append_left _ (List.mem_append_right _ (List.mem_of_getElem? (i := 6) rfl))))) (sub_cons (List.mem_cons_of_mem _ (List.mem_append_left _ (List.mem_append_left _ (List.mem_append_left _ (List.mem_of_getElem? (i := 20) rfl))))) sub_nil)))) (by decide +kernel)) ggX4_walk_X4_isOnRoad
set_option maxHeartbeats 4000000 in
set_option maxRecDepth 100000 in
theorem sX4_walk (l : Launch) (D : va_G) (k : Nat → ClassId) (sz : Nat) (d : Nat) (t : Nat) (sn : Int32) (d_yards : Nat) (d_paces : Nat) (d_stuck : Nat) (d_hirers : Nat) (d_places : Nat) (d_cameAt : Nat) (d_cooked : Nat) (d_inside : Int32) (d_night : Int32) (d_minute : Int32) (d_tasted : Int32) (d_lastCook : Int32) (d_stirred : Bool) (d_yardsF : Nat → Int32) (d_pacesF : Nat → Int32) (d_stuckF : Nat → Int32) (d_hirersF : Nat → Int32) (d_placesF : Nat → Int32) (d_cameAtF : Nat → Int32) (t_names : Nat) (t_kinds : Nat) (t_yards : Nat) (t_paces : Nat) (t_skills : Nat) (t_snow : Nat) (tw : Nat) (t_guests : Nat) (t_snows : Nat) (t_bend : Int32) (t_hour : Int32) (t_bendTold : Bool) (t_hourTold : Bool) (t_kindsF : Nat → Int32) (h_t_guests : t_guests ≤ 6) (h_t_snows : t_snows ≤ 12) : Met l yX4_walk wsX4_walk ({ frames := 3, cells := 0, slots := 0, locals := 210 }) (va_Pc [.ref d, .ref t, .int sn] (kz_Pre D k [(d, kO 4 [.ref d_yards, .ref d_paces, .ref d_stuck, .ref d_hirers, .ref d_places, .ref d_cameAt, .ref d_cooked, .int d_inside, .int d_night, .int d_minute, .int d_tasted, .int d_lastCook, .int (bB d_stirred)]), (d_yards, kI k 6 d_yardsF), (d_paces, kI k 6 d_pacesF), (d_stuck, kI k 6 d_stuckF), (d_hirers, kI k 6 d_hirersF), (d_places, kI k 6 d_placesF), (d_cameAt, kI k 6 d_cameAtF), (t, kO 7 [.ref t_names, .ref t_kinds, .ref t_yards, .ref t_paces, .ref t_skills, .ref t_snow, .ref tw, .int (nI t_guests), .int (nI t_snows), .int t_bend, .int t_hour, .int (bB t_bendTold), .int (bB t_hourTold)]), (t_kinds, kI k 6 t_kindsF)] sz)) (va_Qv (fun (uu : Int32 × Bool × (Nat → Int32) × (Nat → Int32) × (Nat → Int32) × (Nat → Int32)) => ((uu.1, uu.2.1, uu.2.2.1, uu.2.2.2.1, uu.2.2.2.2.1, uu.2.2.2.2.2) = (fX4_walk sn d_inside d_minute d_yardsF d_pacesF d_stuckF d_hirersF d_placesF d_cameAtF t_guests t_bend t_kindsF))) (fun uu zt => kz_B D (va_A [(d, kO 4 [.ref d_yards, .ref d_paces, .ref d_stuck, .ref d_hirers, .ref d_places, .ref d_cameAt, .ref d_cooked, .int d_inside, .int d_night, .int d_minute, .int d_tasted, .int d_lastCook, .int (bB d_stirred)]), (d_yards, kI k 6 d_yardsF), (d_paces, kI k 6 d_pacesF), (d_stuck, kI k 6 d_stuckF), (d_hirers, kI k 6 d_hirersF), (d_places, kI k 6 d_placesF), (d_cameAt, kI k 6 d_cameAtF), (t, kO 7 [.ref t_names, .ref t_kinds, .ref t_yards, .ref t_paces, .ref t_skills, .ref t_snow, .ref tw, .int (nI t_guests), .int (nI t_snows), .int t_bend, .int t_hour, .int (bB t_bendTold), .int (bB t_hourTold)]), (t_kinds, kI k 6 t_kindsF)] sz) [(d, kO 4 [.ref d_yards, .ref d_paces, .ref d_stuck, .ref d_hirers, .ref d_places, .ref d_cameAt, .ref d_cooked, .int uu.1, .int d_night, .int d_minute, .int d_tasted, .int d_lastCook, .int (bB uu.2.1)]), (d_yards, kI k 6 uu.2.2.1), (d_paces, kI k 6 d_pacesF), (d_stuck, kI k 6 uu.2.2.2.1), (d_hirers, kI k 6 d_hirersF), (d_places, kI k 6 uu.2.2.2.2.1), (d_cameAt, kI k 6 uu.2.2.2.2.2), (t, kO 7 [.ref t_names, .ref t_kinds, .ref t_yards, .ref t_paces, .ref t_skills, .ref t_snow, .ref tw, .int (nI t_guests), .int (nI t_snows), .int t_bend, .int t_hour, .int (bB t_bendTold), .int (bB t_hourTold)]), (t_kinds, kI k 6 t_kindsF)] zt) (va_A [(d, kO 4 [.ref d_yards, .ref d_paces, .ref d_stuck, .ref d_hirers, .ref d_places, .ref d_cameAt, .ref d_cooked, .int d_inside, .int d_night, .int d_minute, .int d_tasted, .int d_lastCook, .int (bB d_stirred)]), (d_yards, kI k 6 d_yardsF), (d_paces, kI k 6 d_pacesF), (d_stuck, kI k 6 d_stuckF), (d_hirers, kI k 6 d_hirersF), (d_places, kI k 6 d_placesF), (d_cameAt, kI k 6 d_cameAtF), (t, kO 7 [.ref t_names, .ref t_kinds, .ref t_yards, .ref t_paces, .ref t_skills, .ref t_snow, .ref tw, .int (nI t_guests), .int (nI t_snows), .int t_bend, .int t_hour, .int (bB t_bendTold), .int (bB t_hourTold)]), (t_kinds, kI k 6 t_kindsF)] sz)) 0 0 (va_A [(d, kO 4 [.ref d_yards, .ref d_paces, .ref d_stuck, .ref d_hirers, .ref d_places, .ref d_cameAt, .ref d_cooked, .int d_inside, .int d_night, .int d_minute, .int d_tasted, .int d_lastCook, .int (bB d_stirred)]), (d_yards, kI k 6 d_yardsF), (d_paces, kI k 6 d_pacesF), (d_stuck, kI k 6 d_stuckF), (d_hirers, kI k 6 d_hirersF), (d_places, kI k 6 d_placesF), (d_cameAt, kI k 6 d_cameAtF), (t, kO 7 [.ref t_names, .ref t_kinds, .ref t_yards, .ref t_paces, .ref t_skills, .ref t_snow, .ref tw, .int (nI t_guests), .int (nI t_snows), .int t_bend, .int t_hour, .int (bB t_bendTold), .int (bB t_hourTold)]), (t_kinds, kI k 6 t_kindsF)] sz) := by
  refine Met.ofW (cc := cX4_walk) (maxL := 8) (ret := none) (by decide) rfl ?_
  intro p e s m args below meth c s₁ B hml hv
  obtain ⟨hav, hsz, hP, hK, hD0, hE⟩ := hv
  have hx := B.exec
  have hb := B.bytes
  have hr := B.returns
  have hts := atoms_spec (ws := wsX4_walk) B.pre
  have hown : s.vm.findClass RX4 = some m.cls := findClass_of_methodNamed B.named
  have hlocks := B.notSynchronized
  have hi4 : ∀ w ∈ u_ws RX4 TX4 13, w ∈ wsX4_walk := fun w h9 => List.mem_cons_of_mem _ (List.mem_append_left _ (List.mem_append_right _ h9))
  have hi7 : ∀ w ∈ u_ws RX7 TX7 13, w ∈ wsX4_walk := fun w h9 => List.mem_cons_of_mem _ (List.mem_append_right _ h9)
  have lf91 := hts (.fieldLink RX4 91 "LastCook$Road" "stirred" "Z") (List.mem_cons_of_mem _ (List.mem_append_left _ (List.mem_append_left _ (List.mem_append_left _ (List.mem_of_getElem? (i := 0) rfl)))))
  have lf53 := hts (.fieldLink RX4 53 "LastCook$Told" "guests" "I") (List.mem_cons_of_mem _ (List.mem_append_left _ (List.mem_append_left _ (List.mem_append_left _ (List.mem_of_getElem? (i := 1) rfl)))))
  have lf18 := hts (.fieldLink RX4 18 "LastCook$Road" "stuck" "[I") (List.mem_cons_of_mem _ (List.mem_append_left _ (List.mem_append_left _ (List.mem_append_left _ (List.mem_of_getElem? (i := 2) rfl)))))
  have lf9 := hts (.fieldLink RX4 9 "LastCook$Road" "yards" "[I") (List.mem_cons_of_mem _ (List.mem_append_left _ (List.mem_append_left _ (List.mem_append_left _ (List.mem_of_getElem? (i := 3) rfl)))))
  have lf15 := hts (.fieldLink RX4 15 "LastCook$Road" "paces" "[I") (List.mem_cons_of_mem _ (List.mem_append_left _ (List.mem_append_left _ (List.mem_append_left _ (List.mem_of_getElem? (i := 9) rfl)))))
  have lm98 := hts (.methodLink RX4 98 Lib.Math.max.name) (List.mem_cons_of_mem _ (List.mem_append_left _ (List.mem_append_left _ (List.mem_append_left _ (List.mem_of_getElem? (i := 10) rfl)))))
  have lmtmax := hts (.static Lib.Math.max.name) (List.mem_cons_of_mem _ (List.mem_append_left _ (List.mem_append_left _ (List.mem_append_left _ (List.mem_of_getElem? (i := 11) rfl)))))
  have lim := hts (.initialized "java/lang/Math") (List.mem_cons_of_mem _ (List.mem_append_left _ (List.mem_append_left _ (List.mem_append_left _ (List.mem_of_getElem? (i := 7) rfl)))))
  have lmcmax := hts (.code Lib.Math.max.name Lib.Math.max.code 2 (some .int)) (List.mem_cons_of_mem _ (List.mem_append_left _ (List.mem_append_left _ (List.mem_append_left _ (List.mem_of_getElem? (i := 12) rfl)))))
  have lf24 := hts (.fieldLink RX4 24 "LastCook$Road" "places" "[I") (List.mem_cons_of_mem _ (List.mem_append_left _ (List.mem_append_left _ (List.mem_append_left _ (List.mem_of_getElem? (i := 13) rfl)))))
  have lf50 := hts (.fieldLink RX4 50 "LastCook$Road" "inside" "I") (List.mem_cons_of_mem _ (List.mem_append_left _ (List.mem_append_left _ (List.mem_append_left _ (List.mem_of_getElem? (i := 14) rfl)))))
  have lf27 := hts (.fieldLink RX4 27 "LastCook$Road" "cameAt" "[I") (List.mem_cons_of_mem _ (List.mem_append_left _ (List.mem_append_left _ (List.mem_append_left _ (List.mem_of_getElem? (i := 15) rfl)))))
  have lf47 := hts (.fieldLink RX4 47 "LastCook$Road" "minute" "I") (List.mem_cons_of_mem _ (List.mem_append_left _ (List.mem_append_left _ (List.mem_append_left _ (List.mem_of_getElem? (i := 16) rfl)))))
  have lf95 := hts (.fieldLink RX4 95 "LastCook$Told" "bend" "I") (List.mem_cons_of_mem _ (List.mem_append_left _ (List.mem_append_left _ (List.mem_append_left _ (List.mem_of_getElem? (i := 4) rfl)))))
  have lm70 := hts (.methodLink RX4 70 Lib.Math.min.name) (List.mem_cons_of_mem _ (List.mem_append_left _ (List.mem_append_left _ (List.mem_append_left _ (List.mem_of_getElem? (i := 5) rfl)))))
  have lmtmin := hts (.static Lib.Math.min.name) (List.mem_cons_of_mem _ (List.mem_append_left _ (List.mem_append_left _ (List.mem_append_left _ (List.mem_of_getElem? (i := 6) rfl)))))
  have lmcmin := hts (.code Lib.Math.min.name Lib.Math.min.code 2 (some .int)) (List.mem_cons_of_mem _ (List.mem_append_left _ (List.mem_append_left _ (List.mem_append_left _ (List.mem_of_getElem? (i := 8) rfl)))))
  subst hsz
  have hD := hD0.self (sz := s.heap.size)
  generalize hAe : va_A [(d, kO 4 [.ref d_yards, .ref d_paces, .ref d_stuck, .ref d_hirers, .ref d_places, .ref d_cameAt, .ref d_cooked, .int d_inside, .int d_night, .int d_minute, .int d_tasted, .int d_lastCook, .int (bB d_stirred)]), (d_yards, kI k 6 d_yardsF), (d_paces, kI k 6 d_pacesF), (d_stuck, kI k 6 d_stuckF), (d_hirers, kI k 6 d_hirersF), (d_places, kI k 6 d_placesF), (d_cameAt, kI k 6 d_cameAtF), (t, kO 7 [.ref t_names, .ref t_kinds, .ref t_yards, .ref t_paces, .ref t_skills, .ref t_snow, .ref tw, .int (nI t_guests), .int (nI t_snows), .int t_bend, .int t_hour, .int (bB t_bendTold), .int (bB t_hourTold)]), (t_kinds, kI k 6 t_kindsF)] s.heap.size = A at hD ⊢
  have hA : ∀ q : Nat, s.heap.size ≤ q → A q := fun q h => by rw [← hAe]; exact Or.inr h
  have hS : va_S A s.heap s.heap [] := va_S.rf
  have hl := lv_entry ([.ref d, .ref t, .int sn]) (n := 8) (Nat.le_of_ble_eq_true rfl)
  rw [show entryFrame m args 8 = entryFrame m ([.ref d, .ref t, .int sn] : List Value).toArray 8 by rw [hav], lg_entry_eq]
  generalize (lg_sl ([.ref d, .ref t, .int sn]) ++ List.replicate (8 - (lg_sl ([.ref d, .ref t, .int sn])).length) Slot.unset).toArray = ls at hl ⊢
  have hl : lv_has ls 8 [(0, .ref d), (1, .ref t), (2, .int sn)] := hl
  obtain ⟨R, hR⟩ : ∃ R, R = (headSpec wsX4_walk ({ frames := 3, cells := 0, slots := 0, locals := 210 } : Room)).room := ⟨_, rfl⟩
  rw [← hR]
  generalize hQ : MQ below _ args s 0 0 A = Q
  replace hQ := hQ.symm
  obtain ⟨H, hH⟩ : ∃ H, H = s.heap := ⟨_, rfl⟩
  rw [← hH] at hP ⊢
  have hS : va_S A s.heap H [] := by rw [hH]; exact hS
  obtain ⟨E0, hE0⟩ : ∃ E0 : Int32 × Bool × (Nat → Int32) × (Nat → Int32) × (Nat → Int32) × (Nat → Int32), E0 = (fX4_walk sn d_inside d_minute d_yardsF d_pacesF d_stuckF d_hirersF d_placesF d_cameAtF t_guests t_bend t_kindsF) := ⟨_, rfl⟩
  have hZ : (fX4_walk sn d_inside d_minute d_yardsF d_pacesF d_stuckF d_hirersF d_placesF d_cameAtF t_guests t_bend t_kindsF) = E0 := hE0.symm
  refine lv_aload_n hx hb dX4_walk_0 rfl (lv_at hl 0 rfl) ?_
  refine lv_aload_n hx hb dX4_walk_1 rfl (lv_at hl 1 rfl) ?_
  refine kz_Vi (As := [.ref t]) (rest := []) (wc := [(d, kO 4 [.ref d_yards, .ref d_paces, .ref d_stuck, .ref d_hirers, .ref d_places, .ref d_cameAt, .ref d_cooked, .int d_inside, .int d_night, .int d_minute, .int d_tasted, .int d_lastCook, .int (bB d_stirred)]), (d_yards, kI k 6 d_yardsF), (d_hirers, kI k 6 d_hirersF), (t, kO 7 [.ref t_names, .ref t_kinds, .ref t_yards, .ref t_paces, .ref t_skills, .ref t_snow, .ref tw, .int (nI t_guests), .int (nI t_snows), .int t_bend, .int t_hour, .int (bB t_bendTold), .int (bB t_hourTold)]), (t_kinds, kI k 6 t_kindsF)]) (wr := [(d_paces, kI k 6 d_pacesF), (d_stuck, kI k 6 d_stuckF), (d_places, kI k 6 d_placesF), (d_cameAt, kI k 6 d_cameAtF)]) ⟨hx, hb, hml, hown, hts⟩ hK hE hP hD hS hA (sX4_holdingBack l D k H.size d t d_yards d_paces d_stuck d_hirers d_places d_cameAt d_cooked d_inside d_night d_minute d_tasted d_lastCook d_stirred d_yardsF d_hirersF t_names t_kinds t_yards t_paces t_skills t_snow tw t_guests t_snows t_bend t_hour t_bendTold t_hourTold t_kindsF (by first | omega | assumption | decide) (by first | omega | assumption | decide)) (cwV 1 hts gX4_walk_X4_holdingBack rfl rfl rfl (by decide +kernel) (by rw [hR]; exact ⟨Nat.le_of_ble_eq_true rfl, Nat.le_of_ble_eq_true rfl⟩)) [0, 1, 4, 7, 8] [2, 3, 5, 6] rfl rfl (by decide +kernel) (by decide +kernel) (by decide +kernel) 0 rfl rfl rfl hl.1 rfl (Nat.le_of_ble_eq_true rfl) dX4_walk_2 (by rw [hR]; exact ⟨Nat.le_of_ble_eq_true rfl, Nat.le_of_ble_eq_true rfl⟩) (fun r1 u1 H locs hw1 hP hD hS => ?_)
  exact by
   try dsimp only at hw1
   have hP : va_P D vwCl [(d_paces, kI k 6 d_pacesF), (d_stuck, kI k 6 d_stuckF), (d_places, kI k 6 d_placesF), (d_cameAt, kI k 6 d_cameAtF), (d, kO 4 [.ref d_yards, .ref d_paces, .ref d_stuck, .ref d_hirers, .ref d_places, .ref d_cameAt, .ref d_cooked, .int d_inside, .int d_night, .int d_minute, .int d_tasted, .int d_lastCook, .int (bB d_stirred)]), (d_yards, kI k 6 d_yardsF), (d_hirers, kI k 6 d_hirersF), (t, kO 7 [.ref t_names, .ref t_kinds, .ref t_yards, .ref t_paces, .ref t_skills, .ref t_snow, .ref tw, .int (nI t_guests), .int (nI t_snows), .int t_bend, .int t_hour, .int (bB t_bendTold), .int (bB t_hourTold)]), (t_kinds, kI k 6 t_kindsF)] H := hP
   have hD : va_D A [(d_paces, kI k 6 d_pacesF), (d_stuck, kI k 6 d_stuckF), (d_places, kI k 6 d_placesF), (d_cameAt, kI k 6 d_cameAtF), (d, kO 4 [.ref d_yards, .ref d_paces, .ref d_stuck, .ref d_hirers, .ref d_places, .ref d_cameAt, .ref d_cooked, .int d_inside, .int d_night, .int d_minute, .int d_tasted, .int d_lastCook, .int (bB d_stirred)]), (d_yards, kI k 6 d_yardsF), (d_hirers, kI k 6 d_hirersF), (t, kO 7 [.ref t_names, .ref t_kinds, .ref t_yards, .ref t_paces, .ref t_skills, .ref t_snow, .ref tw, .int (nI t_guests), .int (nI t_snows), .int t_bend, .int t_hour, .int (bB t_bendTold), .int (bB t_hourTold)]), (t_kinds, kI k 6 t_kindsF)] := hD
   have hw1_0 := hw1
   have hZ := bn1_e hw1_0 hZ
   refine lv_istore_n (lv' := [(3, .int r1), (0, .ref d), (1, .ref t), (2, .int sn)]) hx hb dX4_walk_5 rfl hl (by decide) rfl (fun ls hl => ?_)
   exact by
    refine lv_aload_n hx hb dX4_walk_6 rfl (lv_at hl 1 rfl) ?_
    refine lv_iconst (v := 0) hx hb dX4_walk_7 (by decide) ?_
    refine va_put (D := D) (ci := 4) (v := .int 0) (ty := .boolean) (C := RX4) (T := TX4) (N := 13) hx hb hts hi4 tyX4 tyX4_ok nmX4 hown hK hP hD hS 4 rfl rfl 12 (by decide) lf91 (fun _ h9 => h9) rfl (by decide +kernel) rfl rfl (Nat.le_of_ble_eq_true rfl) dX4_walk_8 (fun H locs hP hD hS => ?_)
    exact by
     have hP : va_P D vwCl [(d_paces, kI k 6 d_pacesF), (d_stuck, kI k 6 d_stuckF), (d_places, kI k 6 d_placesF), (d_cameAt, kI k 6 d_cameAtF), (d, kO 4 [.ref d_yards, .ref d_paces, .ref d_stuck, .ref d_hirers, .ref d_places, .ref d_cameAt, .ref d_cooked, .int d_inside, .int d_night, .int d_minute, .int d_tasted, .int d_lastCook, .int 0]), (d_yards, kI k 6 d_yardsF), (d_hirers, kI k 6 d_hirersF), (t, kO 7 [.ref t_names, .ref t_kinds, .ref t_yards, .ref t_paces, .ref t_skills, .ref t_snow, .ref tw, .int (nI t_guests), .int (nI t_snows), .int t_bend, .int t_hour, .int (bB t_bendTold), .int (bB t_hourTold)]), (t_kinds, kI k 6 t_kindsF)] H := hP
     have hD : va_D A [(d_paces, kI k 6 d_pacesF), (d_stuck, kI k 6 d_stuckF), (d_places, kI k 6 d_placesF), (d_cameAt, kI k 6 d_cameAtF), (d, kO 4 [.ref d_yards, .ref d_paces, .ref d_stuck, .ref d_hirers, .ref d_places, .ref d_cameAt, .ref d_cooked, .int d_inside, .int d_night, .int d_minute, .int d_tasted, .int d_lastCook, .int 0]), (d_yards, kI k 6 d_yardsF), (d_hirers, kI k 6 d_hirersF), (t, kO 7 [.ref t_names, .ref t_kinds, .ref t_yards, .ref t_paces, .ref t_skills, .ref t_snow, .ref tw, .int (nI t_guests), .int (nI t_snows), .int t_bend, .int t_hour, .int (bB t_bendTold), .int (bB t_hourTold)]), (t_kinds, kI k 6 t_kindsF)] := hD
     refine lv_iconst (v := 0) hx hb dX4_walk_11 (by decide) ?_
     refine lv_istore (lv' := [(4, .int 0), (3, .int r1), (0, .ref d), (1, .ref t), (2, .int sn)]) hx hb dX4_walk_12 hl (by decide) rfl (fun ls hl => ?_)
     exact by
      have hloop14 : ∀ (nq : Nat) (l4_14 : Nat) (ad_stuck_14 : Nat → Int32) (ad_places_14 : Nat → Int32) (ad_cameAt_14 : Nat → Int32) (fd_7_14 : Int32) (fd_12_14 : Bool) (ad_yards_14 : Nat → Int32) (H : Heap) (locs : List Loc) (ls : Array Slot), (6 + 1 - l4_14) < nq → (l4_14 ≤ 6) → (lp (fun _ _ _ _ _ _ _ => ((0 : Int32), false, (fun _ => 0), (fun _ => 0), (fun _ => 0), (fun _ => 0))) (fX4_walk_B14a sn d_minute d_pacesF t_guests t_bend r1) nq l4_14 ad_stuck_14 ad_places_14 ad_cameAt_14 fd_7_14 fd_12_14 ad_yards_14 = E0) → va_P D vwCl [(d_paces, kI k 6 d_pacesF), (d_stuck, kI k 6 ad_stuck_14), (d_places, kI k 6 ad_places_14), (d_cameAt, kI k 6 ad_cameAt_14), (d, kO 4 [.ref d_yards, .ref d_paces, .ref d_stuck, .ref d_hirers, .ref d_places, .ref d_cameAt, .ref d_cooked, .int fd_7_14, .int d_night, .int d_minute, .int d_tasted, .int d_lastCook, .int (bB fd_12_14)]), (d_yards, kI k 6 ad_yards_14), (d_hirers, kI k 6 d_hirersF), (t, kO 7 [.ref t_names, .ref t_kinds, .ref t_yards, .ref t_paces, .ref t_skills, .ref t_snow, .ref tw, .int (nI t_guests), .int (nI t_snows), .int t_bend, .int t_hour, .int (bB t_bendTold), .int (bB t_hourTold)]), (t_kinds, kI k 6 t_kindsF)] H → va_D A [(d_paces, kI k 6 d_pacesF), (d_stuck, kI k 6 ad_stuck_14), (d_places, kI k 6 ad_places_14), (d_cameAt, kI k 6 ad_cameAt_14), (d, kO 4 [.ref d_yards, .ref d_paces, .ref d_stuck, .ref d_hirers, .ref d_places, .ref d_cameAt, .ref d_cooked, .int fd_7_14, .int d_night, .int d_minute, .int d_tasted, .int d_lastCook, .int (bB fd_12_14)]), (d_yards, kI k 6 ad_yards_14), (d_hirers, kI k 6 d_hirersF), (t, kO 7 [.ref t_names, .ref t_kinds, .ref t_yards, .ref t_paces, .ref t_skills, .ref t_snow, .ref tw, .int (nI t_guests), .int (nI t_snows), .int t_bend, .int t_hour, .int (bB t_bendTold), .int (bB t_hourTold)]), (t_kinds, kI k 6 t_kindsF)] → va_S A s.heap H locs → lv_has ls 8 [(0, .ref d), (1, .ref t), (2, .int sn), (3, .int r1), (4, .int (nI l4_14))] → W p l e R s m args below meth c H locs 0 0 Q (F0 m 14 ls []) := by
        intro n14
        induction n14 with
        | zero => intro l4_14 ad_stuck_14 ad_places_14 ad_cameAt_14 fd_7_14 fd_12_14 ad_yards_14 H locs ls hm; exact absurd hm (Nat.not_lt_zero _)
        | succ n14 ih14 =>
          intro l4_14 ad_stuck_14 ad_places_14 ad_cameAt_14 fd_7_14 fd_12_14 ad_yards_14 H locs ls hm14 i_l4_14 hZ hP hD hS hl
          obtain ⟨rc14_2, hrc14_2⟩ : ∃ r : Nat → (Nat → Int32) → (Nat → Int32) → (Nat → Int32) → Int32 → Bool → (Nat → Int32) → Int32 × Bool × (Nat → Int32) × (Nat → Int32) × (Nat → Int32) × (Nat → Int32), r = lp (fun _ _ _ _ _ _ _ => ((0 : Int32), false, (fun _ => 0), (fun _ => 0), (fun _ => 0), (fun _ => 0))) (fX4_walk_B14a sn d_minute d_pacesF t_guests t_bend r1) n14 := ⟨_, rfl⟩
          have hZ : (fX4_walk_B14a sn d_minute d_pacesF t_guests t_bend r1) rc14_2 l4_14 ad_stuck_14 ad_places_14 ad_cameAt_14 fd_7_14 fd_12_14 ad_yards_14 = E0 := by rw [hrc14_2]; exact hZ
          refine lv_iload hx hb dX4_walk_14 (lv_at hl 4 rfl) ?_
          refine lv_aload_n hx hb dX4_walk_16 rfl (lv_at hl 1 rfl) ?_
          refine va_get (D := D) (ci := 7) (v := .int (nI t_guests)) (C := RX7) (T := TX7) (N := 13) hx hb hts hi7 hown hK hP 7 rfl rfl 7 (by decide) lf53 (fun _ h9 => h9) rfl dX4_walk_17 ?_
          refine lv_icmp_ge (tgt := 194) hx hb dX4_walk_20 (by decide) (fun c_3 => ?_) (fun c_3 => ?_)
          · exact by
             have k_3 : t_guests ≤ l4_14 := (nI_leI (a := t_guests) (b := l4_14) (by omega) (by omega)).mp c_3
             have hZ := (if_pos k_3).symm.trans hZ
             rw [hQ]
             have hP9 := hP.sub (ws' := [(d, kO 4 [.ref d_yards, .ref d_paces, .ref d_stuck, .ref d_hirers, .ref d_places, .ref d_cameAt, .ref d_cooked, .int fd_7_14, .int d_night, .int d_minute, .int d_tasted, .int d_lastCook, .int (bB fd_12_14)]), (d_yards, kI k 6 ad_yards_14), (d_paces, kI k 6 d_pacesF), (d_stuck, kI k 6 ad_stuck_14), (d_hirers, kI k 6 d_hirersF), (d_places, kI k 6 ad_places_14), (d_cameAt, kI k 6 ad_cameAt_14), (t, kO 7 [.ref t_names, .ref t_kinds, .ref t_yards, .ref t_paces, .ref t_skills, .ref t_snow, .ref tw, .int (nI t_guests), .int (nI t_snows), .int t_bend, .int t_hour, .int (bB t_bendTold), .int (bB t_hourTold)]), (t_kinds, kI k 6 t_kindsF)]) [4, 5, 0, 1, 6, 2, 3, 7, 8] rfl
             have hD9 := hD.sub (ws' := [(d, kO 4 [.ref d_yards, .ref d_paces, .ref d_stuck, .ref d_hirers, .ref d_places, .ref d_cameAt, .ref d_cooked, .int fd_7_14, .int d_night, .int d_minute, .int d_tasted, .int d_lastCook, .int (bB fd_12_14)]), (d_yards, kI k 6 ad_yards_14), (d_paces, kI k 6 d_pacesF), (d_stuck, kI k 6 ad_stuck_14), (d_hirers, kI k 6 d_hirersF), (d_places, kI k 6 ad_places_14), (d_cameAt, kI k 6 ad_cameAt_14), (t, kO 7 [.ref t_names, .ref t_kinds, .ref t_yards, .ref t_paces, .ref t_skills, .ref t_snow, .ref tw, .int (nI t_guests), .int (nI t_snows), .int t_bend, .int t_hour, .int (bB t_bendTold), .int (bB t_hourTold)]), (t_kinds, kI k 6 t_kindsF)]) [4, 5, 0, 1, 6, 2, 3, 7, 8] (by decide +kernel) rfl
             exact W.vret hx hb hr (fun zt ht hW => ⟨⟨⟨fd_7_14, fd_12_14, ad_yards_14, ad_stuck_14, ad_places_14, ad_cameAt_14⟩, rfl, (hZ.trans hE0), by rw [ht]; exact hP9, hD9⟩, hS.F ht⟩) hS.2.2 dX4_walk_194
          · exact by
             have k_3 : ¬ (t_guests ≤ l4_14) := fun h => c_3 ((nI_leI (a := t_guests) (b := l4_14) (by omega) (by omega)).mpr h)
             have hZ := (if_neg k_3).symm.trans hZ
             refine lv_aload_n hx hb dX4_walk_23 rfl (lv_at hl 0 rfl) ?_
             refine lv_iload hx hb dX4_walk_24 (lv_at hl 4 rfl) ?_
             refine kz_Vi (As := [.int (nI l4_14)]) (rest := []) (wc := [(d, kO 4 [.ref d_yards, .ref d_paces, .ref d_stuck, .ref d_hirers, .ref d_places, .ref d_cameAt, .ref d_cooked, .int fd_7_14, .int d_night, .int d_minute, .int d_tasted, .int d_lastCook, .int (bB fd_12_14)]), (d_yards, kI k 6 ad_yards_14)]) (wr := [(d_paces, kI k 6 d_pacesF), (d_stuck, kI k 6 ad_stuck_14), (d_places, kI k 6 ad_places_14), (d_cameAt, kI k 6 ad_cameAt_14), (d_hirers, kI k 6 d_hirersF), (t, kO 7 [.ref t_names, .ref t_kinds, .ref t_yards, .ref t_paces, .ref t_skills, .ref t_snow, .ref tw, .int (nI t_guests), .int (nI t_snows), .int t_bend, .int t_hour, .int (bB t_bendTold), .int (bB t_hourTold)]), (t_kinds, kI k 6 t_kindsF)]) ⟨hx, hb, hml, hown, hts⟩ hK hE hP hD hS hA (sX4_isOnRoad l D k H.size d (nI l4_14) d_yards d_paces d_stuck d_hirers d_places d_cameAt d_cooked fd_7_14 d_night d_minute d_tasted d_lastCook fd_12_14 ad_yards_14) (cwV 1 hts gX4_walk_X4_isOnRoad rfl rfl rfl (by decide +kernel) (by rw [hR]; exact ⟨Nat.le_of_ble_eq_true rfl, Nat.le_of_ble_eq_true rfl⟩)) [4, 5] [0, 1, 2, 3, 6, 7, 8] rfl rfl (by decide +kernel) (by decide +kernel) (by decide +kernel) 0 rfl rfl rfl hl.1 rfl (Nat.le_of_ble_eq_true rfl) dX4_walk_26 (by rw [hR]; exact ⟨Nat.le_of_ble_eq_true rfl, Nat.le_of_ble_eq_true rfl⟩) (fun r4 u4 H locs hw4 hP hD hS => ?_)
             exact by
              try dsimp only at hw4
              obtain ⟨rfl, hw4⟩ := hw4
              have hP : va_P D vwCl [(d_paces, kI k 6 d_pacesF), (d_stuck, kI k 6 ad_stuck_14), (d_places, kI k 6 ad_places_14), (d_cameAt, kI k 6 ad_cameAt_14), (d_hirers, kI k 6 d_hirersF), (t, kO 7 [.ref t_names, .ref t_kinds, .ref t_yards, .ref t_paces, .ref t_skills, .ref t_snow, .ref tw, .int (nI t_guests), .int (nI t_snows), .int t_bend, .int t_hour, .int (bB t_bendTold), .int (bB t_hourTold)]), (t_kinds, kI k 6 t_kindsF), (d, kO 4 [.ref d_yards, .ref d_paces, .ref d_stuck, .ref d_hirers, .ref d_places, .ref d_cameAt, .ref d_cooked, .int fd_7_14, .int d_night, .int d_minute, .int d_tasted, .int d_lastCook, .int (bB fd_12_14)]), (d_yards, kI k 6 ad_yards_14)] H := hP
              have hD : va_D A [(d_paces, kI k 6 d_pacesF), (d_stuck, kI k 6 ad_stuck_14), (d_places, kI k 6 ad_places_14), (d_cameAt, kI k 6 ad_cameAt_14), (d_hirers, kI k 6 d_hirersF), (t, kO 7 [.ref t_names, .ref t_kinds, .ref t_yards, .ref t_paces, .ref t_skills, .ref t_snow, .ref tw, .int (nI t_guests), .int (nI t_snows), .int t_bend, .int t_hour, .int (bB t_bendTold), .int (bB t_hourTold)]), (t_kinds, kI k 6 t_kindsF), (d, kO 4 [.ref d_yards, .ref d_paces, .ref d_stuck, .ref d_hirers, .ref d_places, .ref d_cameAt, .ref d_cooked, .int fd_7_14, .int d_night, .int d_minute, .int d_tasted, .int d_lastCook, .int (bB fd_12_14)]), (d_yards, kI k 6 ad_yards_14)] := hD
              obtain ⟨hw4_0, hw4_1⟩ := hw4
              have tq5 : Int32.toInt (nI l4_14) = ((l4_14 : Nat) : Int) := nI_toInt (by omega)
              have hZ := bn1_e hw4_0 hZ
              have hj188_6 : ∀ (ad_stuck_188 : Nat → Int32) (ad_places_188 : Nat → Int32) (ad_cameAt_188 : Nat → Int32) (fd_7_188 : Int32) (fd_12_188 : Bool) (ad_yards_188 : Nat → Int32) (H : Heap) (locs : List Loc) (ls : Array Slot), ((fX4_walk_J188a l4_14 rc14_2) ad_stuck_188 ad_places_188 ad_cameAt_188 fd_7_188 fd_12_188 ad_yards_188 = E0) → va_P D vwCl [(d_paces, kI k 6 d_pacesF), (d_stuck, kI k 6 ad_stuck_188), (d_places, kI k 6 ad_places_188), (d_cameAt, kI k 6 ad_cameAt_188), (d_hirers, kI k 6 d_hirersF), (t, kO 7 [.ref t_names, .ref t_kinds, .ref t_yards, .ref t_paces, .ref t_skills, .ref t_snow, .ref tw, .int (nI t_guests), .int (nI t_snows), .int t_bend, .int t_hour, .int (bB t_bendTold), .int (bB t_hourTold)]), (t_kinds, kI k 6 t_kindsF), (d, kO 4 [.ref d_yards, .ref d_paces, .ref d_stuck, .ref d_hirers, .ref d_places, .ref d_cameAt, .ref d_cooked, .int fd_7_188, .int d_night, .int d_minute, .int d_tasted, .int d_lastCook, .int (bB fd_12_188)]), (d_yards, kI k 6 ad_yards_188)] H → va_D A [(d_paces, kI k 6 d_pacesF), (d_stuck, kI k 6 ad_stuck_188), (d_places, kI k 6 ad_places_188), (d_cameAt, kI k 6 ad_cameAt_188), (d_hirers, kI k 6 d_hirersF), (t, kO 7 [.ref t_names, .ref t_kinds, .ref t_yards, .ref t_paces, .ref t_skills, .ref t_snow, .ref tw, .int (nI t_guests), .int (nI t_snows), .int t_bend, .int t_hour, .int (bB t_bendTold), .int (bB t_hourTold)]), (t_kinds, kI k 6 t_kindsF), (d, kO 4 [.ref d_yards, .ref d_paces, .ref d_stuck, .ref d_hirers, .ref d_places, .ref d_cameAt, .ref d_cooked, .int fd_7_188, .int d_night, .int d_minute, .int d_tasted, .int d_lastCook, .int (bB fd_12_188)]), (d_yards, kI k 6 ad_yards_188)] → va_S A s.heap H locs → lv_has ls 8 [(0, .ref d), (1, .ref t), (2, .int sn), (3, .int r1), (4, .int (nI l4_14))] → W p l e R s m args below meth c H locs 0 0 Q (F0 m 188 ls []) := by
                intro ad_stuck_188 ad_places_188 ad_cameAt_188 fd_7_188 fd_12_188 ad_yards_188 H locs ls hZ hP hD hS hl
                refine lv_iinc (v := (nI (l4_14 + 1))) (lv' := [(4, .int (nI (l4_14 + 1))), (0, .ref d), (1, .ref t), (2, .int sn), (3, .int r1)]) hx hb dX4_walk_188 hl (k := 4) rfl (nI_1 _) (by decide) rfl (fun ls hl => ?_)
                exact by
                 refine lv_goto (tgt := 14) hx hb dX4_walk_191 (by decide) ?_
                 exact ih14 (l4_14 + 1) ad_stuck_188 ad_places_188 ad_cameAt_188 fd_7_188 fd_12_188 ad_yards_188 _ _ _ (by omega) (by first | omega | assumption) (by rw [← hrc14_2]; exact hZ) (hP.sub [0, 1, 2, 3, 7, 8, 4, 5, 6] rfl) (hD.sub [0, 1, 2, 3, 7, 8, 4, 5, 6] (by decide +kernel) rfl) hS (lv_sub hl [1, 2, 3, 4, 0] rfl)
              refine lv_if_ne (tgt := 35) hx hb dX4_walk_29 (by decide) (fun c_7 => ?_) (fun c_7 => ?_)
              · exact by
                 have b_7 : u4 = true := bB_1 c_7
                 have zf_7 := hw4_1 b_7
                 have hZ := (if_pos b_7).symm.trans hZ
                 refine lv_aload_n hx hb dX4_walk_35 rfl (lv_at hl 0 rfl) ?_
                 refine va_get (D := D) (ci := 4) (v := .ref d_stuck) (C := RX4) (T := TX4) (N := 13) hx hb hts hi4 hown hK hP 7 rfl rfl 2 (by decide) lf18 (fun _ h9 => h9) rfl dX4_walk_36 ?_
                 refine lv_iload hx hb dX4_walk_39 (lv_at hl 4 rfl) ?_
                 refine va_iald hx hb hK hP 1 0 rfl rfl (vp_in_nI (n := l4_14) (by omega) (by omega)) dX4_walk_41 ?_
                 refine lv_if_le (tgt := 64) hx hb dX4_walk_42 (by decide) (fun c_8 => ?_) (fun c_8 => ?_)
                 · exact by
                    have hZ := (if_pos c_8).symm.trans hZ
                    refine lv_aload_n hx hb dX4_walk_64 rfl (lv_at hl 0 rfl) ?_
                    refine va_get (D := D) (ci := 4) (v := .ref d_yards) (C := RX4) (T := TX4) (N := 13) hx hb hts hi4 hown hK hP 7 rfl rfl 0 (by decide) lf9 (fun _ h9 => h9) rfl dX4_walk_65 ?_
                    refine lv_iload hx hb dX4_walk_68 (lv_at hl 4 rfl) ?_
                    refine va_iald hx hb hK hP 8 0 rfl rfl (vp_in_nI (n := l4_14) (by omega) (by omega)) dX4_walk_70 ?_
                    refine lv_istore (lv' := [(5, .int (ad_yards_14 (Int32.toNatClampNeg (nI l4_14)))), (0, .ref d), (1, .ref t), (2, .int sn), (3, .int r1), (4, .int (nI l4_14))]) hx hb dX4_walk_71 hl (by decide) rfl (fun ls hl => ?_)
                    exact by
                     refine lv_iload_n hx hb dX4_walk_73 rfl (lv_at hl 4 rfl) ?_
                     refine lv_iload hx hb dX4_walk_74 (lv_at hl 5 rfl) ?_
                     refine lv_ishr hx hb dX4_walk_76 ?_
                     refine lv_iconst (v := 1) hx hb dX4_walk_77 (by decide) ?_
                     refine lv_iand hx hb dX4_walk_78 ?_
                     refine lv_iconst (v := 1) hx hb dX4_walk_79 (by decide) ?_
                     have hj96_9 : ∀ (s0_96 : Int32) (H : Heap) (locs : List Loc) (ls : Array Slot), ((fX4_walk_J96a sn d_minute d_pacesF l4_14 ad_stuck_14 ad_places_14 ad_cameAt_14 fd_7_14 fd_12_14 ad_yards_14 rc14_2) s0_96 = E0) → va_P D vwCl [(d_paces, kI k 6 d_pacesF), (d_stuck, kI k 6 ad_stuck_14), (d_places, kI k 6 ad_places_14), (d_cameAt, kI k 6 ad_cameAt_14), (d_hirers, kI k 6 d_hirersF), (t, kO 7 [.ref t_names, .ref t_kinds, .ref t_yards, .ref t_paces, .ref t_skills, .ref t_snow, .ref tw, .int (nI t_guests), .int (nI t_snows), .int t_bend, .int t_hour, .int (bB t_bendTold), .int (bB t_hourTold)]), (t_kinds, kI k 6 t_kindsF), (d, kO 4 [.ref d_yards, .ref d_paces, .ref d_stuck, .ref d_hirers, .ref d_places, .ref d_cameAt, .ref d_cooked, .int fd_7_14, .int d_night, .int d_minute, .int d_tasted, .int d_lastCook, .int (bB fd_12_14)]), (d_yards, kI k 6 ad_yards_14)] H → va_D A [(d_paces, kI k 6 d_pacesF), (d_stuck, kI k 6 ad_stuck_14), (d_places, kI k 6 ad_places_14), (d_cameAt, kI k 6 ad_cameAt_14), (d_hirers, kI k 6 d_hirersF), (t, kO 7 [.ref t_names, .ref t_kinds, .ref t_yards, .ref t_paces, .ref t_skills, .ref t_snow, .ref tw, .int (nI t_guests), .int (nI t_snows), .int t_bend, .int t_hour, .int (bB t_bendTold), .int (bB t_hourTold)]), (t_kinds, kI k 6 t_kindsF), (d, kO 4 [.ref d_yards, .ref d_paces, .ref d_stuck, .ref d_hirers, .ref d_places, .ref d_cameAt, .ref d_cooked, .int fd_7_14, .int d_night, .int d_minute, .int d_tasted, .int d_lastCook, .int (bB fd_12_14)]), (d_yards, kI k 6 ad_yards_14)] → va_S A s.heap H locs → lv_has ls 8 [(0, .ref d), (1, .ref t), (2, .int sn), (3, .int r1), (4, .int (nI l4_14)), (5, .int (ad_yards_14 (Int32.toNatClampNeg (nI l4_14))))] → W p l e R s m args below meth c H locs 0 0 Q (F0 m 96 ls [.int s0_96]) := by
                       intro s0_96 H locs ls hZ hP hD hS hl
                       refine lv_istore (lv' := [(6, .int s0_96), (0, .ref d), (1, .ref t), (2, .int sn), (3, .int r1), (4, .int (nI l4_14)), (5, .int (ad_yards_14 (Int32.toNatClampNeg (nI l4_14))))]) hx hb dX4_walk_96 hl (by decide) rfl (fun ls hl => ?_)
                       exact by
                        refine lv_iload hx hb dX4_walk_98 (lv_at hl 0 rfl) ?_
                        refine lv_iload hx hb dX4_walk_100 (lv_at hl 6 rfl) ?_
                        refine lv_iconst (v := 1) hx hb dX4_walk_102 (by decide) ?_
                        refine lv_aload_n hx hb dX4_walk_103 rfl (lv_at hl 1 rfl) ?_
                        refine va_get (D := D) (ci := 4) (v := .ref d_paces) (C := RX4) (T := TX4) (N := 13) hx hb hts hi4 hown hK hP 7 rfl rfl 1 (by decide) lf15 (fun _ h9 => h9) rfl dX4_walk_104 ?_
                        refine lv_iload hx hb dX4_walk_107 (lv_at hl 5 rfl) ?_
                        refine va_iald hx hb hK hP 0 0 rfl rfl (vp_in_nI (n := l4_14) (by omega) (by omega)) dX4_walk_109 ?_
                        refine lv_iload_n hx hb dX4_walk_110 rfl (lv_at hl 3 rfl) ?_
                        refine lv_isub hx hb dX4_walk_111 ?_
                        refine va_mmax hx hb (hml.trans hl.1.symm) hown lm98 lmtmax lim lmcmax (by rw [hR]; exact Nat.le_of_ble_eq_true rfl) (by rw [hR]; exact Nat.le_of_ble_eq_true rfl) (by first | omega | (rw [hR]; exact Nat.le_of_ble_eq_true rfl)) (by first | omega | (rw [hR]; exact Nat.le_of_ble_eq_true rfl)) dX4_walk_112 ?_
                        refine lv_isub hx hb dX4_walk_115 ?_
                        refine va_mmax hx hb (hml.trans hl.1.symm) hown lm98 lmtmax lim lmcmax (by rw [hR]; exact Nat.le_of_ble_eq_true rfl) (by rw [hR]; exact Nat.le_of_ble_eq_true rfl) (by first | omega | (rw [hR]; exact Nat.le_of_ble_eq_true rfl)) (by first | omega | (rw [hR]; exact Nat.le_of_ble_eq_true rfl)) dX4_walk_116 ?_
                        refine lv_istore (lv' := [(7, .int (if s0_96 < ((ad_yards_14 (Int32.toNatClampNeg (nI l4_14))) - (if 1 < ((d_pacesF (Int32.toNatClampNeg (nI l4_14))) - sn) then ((d_pacesF (Int32.toNatClampNeg (nI l4_14))) - sn) else 1)) then ((ad_yards_14 (Int32.toNatClampNeg (nI l4_14))) - (if 1 < ((d_pacesF (Int32.toNatClampNeg (nI l4_14))) - sn) then ((d_pacesF (Int32.toNatClampNeg (nI l4_14))) - sn) else 1)) else s0_96)), (6, .int s0_96), (0, .ref d), (1, .ref t), (2, .int sn), (3, .int r1), (4, .int (nI l4_14)), (5, .int (ad_yards_14 (Int32.toNatClampNeg (nI l4_14))))]) hx hb dX4_walk_119 hl (by decide) rfl (fun ls hl => ?_)
                        exact by
                         refine lv_aload_n hx hb dX4_walk_121 rfl (lv_at hl 2 rfl) ?_
                         refine lv_dup hx hb dX4_walk_122 rfl ?_
                         refine va_get (D := D) (ci := 4) (v := .int (bB fd_12_14)) (C := RX4) (T := TX4) (N := 13) hx hb hts hi4 hown hK hP 7 rfl rfl 12 (by decide) lf91 (fun _ h9 => h9) rfl dX4_walk_123 ?_
                         refine lv_iload hx hb dX4_walk_126 (lv_at hl 0 rfl) ?_
                         refine lv_iload hx hb dX4_walk_128 (lv_at hl 7 rfl) ?_
                         have hj138_10 : ∀ (s2_138 : Bool) (H : Heap) (locs : List Loc) (ls : Array Slot), ((fX4_walk_J138a sn d_minute d_pacesF l4_14 ad_stuck_14 ad_places_14 ad_cameAt_14 fd_7_14 fd_12_14 ad_yards_14 rc14_2 s0_96) s2_138 = E0) → va_P D vwCl [(d_paces, kI k 6 d_pacesF), (d_stuck, kI k 6 ad_stuck_14), (d_places, kI k 6 ad_places_14), (d_cameAt, kI k 6 ad_cameAt_14), (d_hirers, kI k 6 d_hirersF), (t, kO 7 [.ref t_names, .ref t_kinds, .ref t_yards, .ref t_paces, .ref t_skills, .ref t_snow, .ref tw, .int (nI t_guests), .int (nI t_snows), .int t_bend, .int t_hour, .int (bB t_bendTold), .int (bB t_hourTold)]), (t_kinds, kI k 6 t_kindsF), (d, kO 4 [.ref d_yards, .ref d_paces, .ref d_stuck, .ref d_hirers, .ref d_places, .ref d_cameAt, .ref d_cooked, .int fd_7_14, .int d_night, .int d_minute, .int d_tasted, .int d_lastCook, .int (bB fd_12_14)]), (d_yards, kI k 6 ad_yards_14)] H → va_D A [(d_paces, kI k 6 d_pacesF), (d_stuck, kI k 6 ad_stuck_14), (d_places, kI k 6 ad_places_14), (d_cameAt, kI k 6 ad_cameAt_14), (d_hirers, kI k 6 d_hirersF), (t, kO 7 [.ref t_names, .ref t_kinds, .ref t_yards, .ref t_paces, .ref t_skills, .ref t_snow, .ref tw, .int (nI t_guests), .int (nI t_snows), .int t_bend, .int t_hour, .int (bB t_bendTold), .int (bB t_hourTold)]), (t_kinds, kI k 6 t_kindsF), (d, kO 4 [.ref d_yards, .ref d_paces, .ref d_stuck, .ref d_hirers, .ref d_places, .ref d_cameAt, .ref d_cooked, .int fd_7_14, .int d_night, .int d_minute, .int d_tasted, .int d_lastCook, .int (bB fd_12_14)]), (d_yards, kI k 6 ad_yards_14)] → va_S A s.heap H locs → lv_has ls 8 [(0, .ref d), (1, .ref t), (2, .int sn), (3, .int r1), (4, .int (nI l4_14)), (5, .int (ad_yards_14 (Int32.toNatClampNeg (nI l4_14)))), (6, .int s0_96), (7, .int (if s0_96 < ((ad_yards_14 (Int32.toNatClampNeg (nI l4_14))) - (if 1 < ((d_pacesF (Int32.toNatClampNeg (nI l4_14))) - sn) then ((d_pacesF (Int32.toNatClampNeg (nI l4_14))) - sn) else 1)) then ((ad_yards_14 (Int32.toNatClampNeg (nI l4_14))) - (if 1 < ((d_pacesF (Int32.toNatClampNeg (nI l4_14))) - sn) then ((d_pacesF (Int32.toNatClampNeg (nI l4_14))) - sn) else 1)) else s0_96))] → W p l e R s m args below meth c H locs 0 0 Q (F0 m 138 ls [.int (bB s2_138), .int (bB fd_12_14), .ref d]) := by
                           intro s2_138 H locs ls hZ hP hD hS hl
                           refine lv_ior hx hb dX4_walk_138 ?_
                           refine lv_topi (fun x11 ex11 => ?_)
                           exact by
                            obtain rfl : x11 = (bB (fd_12_14 || s2_138)) := ex11.trans (bB_or fd_12_14 s2_138)
                            refine va_put (D := D) (ci := 4) (v := .int (bB (fd_12_14 || s2_138))) (ty := .boolean) (C := RX4) (T := TX4) (N := 13) hx hb hts hi4 tyX4 tyX4_ok nmX4 hown hK hP hD hS 7 rfl rfl 12 (by decide) lf91 (fun _ h9 => h9) rfl (by decide +kernel) (narrow_bB _) (fits_bB _) (Nat.le_of_ble_eq_true rfl) dX4_walk_139 (fun H locs hP hD hS => ?_)
                            exact by
                             have hP : va_P D vwCl [(d_paces, kI k 6 d_pacesF), (d_stuck, kI k 6 ad_stuck_14), (d_places, kI k 6 ad_places_14), (d_cameAt, kI k 6 ad_cameAt_14), (d_hirers, kI k 6 d_hirersF), (t, kO 7 [.ref t_names, .ref t_kinds, .ref t_yards, .ref t_paces, .ref t_skills, .ref t_snow, .ref tw, .int (nI t_guests), .int (nI t_snows), .int t_bend, .int t_hour, .int (bB t_bendTold), .int (bB t_hourTold)]), (t_kinds, kI k 6 t_kindsF), (d, kO 4 [.ref d_yards, .ref d_paces, .ref d_stuck, .ref d_hirers, .ref d_places, .ref d_cameAt, .ref d_cooked, .int fd_7_14, .int d_night, .int d_minute, .int d_tasted, .int d_lastCook, .int (bB (fd_12_14 || s2_138))]), (d_yards, kI k 6 ad_yards_14)] H := hP
                             have hD : va_D A [(d_paces, kI k 6 d_pacesF), (d_stuck, kI k 6 ad_stuck_14), (d_places, kI k 6 ad_places_14), (d_cameAt, kI k 6 ad_cameAt_14), (d_hirers, kI k 6 d_hirersF), (t, kO 7 [.ref t_names, .ref t_kinds, .ref t_yards, .ref t_paces, .ref t_skills, .ref t_snow, .ref tw, .int (nI t_guests), .int (nI t_snows), .int t_bend, .int t_hour, .int (bB t_bendTold), .int (bB t_hourTold)]), (t_kinds, kI k 6 t_kindsF), (d, kO 4 [.ref d_yards, .ref d_paces, .ref d_stuck, .ref d_hirers, .ref d_places, .ref d_cameAt, .ref d_cooked, .int fd_7_14, .int d_night, .int d_minute, .int d_tasted, .int d_lastCook, .int (bB (fd_12_14 || s2_138))]), (d_yards, kI k 6 ad_yards_14)] := hD
                             refine lv_aload_n hx hb dX4_walk_142 rfl (lv_at hl 0 rfl) ?_
                             refine va_get (D := D) (ci := 4) (v := .ref d_yards) (C := RX4) (T := TX4) (N := 13) hx hb hts hi4 hown hK hP 7 rfl rfl 0 (by decide) lf9 (fun _ h9 => h9) rfl dX4_walk_143 ?_
                             refine lv_iload hx hb dX4_walk_146 (lv_at hl 4 rfl) ?_
                             refine lv_iload hx hb dX4_walk_148 (lv_at hl 7 rfl) ?_
                             refine va_iast hx hb hK hP hD hS 8 0 rfl rfl (vp_in_nI (n := l4_14) (by omega) (by omega)) dX4_walk_150 (fun H locs hP hD hS => ?_)
                             exact by
                              have hP : va_P D vwCl [(d_paces, kI k 6 d_pacesF), (d_stuck, kI k 6 ad_stuck_14), (d_places, kI k 6 ad_places_14), (d_cameAt, kI k 6 ad_cameAt_14), (d_hirers, kI k 6 d_hirersF), (t, kO 7 [.ref t_names, .ref t_kinds, .ref t_yards, .ref t_paces, .ref t_skills, .ref t_snow, .ref tw, .int (nI t_guests), .int (nI t_snows), .int t_bend, .int t_hour, .int (bB t_bendTold), .int (bB t_hourTold)]), (t_kinds, kI k 6 t_kindsF), (d, kO 4 [.ref d_yards, .ref d_paces, .ref d_stuck, .ref d_hirers, .ref d_places, .ref d_cameAt, .ref d_cooked, .int fd_7_14, .int d_night, .int d_minute, .int d_tasted, .int d_lastCook, .int (bB (fd_12_14 || s2_138))]), (d_yards, kI k 6 (upd ad_yards_14 (Int32.toNatClampNeg (nI l4_14)) (if s0_96 < ((ad_yards_14 (Int32.toNatClampNeg (nI l4_14))) - (if 1 < ((d_pacesF (Int32.toNatClampNeg (nI l4_14))) - sn) then ((d_pacesF (Int32.toNatClampNeg (nI l4_14))) - sn) else 1)) then ((ad_yards_14 (Int32.toNatClampNeg (nI l4_14))) - (if 1 < ((d_pacesF (Int32.toNatClampNeg (nI l4_14))) - sn) then ((d_pacesF (Int32.toNatClampNeg (nI l4_14))) - sn) else 1)) else s0_96)))] H := hP
                              have hD : va_D A [(d_paces, kI k 6 d_pacesF), (d_stuck, kI k 6 ad_stuck_14), (d_places, kI k 6 ad_places_14), (d_cameAt, kI k 6 ad_cameAt_14), (d_hirers, kI k 6 d_hirersF), (t, kO 7 [.ref t_names, .ref t_kinds, .ref t_yards, .ref t_paces, .ref t_skills, .ref t_snow, .ref tw, .int (nI t_guests), .int (nI t_snows), .int t_bend, .int t_hour, .int (bB t_bendTold), .int (bB t_hourTold)]), (t_kinds, kI k 6 t_kindsF), (d, kO 4 [.ref d_yards, .ref d_paces, .ref d_stuck, .ref d_hirers, .ref d_places, .ref d_cameAt, .ref d_cooked, .int fd_7_14, .int d_night, .int d_minute, .int d_tasted, .int d_lastCook, .int (bB (fd_12_14 || s2_138))]), (d_yards, kI k 6 (upd ad_yards_14 (Int32.toNatClampNeg (nI l4_14)) (if s0_96 < ((ad_yards_14 (Int32.toNatClampNeg (nI l4_14))) - (if 1 < ((d_pacesF (Int32.toNatClampNeg (nI l4_14))) - sn) then ((d_pacesF (Int32.toNatClampNeg (nI l4_14))) - sn) else 1)) then ((ad_yards_14 (Int32.toNatClampNeg (nI l4_14))) - (if 1 < ((d_pacesF (Int32.toNatClampNeg (nI l4_14))) - sn) then ((d_pacesF (Int32.toNatClampNeg (nI l4_14))) - sn) else 1)) else s0_96)))] := hD
                              refine lv_iload hx hb dX4_walk_151 (lv_at hl 7 rfl) ?_
                              refine lv_if_ne (tgt := 188) hx hb dX4_walk_153 (by decide) (fun c_12 => ?_) (fun c_12 => ?_)
                              · exact by
                                 have hZ := (if_neg c_12).symm.trans hZ
                                 exact hj188_6 ad_stuck_14 ad_places_14 ad_cameAt_14 fd_7_14 (fd_12_14 || s2_138) (upd ad_yards_14 (Int32.toNatClampNeg (nI l4_14)) (if s0_96 < ((ad_yards_14 (Int32.toNatClampNeg (nI l4_14))) - (if 1 < ((d_pacesF (Int32.toNatClampNeg (nI l4_14))) - sn) then ((d_pacesF (Int32.toNatClampNeg (nI l4_14))) - sn) else 1)) then ((ad_yards_14 (Int32.toNatClampNeg (nI l4_14))) - (if 1 < ((d_pacesF (Int32.toNatClampNeg (nI l4_14))) - sn) then ((d_pacesF (Int32.toNatClampNeg (nI l4_14))) - sn) else 1)) else s0_96)) _ _ _ hZ (hP.sub [0, 1, 2, 3, 4, 5, 6, 7, 8] rfl) (hD.sub [0, 1, 2, 3, 4, 5, 6, 7, 8] (by decide +kernel) rfl) hS (lv_sub hl [0, 1, 2, 3, 4] rfl)
                              · exact by
                                 have hZ := (if_pos c_12).symm.trans hZ
                                 refine lv_aload_n hx hb dX4_walk_156 rfl (lv_at hl 0 rfl) ?_
                                 refine va_get (D := D) (ci := 4) (v := .ref d_places) (C := RX4) (T := TX4) (N := 13) hx hb hts hi4 hown hK hP 7 rfl rfl 4 (by decide) lf24 (fun _ h9 => h9) rfl dX4_walk_157 ?_
                                 refine lv_iload hx hb dX4_walk_160 (lv_at hl 4 rfl) ?_
                                 refine lv_aload_n hx hb dX4_walk_162 rfl (lv_at hl 0 rfl) ?_
                                 refine va_get (D := D) (ci := 4) (v := .int fd_7_14) (C := RX4) (T := TX4) (N := 13) hx hb hts hi4 hown hK hP 7 rfl rfl 7 (by decide) lf50 (fun _ h9 => h9) rfl dX4_walk_163 ?_
                                 refine va_iast hx hb hK hP hD hS 2 0 rfl rfl (vp_in_nI (n := l4_14) (by omega) (by omega)) dX4_walk_166 (fun H locs hP hD hS => ?_)
                                 exact by
                                  have hP : va_P D vwCl [(d_paces, kI k 6 d_pacesF), (d_stuck, kI k 6 ad_stuck_14), (d_places, kI k 6 (upd ad_places_14 (Int32.toNatClampNeg (nI l4_14)) fd_7_14)), (d_cameAt, kI k 6 ad_cameAt_14), (d_hirers, kI k 6 d_hirersF), (t, kO 7 [.ref t_names, .ref t_kinds, .ref t_yards, .ref t_paces, .ref t_skills, .ref t_snow, .ref tw, .int (nI t_guests), .int (nI t_snows), .int t_bend, .int t_hour, .int (bB t_bendTold), .int (bB t_hourTold)]), (t_kinds, kI k 6 t_kindsF), (d, kO 4 [.ref d_yards, .ref d_paces, .ref d_stuck, .ref d_hirers, .ref d_places, .ref d_cameAt, .ref d_cooked, .int fd_7_14, .int d_night, .int d_minute, .int d_tasted, .int d_lastCook, .int (bB (fd_12_14 || s2_138))]), (d_yards, kI k 6 (upd ad_yards_14 (Int32.toNatClampNeg (nI l4_14)) (if s0_96 < ((ad_yards_14 (Int32.toNatClampNeg (nI l4_14))) - (if 1 < ((d_pacesF (Int32.toNatClampNeg (nI l4_14))) - sn) then ((d_pacesF (Int32.toNatClampNeg (nI l4_14))) - sn) else 1)) then ((ad_yards_14 (Int32.toNatClampNeg (nI l4_14))) - (if 1 < ((d_pacesF (Int32.toNatClampNeg (nI l4_14))) - sn) then ((d_pacesF (Int32.toNatClampNeg (nI l4_14))) - sn) else 1)) else s0_96)))] H := hP
                                  have hD : va_D A [(d_paces, kI k 6 d_pacesF), (d_stuck, kI k 6 ad_stuck_14), (d_places, kI k 6 (upd ad_places_14 (Int32.toNatClampNeg (nI l4_14)) fd_7_14)), (d_cameAt, kI k 6 ad_cameAt_14), (d_hirers, kI k 6 d_hirersF), (t, kO 7 [.ref t_names, .ref t_kinds, .ref t_yards, .ref t_paces, .ref t_skills, .ref t_snow, .ref tw, .int (nI t_guests), .int (nI t_snows), .int t_bend, .int t_hour, .int (bB t_bendTold), .int (bB t_hourTold)]), (t_kinds, kI k 6 t_kindsF), (d, kO 4 [.ref d_yards, .ref d_paces, .ref d_stuck, .ref d_hirers, .ref d_places, .ref d_cameAt, .ref d_cooked, .int fd_7_14, .int d_night, .int d_minute, .int d_tasted, .int d_lastCook, .int (bB (fd_12_14 || s2_138))]), (d_yards, kI k 6 (upd ad_yards_14 (Int32.toNatClampNeg (nI l4_14)) (if s0_96 < ((ad_yards_14 (Int32.toNatClampNeg (nI l4_14))) - (if 1 < ((d_pacesF (Int32.toNatClampNeg (nI l4_14))) - sn) then ((d_pacesF (Int32.toNatClampNeg (nI l4_14))) - sn) else 1)) then ((ad_yards_14 (Int32.toNatClampNeg (nI l4_14))) - (if 1 < ((d_pacesF (Int32.toNatClampNeg (nI l4_14))) - sn) then ((d_pacesF (Int32.toNatClampNeg (nI l4_14))) - sn) else 1)) else s0_96)))] := hD
                                  refine lv_aload_n hx hb dX4_walk_167 rfl (lv_at hl 0 rfl) ?_
                                  refine va_get (D := D) (ci := 4) (v := .ref d_cameAt) (C := RX4) (T := TX4) (N := 13) hx hb hts hi4 hown hK hP 7 rfl rfl 5 (by decide) lf27 (fun _ h9 => h9) rfl dX4_walk_168 ?_
                                  refine lv_iload hx hb dX4_walk_171 (lv_at hl 4 rfl) ?_
                                  refine lv_aload_n hx hb dX4_walk_173 rfl (lv_at hl 0 rfl) ?_
                                  refine va_get (D := D) (ci := 4) (v := .int d_minute) (C := RX4) (T := TX4) (N := 13) hx hb hts hi4 hown hK hP 7 rfl rfl 9 (by decide) lf47 (fun _ h9 => h9) rfl dX4_walk_174 ?_
                                  refine va_iast hx hb hK hP hD hS 3 0 rfl rfl (vp_in_nI (n := l4_14) (by omega) (by omega)) dX4_walk_177 (fun H locs hP hD hS => ?_)
                                  exact by
                                   have hP : va_P D vwCl [(d_paces, kI k 6 d_pacesF), (d_stuck, kI k 6 ad_stuck_14), (d_places, kI k 6 (upd ad_places_14 (Int32.toNatClampNeg (nI l4_14)) fd_7_14)), (d_cameAt, kI k 6 (upd ad_cameAt_14 (Int32.toNatClampNeg (nI l4_14)) d_minute)), (d_hirers, kI k 6 d_hirersF), (t, kO 7 [.ref t_names, .ref t_kinds, .ref t_yards, .ref t_paces, .ref t_skills, .ref t_snow, .ref tw, .int (nI t_guests), .int (nI t_snows), .int t_bend, .int t_hour, .int (bB t_bendTold), .int (bB t_hourTold)]), (t_kinds, kI k 6 t_kindsF), (d, kO 4 [.ref d_yards, .ref d_paces, .ref d_stuck, .ref d_hirers, .ref d_places, .ref d_cameAt, .ref d_cooked, .int fd_7_14, .int d_night, .int d_minute, .int d_tasted, .int d_lastCook, .int (bB (fd_12_14 || s2_138))]), (d_yards, kI k 6 (upd ad_yards_14 (Int32.toNatClampNeg (nI l4_14)) (if s0_96 < ((ad_yards_14 (Int32.toNatClampNeg (nI l4_14))) - (if 1 < ((d_pacesF (Int32.toNatClampNeg (nI l4_14))) - sn) then ((d_pacesF (Int32.toNatClampNeg (nI l4_14))) - sn) else 1)) then ((ad_yards_14 (Int32.toNatClampNeg (nI l4_14))) - (if 1 < ((d_pacesF (Int32.toNatClampNeg (nI l4_14))) - sn) then ((d_pacesF (Int32.toNatClampNeg (nI l4_14))) - sn) else 1)) else s0_96)))] H := hP
                                   have hD : va_D A [(d_paces, kI k 6 d_pacesF), (d_stuck, kI k 6 ad_stuck_14), (d_places, kI k 6 (upd ad_places_14 (Int32.toNatClampNeg (nI l4_14)) fd_7_14)), (d_cameAt, kI k 6 (upd ad_cameAt_14 (Int32.toNatClampNeg (nI l4_14)) d_minute)), (d_hirers, kI k 6 d_hirersF), (t, kO 7 [.ref t_names, .ref t_kinds, .ref t_yards, .ref t_paces, .ref t_skills, .ref t_snow, .ref tw, .int (nI t_guests), .int (nI t_snows), .int t_bend, .int t_hour, .int (bB t_bendTold), .int (bB t_hourTold)]), (t_kinds, kI k 6 t_kindsF), (d, kO 4 [.ref d_yards, .ref d_paces, .ref d_stuck, .ref d_hirers, .ref d_places, .ref d_cameAt, .ref d_cooked, .int fd_7_14, .int d_night, .int d_minute, .int d_tasted, .int d_lastCook, .int (bB (fd_12_14 || s2_138))]), (d_yards, kI k 6 (upd ad_yards_14 (Int32.toNatClampNeg (nI l4_14)) (if s0_96 < ((ad_yards_14 (Int32.toNatClampNeg (nI l4_14))) - (if 1 < ((d_pacesF (Int32.toNatClampNeg (nI l4_14))) - sn) then ((d_pacesF (Int32.toNatClampNeg (nI l4_14))) - sn) else 1)) then ((ad_yards_14 (Int32.toNatClampNeg (nI l4_14))) - (if 1 < ((d_pacesF (Int32.toNatClampNeg (nI l4_14))) - sn) then ((d_pacesF (Int32.toNatClampNeg (nI l4_14))) - sn) else 1)) else s0_96)))] := hD
                                   refine lv_aload_n hx hb dX4_walk_178 rfl (lv_at hl 0 rfl) ?_
                                   refine lv_dup hx hb dX4_walk_179 rfl ?_
                                   refine va_get (D := D) (ci := 4) (v := .int fd_7_14) (C := RX4) (T := TX4) (N := 13) hx hb hts hi4 hown hK hP 7 rfl rfl 7 (by decide) lf50 (fun _ h9 => h9) rfl dX4_walk_180 ?_
                                   refine lv_iconst (v := 1) hx hb dX4_walk_183 (by decide) ?_
                                   refine lv_iadd hx hb dX4_walk_184 ?_
                                   refine va_put (D := D) (ci := 4) (v := .int (fd_7_14 + 1)) (ty := .int) (C := RX4) (T := TX4) (N := 13) hx hb hts hi4 tyX4 tyX4_ok nmX4 hown hK hP hD hS 7 rfl rfl 7 (by decide) lf50 (fun _ h9 => h9) rfl (by decide +kernel) rfl rfl (Nat.le_of_ble_eq_true rfl) dX4_walk_185 (fun H locs hP hD hS => ?_)
                                   exact by
                                    have hP : va_P D vwCl [(d_paces, kI k 6 d_pacesF), (d_stuck, kI k 6 ad_stuck_14), (d_places, kI k 6 (upd ad_places_14 (Int32.toNatClampNeg (nI l4_14)) fd_7_14)), (d_cameAt, kI k 6 (upd ad_cameAt_14 (Int32.toNatClampNeg (nI l4_14)) d_minute)), (d_hirers, kI k 6 d_hirersF), (t, kO 7 [.ref t_names, .ref t_kinds, .ref t_yards, .ref t_paces, .ref t_skills, .ref t_snow, .ref tw, .int (nI t_guests), .int (nI t_snows), .int t_bend, .int t_hour, .int (bB t_bendTold), .int (bB t_hourTold)]), (t_kinds, kI k 6 t_kindsF), (d, kO 4 [.ref d_yards, .ref d_paces, .ref d_stuck, .ref d_hirers, .ref d_places, .ref d_cameAt, .ref d_cooked, .int (fd_7_14 + 1), .int d_night, .int d_minute, .int d_tasted, .int d_lastCook, .int (bB (fd_12_14 || s2_138))]), (d_yards, kI k 6 (upd ad_yards_14 (Int32.toNatClampNeg (nI l4_14)) (if s0_96 < ((ad_yards_14 (Int32.toNatClampNeg (nI l4_14))) - (if 1 < ((d_pacesF (Int32.toNatClampNeg (nI l4_14))) - sn) then ((d_pacesF (Int32.toNatClampNeg (nI l4_14))) - sn) else 1)) then ((ad_yards_14 (Int32.toNatClampNeg (nI l4_14))) - (if 1 < ((d_pacesF (Int32.toNatClampNeg (nI l4_14))) - sn) then ((d_pacesF (Int32.toNatClampNeg (nI l4_14))) - sn) else 1)) else s0_96)))] H := hP
                                    have hD : va_D A [(d_paces, kI k 6 d_pacesF), (d_stuck, kI k 6 ad_stuck_14), (d_places, kI k 6 (upd ad_places_14 (Int32.toNatClampNeg (nI l4_14)) fd_7_14)), (d_cameAt, kI k 6 (upd ad_cameAt_14 (Int32.toNatClampNeg (nI l4_14)) d_minute)), (d_hirers, kI k 6 d_hirersF), (t, kO 7 [.ref t_names, .ref t_kinds, .ref t_yards, .ref t_paces, .ref t_skills, .ref t_snow, .ref tw, .int (nI t_guests), .int (nI t_snows), .int t_bend, .int t_hour, .int (bB t_bendTold), .int (bB t_hourTold)]), (t_kinds, kI k 6 t_kindsF), (d, kO 4 [.ref d_yards, .ref d_paces, .ref d_stuck, .ref d_hirers, .ref d_places, .ref d_cameAt, .ref d_cooked, .int (fd_7_14 + 1), .int d_night, .int d_minute, .int d_tasted, .int d_lastCook, .int (bB (fd_12_14 || s2_138))]), (d_yards, kI k 6 (upd ad_yards_14 (Int32.toNatClampNeg (nI l4_14)) (if s0_96 < ((ad_yards_14 (Int32.toNatClampNeg (nI l4_14))) - (if 1 < ((d_pacesF (Int32.toNatClampNeg (nI l4_14))) - sn) then ((d_pacesF (Int32.toNatClampNeg (nI l4_14))) - sn) else 1)) then ((ad_yards_14 (Int32.toNatClampNeg (nI l4_14))) - (if 1 < ((d_pacesF (Int32.toNatClampNeg (nI l4_14))) - sn) then ((d_pacesF (Int32.toNatClampNeg (nI l4_14))) - sn) else 1)) else s0_96)))] := hD
                                    exact hj188_6 ad_stuck_14 (upd ad_places_14 (Int32.toNatClampNeg (nI l4_14)) fd_7_14) (upd ad_cameAt_14 (Int32.toNatClampNeg (nI l4_14)) d_minute) (fd_7_14 + 1) (fd_12_14 || s2_138) (upd ad_yards_14 (Int32.toNatClampNeg (nI l4_14)) (if s0_96 < ((ad_yards_14 (Int32.toNatClampNeg (nI l4_14))) - (if 1 < ((d_pacesF (Int32.toNatClampNeg (nI l4_14))) - sn) then ((d_pacesF (Int32.toNatClampNeg (nI l4_14))) - sn) else 1)) then ((ad_yards_14 (Int32.toNatClampNeg (nI l4_14))) - (if 1 < ((d_pacesF (Int32.toNatClampNeg (nI l4_14))) - sn) then ((d_pacesF (Int32.toNatClampNeg (nI l4_14))) - sn) else 1)) else s0_96)) _ _ _ hZ (hP.sub [0, 1, 2, 3, 4, 5, 6, 7, 8] rfl) (hD.sub [0, 1, 2, 3, 4, 5, 6, 7, 8] (by decide +kernel) rfl) hS (lv_sub hl [0, 1, 2, 3, 4] rfl)
                         refine lv_icmp_eq (tgt := 137) hx hb dX4_walk_130 (by decide) (fun c_13 => ?_) (fun c_13 => ?_)
                         · exact by
                            have hZ := (if_pos c_13).symm.trans hZ
                            refine lv_iconst (v := 0) hx hb dX4_walk_137 (by decide) ?_
                            exact hj138_10 false _ _ _ hZ (hP.sub [0, 1, 2, 3, 4, 5, 6, 7, 8] rfl) (hD.sub [0, 1, 2, 3, 4, 5, 6, 7, 8] (by decide +kernel) rfl) hS (lv_sub hl [2, 3, 4, 5, 6, 7, 1, 0] rfl)
                         · exact by
                            have hZ := (if_neg c_13).symm.trans hZ
                            refine lv_iconst (v := 1) hx hb dX4_walk_133 (by decide) ?_
                            refine lv_goto (tgt := 138) hx hb dX4_walk_134 (by decide) ?_
                            exact hj138_10 true _ _ _ hZ (hP.sub [0, 1, 2, 3, 4, 5, 6, 7, 8] rfl) (hD.sub [0, 1, 2, 3, 4, 5, 6, 7, 8] (by decide +kernel) rfl) hS (lv_sub hl [2, 3, 4, 5, 6, 7, 1, 0] rfl)
                     refine lv_icmp_ne (tgt := 95) hx hb dX4_walk_80 (by decide) (fun c_14 => ?_) (fun c_14 => ?_)
                     · exact by
                        have hZ := (if_neg c_14).symm.trans hZ
                        refine lv_iconst (v := 0) hx hb dX4_walk_95 (by decide) ?_
                        exact hj96_9 (0 : Int32) _ _ _ hZ (hP.sub [0, 1, 2, 3, 4, 5, 6, 7, 8] rfl) (hD.sub [0, 1, 2, 3, 4, 5, 6, 7, 8] (by decide +kernel) rfl) hS (lv_sub hl [1, 2, 3, 4, 5, 0] rfl)
                     · exact by
                        have hZ := (if_pos c_14).symm.trans hZ
                        refine lv_iload hx hb dX4_walk_83 (lv_at hl 0 rfl) ?_
                        refine lv_aload_n hx hb dX4_walk_85 rfl (lv_at hl 2 rfl) ?_
                        refine va_get (D := D) (ci := 7) (v := .int t_bend) (C := RX7) (T := TX7) (N := 13) hx hb hts hi7 hown hK hP 5 rfl rfl 9 (by decide) lf95 (fun _ h9 => h9) rfl dX4_walk_86 ?_
                        refine va_mmin hx hb (hml.trans hl.1.symm) hown lm70 lmtmin lim lmcmin (by rw [hR]; exact Nat.le_of_ble_eq_true rfl) (by rw [hR]; exact Nat.le_of_ble_eq_true rfl) (by first | omega | (rw [hR]; exact Nat.le_of_ble_eq_true rfl)) (by first | omega | (rw [hR]; exact Nat.le_of_ble_eq_true rfl)) dX4_walk_89 ?_
                        refine lv_goto (tgt := 96) hx hb dX4_walk_92 (by decide) ?_
                        exact hj96_9 (if t_bend < (ad_yards_14 (Int32.toNatClampNeg (nI l4_14))) then t_bend else (ad_yards_14 (Int32.toNatClampNeg (nI l4_14)))) _ _ _ hZ (hP.sub [0, 1, 2, 3, 4, 5, 6, 7, 8] rfl) (hD.sub [0, 1, 2, 3, 4, 5, 6, 7, 8] (by decide +kernel) rfl) hS (lv_sub hl [1, 2, 3, 4, 5, 0] rfl)
                 · exact by
                    have hZ := (if_neg c_8).symm.trans hZ
                    refine lv_aload_n hx hb dX4_walk_45 rfl (lv_at hl 0 rfl) ?_
                    refine va_get (D := D) (ci := 4) (v := .ref d_stuck) (C := RX4) (T := TX4) (N := 13) hx hb hts hi4 hown hK hP 7 rfl rfl 2 (by decide) lf18 (fun _ h9 => h9) rfl dX4_walk_46 ?_
                    refine lv_iload hx hb dX4_walk_49 (lv_at hl 4 rfl) ?_
                    refine lv_dup2_11 hx hb dX4_walk_51 rfl rfl ?_
                    refine va_iald hx hb hK hP 1 0 rfl rfl (vp_in_nI (n := l4_14) (by omega) (by omega)) dX4_walk_52 ?_
                    refine lv_iconst (v := 1) hx hb dX4_walk_53 (by decide) ?_
                    refine lv_isub hx hb dX4_walk_54 ?_
                    refine va_iast hx hb hK hP hD hS 1 0 rfl rfl (vp_in_nI (n := l4_14) (by omega) (by omega)) dX4_walk_55 (fun H locs hP hD hS => ?_)
                    exact by
                     have hP : va_P D vwCl [(d_paces, kI k 6 d_pacesF), (d_stuck, kI k 6 (upd ad_stuck_14 (Int32.toNatClampNeg (nI l4_14)) ((ad_stuck_14 (Int32.toNatClampNeg (nI l4_14))) - 1))), (d_places, kI k 6 ad_places_14), (d_cameAt, kI k 6 ad_cameAt_14), (d_hirers, kI k 6 d_hirersF), (t, kO 7 [.ref t_names, .ref t_kinds, .ref t_yards, .ref t_paces, .ref t_skills, .ref t_snow, .ref tw, .int (nI t_guests), .int (nI t_snows), .int t_bend, .int t_hour, .int (bB t_bendTold), .int (bB t_hourTold)]), (t_kinds, kI k 6 t_kindsF), (d, kO 4 [.ref d_yards, .ref d_paces, .ref d_stuck, .ref d_hirers, .ref d_places, .ref d_cameAt, .ref d_cooked, .int fd_7_14, .int d_night, .int d_minute, .int d_tasted, .int d_lastCook, .int (bB fd_12_14)]), (d_yards, kI k 6 ad_yards_14)] H := hP
                     have hD : va_D A [(d_paces, kI k 6 d_pacesF), (d_stuck, kI k 6 (upd ad_stuck_14 (Int32.toNatClampNeg (nI l4_14)) ((ad_stuck_14 (Int32.toNatClampNeg (nI l4_14))) - 1))), (d_places, kI k 6 ad_places_14), (d_cameAt, kI k 6 ad_cameAt_14), (d_hirers, kI k 6 d_hirersF), (t, kO 7 [.ref t_names, .ref t_kinds, .ref t_yards, .ref t_paces, .ref t_skills, .ref t_snow, .ref tw, .int (nI t_guests), .int (nI t_snows), .int t_bend, .int t_hour, .int (bB t_bendTold), .int (bB t_hourTold)]), (t_kinds, kI k 6 t_kindsF), (d, kO 4 [.ref d_yards, .ref d_paces, .ref d_stuck, .ref d_hirers, .ref d_places, .ref d_cameAt, .ref d_cooked, .int fd_7_14, .int d_night, .int d_minute, .int d_tasted, .int d_lastCook, .int (bB fd_12_14)]), (d_yards, kI k 6 ad_yards_14)] := hD
                     refine lv_aload_n hx hb dX4_walk_56 rfl (lv_at hl 0 rfl) ?_
                     refine lv_iconst (v := 1) hx hb dX4_walk_57 (by decide) ?_
                     refine va_put (D := D) (ci := 4) (v := .int 1) (ty := .boolean) (C := RX4) (T := TX4) (N := 13) hx hb hts hi4 tyX4 tyX4_ok nmX4 hown hK hP hD hS 7 rfl rfl 12 (by decide) lf91 (fun _ h9 => h9) rfl (by decide +kernel) rfl rfl (Nat.le_of_ble_eq_true rfl) dX4_walk_58 (fun H locs hP hD hS => ?_)
                     exact by
                      have hP : va_P D vwCl [(d_paces, kI k 6 d_pacesF), (d_stuck, kI k 6 (upd ad_stuck_14 (Int32.toNatClampNeg (nI l4_14)) ((ad_stuck_14 (Int32.toNatClampNeg (nI l4_14))) - 1))), (d_places, kI k 6 ad_places_14), (d_cameAt, kI k 6 ad_cameAt_14), (d_hirers, kI k 6 d_hirersF), (t, kO 7 [.ref t_names, .ref t_kinds, .ref t_yards, .ref t_paces, .ref t_skills, .ref t_snow, .ref tw, .int (nI t_guests), .int (nI t_snows), .int t_bend, .int t_hour, .int (bB t_bendTold), .int (bB t_hourTold)]), (t_kinds, kI k 6 t_kindsF), (d, kO 4 [.ref d_yards, .ref d_paces, .ref d_stuck, .ref d_hirers, .ref d_places, .ref d_cameAt, .ref d_cooked, .int fd_7_14, .int d_night, .int d_minute, .int d_tasted, .int d_lastCook, .int 1]), (d_yards, kI k 6 ad_yards_14)] H := hP
                      have hD : va_D A [(d_paces, kI k 6 d_pacesF), (d_stuck, kI k 6 (upd ad_stuck_14 (Int32.toNatClampNeg (nI l4_14)) ((ad_stuck_14 (Int32.toNatClampNeg (nI l4_14))) - 1))), (d_places, kI k 6 ad_places_14), (d_cameAt, kI k 6 ad_cameAt_14), (d_hirers, kI k 6 d_hirersF), (t, kO 7 [.ref t_names, .ref t_kinds, .ref t_yards, .ref t_paces, .ref t_skills, .ref t_snow, .ref tw, .int (nI t_guests), .int (nI t_snows), .int t_bend, .int t_hour, .int (bB t_bendTold), .int (bB t_hourTold)]), (t_kinds, kI k 6 t_kindsF), (d, kO 4 [.ref d_yards, .ref d_paces, .ref d_stuck, .ref d_hirers, .ref d_places, .ref d_cameAt, .ref d_cooked, .int fd_7_14, .int d_night, .int d_minute, .int d_tasted, .int d_lastCook, .int 1]), (d_yards, kI k 6 ad_yards_14)] := hD
                      refine lv_goto (tgt := 188) hx hb dX4_walk_61 (by decide) ?_
                      exact hj188_6 (upd ad_stuck_14 (Int32.toNatClampNeg (nI l4_14)) ((ad_stuck_14 (Int32.toNatClampNeg (nI l4_14))) - 1)) ad_places_14 ad_cameAt_14 fd_7_14 true ad_yards_14 _ _ _ hZ (hP.sub [0, 1, 2, 3, 4, 5, 6, 7, 8] rfl) (hD.sub [0, 1, 2, 3, 4, 5, 6, 7, 8] (by decide +kernel) rfl) hS (lv_sub hl [0, 1, 2, 3, 4] rfl)
              · exact by
                 have b_7 : u4 = false := bB_0 c_7
                 have hZ := (if_neg (bF b_7)).symm.trans hZ
                 refine lv_goto (tgt := 188) hx hb dX4_walk_32 (by decide) ?_
                 exact hj188_6 ad_stuck_14 ad_places_14 ad_cameAt_14 fd_7_14 fd_12_14 ad_yards_14 _ _ _ hZ (hP.sub [0, 1, 2, 3, 4, 5, 6, 7, 8] rfl) (hD.sub [0, 1, 2, 3, 4, 5, 6, 7, 8] (by decide +kernel) rfl) hS (lv_sub hl [0, 1, 2, 3, 4] rfl)
      exact hloop14 ((6 + 1 - 0) + 1) 0 d_stuckF d_placesF d_cameAtF d_inside false d_yardsF _ _ _ (Nat.lt_succ_self _) (by first | omega | assumption) hZ (hP.sub [0, 1, 2, 3, 4, 5, 6, 7, 8] rfl) (hD.sub [0, 1, 2, 3, 4, 5, 6, 7, 8] (by decide +kernel) rfl) hS (lv_sub hl [2, 3, 4, 1, 0] rfl)
theorem dX7_snowAt_0 : decode cX7_snowAt 0 = .ok (.aload_n 0, 1) := dk_aload_n_0 (by decide +kernel)
theorem dX7_snowAt_1 : decode cX7_snowAt 1 = .ok (.getfield 51, 3) := dk_getfield (by decide +kernel)
theorem dX7_snowAt_4 : decode cX7_snowAt 4 = .ok (.ifCond .le 21, 3) := dk_ifCond_le (by decide +kernel)
theorem dX7_snowAt_7 : decode cX7_snowAt 7 = .ok (.iload_n 1, 1) := dk_iload_n_1 (by decide +kernel)
theorem dX7_snowAt_8 : decode cX7_snowAt 8 = .ok (.ifCond .lt 17, 3) := dk_ifCond_lt (by decide +kernel)
theorem dX7_snowAt_11 : decode cX7_snowAt 11 = .ok (.aload_n 0, 1) := dk_aload_n_0 (by decide +kernel)
theorem dX7_snowAt_12 : decode cX7_snowAt 12 = .ok (.getfield 28, 3) := dk_getfield (by decide +kernel)
theorem dX7_snowAt_15 : decode cX7_snowAt 15 = .ok (.iload_n 1, 1) := dk_iload_n_1 (by decide +kernel)
theorem dX7_snowAt_16 : decode cX7_snowAt 16 = .ok (.aload_n 0, 1) := dk_aload_n_0 (by decide +kernel)
theorem dX7_snowAt_17 : decode cX7_snowAt 17 = .ok (.getfield 51, 3) := dk_getfield (by decide +kernel)
theorem dX7_snowAt_20 : decode cX7_snowAt 20 = .ok (.irem, 1) := dk_irem (by decide +kernel)
theorem dX7_snowAt_21 : decode cX7_snowAt 21 = .ok (.iaload, 1) := dk_iaload (by decide +kernel)
theorem dX7_snowAt_22 : decode cX7_snowAt 22 = .ok (.goto 4, 3) := dk_goto (by decide +kernel)
theorem dX7_snowAt_25 : decode cX7_snowAt 25 = .ok (.iconst 0, 1) := dk_iconst_0 (by decide +kernel)
theorem dX7_snowAt_26 : decode cX7_snowAt 26 = .ok (.ireturn, 1) := dk_ireturn (by decide +kernel)
set_option maxHeartbeats 4000000 in
set_option maxRecDepth 100000 in
theorem sX7_snowAt (l : Launch) (D : va_G) (k : Nat → ClassId) (sz : Nat) (t : Nat) (mi : Int32) (t_names : Nat) (t_kinds : Nat) (t_yards : Nat) (t_paces : Nat) (t_skills : Nat) (t_snow : Nat) (tw : Nat) (t_guests : Nat) (t_snows : Nat) (t_bend : Int32) (t_hour : Int32) (t_bendTold : Bool) (t_hourTold : Bool) (t_snowF : Nat → Int32) (h_t_guests : t_guests ≤ 6) (h_t_snows : t_snows ≤ 12) : Met l yX7_snowAt wsX7_snowAt ({ frames := 0, cells := 0, slots := 0, locals := 0 }) (va_Pc [.ref t, .int mi] (kz_Pre D k [(t, kO 7 [.ref t_names, .ref t_kinds, .ref t_yards, .ref t_paces, .ref t_skills, .ref t_snow, .ref tw, .int (nI t_guests), .int (nI t_snows), .int t_bend, .int t_hour, .int (bB t_bendTold), .int (bB t_hourTold)]), (t_snow, kI k 12 t_snowF)] sz)) (va_Qi (fun (rr : Int32) (uu : Unit) => ((rr) = (fX7_snowAt mi t_snows t_snowF))) (fun uu zt => kz_B D (va_A [(t, kO 7 [.ref t_names, .ref t_kinds, .ref t_yards, .ref t_paces, .ref t_skills, .ref t_snow, .ref tw, .int (nI t_guests), .int (nI t_snows), .int t_bend, .int t_hour, .int (bB t_bendTold), .int (bB t_hourTold)]), (t_snow, kI k 12 t_snowF)] sz) [(t, kO 7 [.ref t_names, .ref t_kinds, .ref t_yards, .ref t_paces, .ref t_skills, .ref t_snow, .ref tw, .int (nI t_guests), .int (nI t_snows), .int t_bend, .int t_hour, .int (bB t_bendTold), .int (bB t_hourTold)]), (t_snow, kI k 12 t_snowF)] zt) (va_A [(t, kO 7 [.ref t_names, .ref t_kinds, .ref t_yards, .ref t_paces, .ref t_skills, .ref t_snow, .ref tw, .int (nI t_guests), .int (nI t_snows), .int t_bend, .int t_hour, .int (bB t_bendTold), .int (bB t_hourTold)]), (t_snow, kI k 12 t_snowF)] sz)) 0 0 (va_A [(t, kO 7 [.ref t_names, .ref t_kinds, .ref t_yards, .ref t_paces, .ref t_skills, .ref t_snow, .ref tw, .int (nI t_guests), .int (nI t_snows), .int t_bend, .int t_hour, .int (bB t_bendTold), .int (bB t_hourTold)]), (t_snow, kI k 12 t_snowF)] sz) := by
  refine Met.ofW (cc := cX7_snowAt) (maxL := 2) (ret := (some .int)) (by decide) rfl ?_
  intro p e s m args below meth c s₁ B hml hv
  obtain ⟨hav, hsz, hP, hK, hD0, hE⟩ := hv
  have hx := B.exec
  have hb := B.bytes
  have hr := B.returns
  have hts := atoms_spec (ws := wsX7_snowAt) B.pre
  have hown : s.vm.findClass RX7 = some m.cls := findClass_of_methodNamed B.named
  have hlocks := B.notSynchronized
  have hi7 : ∀ w ∈ u_ws RX7 TX7 13, w ∈ wsX7_snowAt := fun w h9 => List.mem_cons_of_mem _ (List.mem_append_right _ h9)
  have lf51 := hts (.fieldLink RX7 51 "LastCook$Told" "snows" "I") (List.mem_cons_of_mem _ (List.mem_append_left _ (List.mem_of_getElem? (i := 0) rfl)))
  have lf28 := hts (.fieldLink RX7 28 "LastCook$Told" "snow" "[I") (List.mem_cons_of_mem _ (List.mem_append_left _ (List.mem_of_getElem? (i := 1) rfl)))
  subst hsz
  have hD := hD0.self (sz := s.heap.size)
  generalize hAe : va_A [(t, kO 7 [.ref t_names, .ref t_kinds, .ref t_yards, .ref t_paces, .ref t_skills, .ref t_snow, .ref tw, .int (nI t_guests), .int (nI t_snows), .int t_bend, .int t_hour, .int (bB t_bendTold), .int (bB t_hourTold)]), (t_snow, kI k 12 t_snowF)] s.heap.size = A at hD ⊢
  have hA : ∀ q : Nat, s.heap.size ≤ q → A q := fun q h => by rw [← hAe]; exact Or.inr h
  have hS : va_S A s.heap s.heap [] := va_S.rf
  have hl := lv_entry ([.ref t, .int mi]) (n := 2) (Nat.le_of_ble_eq_true rfl)
  rw [show entryFrame m args 2 = entryFrame m ([.ref t, .int mi] : List Value).toArray 2 by rw [hav], lg_entry_eq]
  generalize (lg_sl ([.ref t, .int mi]) ++ List.replicate (2 - (lg_sl ([.ref t, .int mi])).length) Slot.unset).toArray = ls at hl ⊢
  have hl : lv_has ls 2 [(0, .ref t), (1, .int mi)] := hl
  obtain ⟨R, hR⟩ : ∃ R, R = (headSpec wsX7_snowAt ({ frames := 0, cells := 0, slots := 0, locals := 0 } : Room)).room := ⟨_, rfl⟩
  rw [← hR]
  generalize hQ : MQ below _ args s 0 0 A = Q
  replace hQ := hQ.symm
  obtain ⟨H, hH⟩ : ∃ H, H = s.heap := ⟨_, rfl⟩
  rw [← hH] at hP ⊢
  have hS : va_S A s.heap H [] := by rw [hH]; exact hS
  obtain ⟨E0, hE0⟩ : ∃ E0 : Int32, E0 = (fX7_snowAt mi t_snows t_snowF) := ⟨_, rfl⟩
  have hZ : (fX7_snowAt mi t_snows t_snowF) = E0 := hE0.symm
  refine lv_aload_n hx hb dX7_snowAt_0 rfl (lv_at hl 0 rfl) ?_
  refine va_get (D := D) (ci := 7) (v := .int (nI t_snows)) (C := RX7) (T := TX7) (N := 13) hx hb hts hi7 hown hK hP 0 rfl rfl 8 (by decide) lf51 (fun _ h9 => h9) rfl dX7_snowAt_1 ?_
  have hj26_1 : ∀ (s0_26 : Int32) (H : Heap) (locs : List Loc) (ls : Array Slot), (fX7_snowAt_J26a s0_26 = E0) → va_P D vwCl [(t, kO 7 [.ref t_names, .ref t_kinds, .ref t_yards, .ref t_paces, .ref t_skills, .ref t_snow, .ref tw, .int (nI t_guests), .int (nI t_snows), .int t_bend, .int t_hour, .int (bB t_bendTold), .int (bB t_hourTold)]), (t_snow, kI k 12 t_snowF)] H → va_D A [(t, kO 7 [.ref t_names, .ref t_kinds, .ref t_yards, .ref t_paces, .ref t_skills, .ref t_snow, .ref tw, .int (nI t_guests), .int (nI t_snows), .int t_bend, .int t_hour, .int (bB t_bendTold), .int (bB t_hourTold)]), (t_snow, kI k 12 t_snowF)] → va_S A s.heap H locs → lv_has ls 2 [(0, .ref t), (1, .int mi)] → W p l e R s m args below meth c H locs 0 0 Q (F0 m 26 ls [.int s0_26]) := by
    intro s0_26 H locs ls hZ hP hD hS hl
    rw [hQ]
    have hP9 := hP.sub (ws' := [(t, kO 7 [.ref t_names, .ref t_kinds, .ref t_yards, .ref t_paces, .ref t_skills, .ref t_snow, .ref tw, .int (nI t_guests), .int (nI t_snows), .int t_bend, .int t_hour, .int (bB t_bendTold), .int (bB t_hourTold)]), (t_snow, kI k 12 t_snowF)]) [0, 1] rfl
    have hD9 := hD.sub (ws' := [(t, kO 7 [.ref t_names, .ref t_kinds, .ref t_yards, .ref t_paces, .ref t_skills, .ref t_snow, .ref tw, .int (nI t_guests), .int (nI t_snows), .int t_bend, .int t_hour, .int (bB t_bendTold), .int (bB t_hourTold)]), (t_snow, kI k 12 t_snowF)]) [0, 1] (by decide +kernel) rfl
    exact W.iret (v := s0_26) hx hb hr (fun zt ht hW => ⟨⟨s0_26, (), rfl, (hZ.trans hE0), by rw [ht]; exact hP9, hD9⟩, hS.F ht⟩) hS.2.2 dX7_snowAt_26
  have hj25_2 : ∀ (H : Heap) (locs : List Loc) (ls : Array Slot), (fX7_snowAt_J25a = E0) → va_P D vwCl [(t, kO 7 [.ref t_names, .ref t_kinds, .ref t_yards, .ref t_paces, .ref t_skills, .ref t_snow, .ref tw, .int (nI t_guests), .int (nI t_snows), .int t_bend, .int t_hour, .int (bB t_bendTold), .int (bB t_hourTold)]), (t_snow, kI k 12 t_snowF)] H → va_D A [(t, kO 7 [.ref t_names, .ref t_kinds, .ref t_yards, .ref t_paces, .ref t_skills, .ref t_snow, .ref tw, .int (nI t_guests), .int (nI t_snows), .int t_bend, .int t_hour, .int (bB t_bendTold), .int (bB t_hourTold)]), (t_snow, kI k 12 t_snowF)] → va_S A s.heap H locs → lv_has ls 2 [(0, .ref t), (1, .int mi)] → W p l e R s m args below meth c H locs 0 0 Q (F0 m 25 ls []) := by
    intro H locs ls hZ hP hD hS hl
    refine lv_iconst (v := 0) hx hb dX7_snowAt_25 (by decide) ?_
    exact hj26_1 (0 : Int32) _ _ _ hZ (hP.sub [0, 1] rfl) (hD.sub [0, 1] (by decide +kernel) rfl) hS (lv_sub hl [0, 1] rfl)
  refine lv_if_le (tgt := 25) hx hb dX7_snowAt_4 (by decide) (fun c_3 => ?_) (fun c_3 => ?_)
  · exact by
     have k_3 : t_snows ≤ 0 := (nI_leI (a := t_snows) (b := 0) (by omega) (by omega)).mp c_3
     have hZ := (if_pos k_3).symm.trans hZ
     exact hj25_2 _ _ _ hZ (hP.sub [0, 1] rfl) (hD.sub [0, 1] (by decide +kernel) rfl) hS (lv_sub hl [0, 1] rfl)
  · exact by
     have k_3 : ¬ (t_snows ≤ 0) := fun h => c_3 ((nI_leI (a := t_snows) (b := 0) (by omega) (by omega)).mpr h)
     have hZ := (if_neg k_3).symm.trans hZ
     refine lv_iload_n hx hb dX7_snowAt_7 rfl (lv_at hl 1 rfl) ?_
     refine lv_if_lt (tgt := 25) hx hb dX7_snowAt_8 (by decide) (fun c_4 => ?_) (fun c_4 => ?_)
     · exact by
        have t_4 : (Int32.toInt mi) < 0 := tI_lt rfl (by decide) c_4
        have hZ := (if_pos c_4).symm.trans hZ
        exact hj25_2 _ _ _ hZ (hP.sub [0, 1] rfl) (hD.sub [0, 1] (by decide +kernel) rfl) hS (lv_sub hl [0, 1] rfl)
     · exact by
        have t_4 : (Int32.toInt mi) ≥ 0 := tI_nlt rfl (by decide) c_4
        have hZ := (if_neg c_4).symm.trans hZ
        refine lv_aload_n hx hb dX7_snowAt_11 rfl (lv_at hl 0 rfl) ?_
        refine va_get (D := D) (ci := 7) (v := .ref t_snow) (C := RX7) (T := TX7) (N := 13) hx hb hts hi7 hown hK hP 0 rfl rfl 5 (by decide) lf28 (fun _ h9 => h9) rfl dX7_snowAt_12 ?_
        refine lv_iload_n hx hb dX7_snowAt_15 rfl (lv_at hl 1 rfl) ?_
        refine lv_aload_n hx hb dX7_snowAt_16 rfl (lv_at hl 0 rfl) ?_
        refine va_get (D := D) (ci := 7) (v := .int (nI t_snows)) (C := RX7) (T := TX7) (N := 13) hx hb hts hi7 hown hK hP 0 rfl rfl 8 (by decide) lf51 (fun _ h9 => h9) rfl dX7_snowAt_17 ?_
        refine lv_irem hx hb dX7_snowAt_20 (nI_ne0 (by omega) (by omega)) ?_
        have ta_5 : 0 ≤ Int32.toInt (mi - mi / (nI t_snows) * (nI t_snows)) ∧ Int32.toInt (mi - mi / (nI t_snows) * (nI t_snows)) < ((t_snows : Nat) : Int) := tI_rem2 rfl (nI_toInt (by omega)) (by omega) (by omega)
        refine va_iald hx hb hK hP 1 0 rfl rfl (vp_in_iff.mpr (by omega)) dX7_snowAt_21 ?_
        refine lv_goto (tgt := 26) hx hb dX7_snowAt_22 (by decide) ?_
        exact hj26_1 (t_snowF (Int32.toNatClampNeg (mi - mi / (nI t_snows) * (nI t_snows)))) _ _ _ hZ (hP.sub [0, 1] rfl) (hD.sub [0, 1] (by decide +kernel) rfl) hS (lv_sub hl [0, 1] rfl)
theorem dX4_beginNight_0 : decode cX4_beginNight 0 = .ok (.aload_n 0, 1) := dk_aload_n_0 (by decide +kernel)
theorem dX4_beginNight_1 : decode cX4_beginNight 1 = .ok (.iconst 0, 1) := dk_iconst_0 (by decide +kernel)
theorem dX4_beginNight_2 : decode cX4_beginNight 2 = .ok (.putfield 47, 3) := dk_putfield (by decide +kernel)
theorem dX4_beginNight_5 : decode cX4_beginNight 5 = .ok (.aload_n 0, 1) := dk_aload_n_0 (by decide +kernel)
theorem dX4_beginNight_6 : decode cX4_beginNight 6 = .ok (.iconst 0, 1) := dk_iconst_0 (by decide +kernel)
theorem dX4_beginNight_7 : decode cX4_beginNight 7 = .ok (.putfield 50, 3) := dk_putfield (by decide +kernel)
theorem dX4_beginNight_10 : decode cX4_beginNight 10 = .ok (.iconst 0, 1) := dk_iconst_0 (by decide +kernel)
theorem dX4_beginNight_11 : decode cX4_beginNight 11 = .ok (.istore_n 2, 1) := dk_istore_n_2 (by decide +kernel)
theorem dX4_beginNight_12 : decode cX4_beginNight 12 = .ok (.iload_n 2, 1) := dk_iload_n_2 (by decide +kernel)
theorem dX4_beginNight_13 : decode cX4_beginNight 13 = .ok (.bipush 6, 2) := dk_bipush (by decide +kernel)
theorem dX4_beginNight_15 : decode cX4_beginNight 15 = .ok (.if_icmp .ge 91, 3) := dk_if_icmp_ge (by decide +kernel)
theorem dX4_beginNight_18 : decode cX4_beginNight 18 = .ok (.iload_n 2, 1) := dk_iload_n_2 (by decide +kernel)
theorem dX4_beginNight_19 : decode cX4_beginNight 19 = .ok (.aload_n 1, 1) := dk_aload_n_1 (by decide +kernel)
theorem dX4_beginNight_20 : decode cX4_beginNight 20 = .ok (.getfield 53, 3) := dk_getfield (by decide +kernel)
theorem dX4_beginNight_23 : decode cX4_beginNight 23 = .ok (.if_icmp .ge 7, 3) := dk_if_icmp_ge (by decide +kernel)
theorem dX4_beginNight_26 : decode cX4_beginNight 26 = .ok (.iconst 1, 1) := dk_iconst_1 (by decide +kernel)
theorem dX4_beginNight_27 : decode cX4_beginNight 27 = .ok (.goto 4, 3) := dk_goto (by decide +kernel)
theorem dX4_beginNight_30 : decode cX4_beginNight 30 = .ok (.iconst 0, 1) := dk_iconst_0 (by decide +kernel)
theorem dX4_beginNight_31 : decode cX4_beginNight 31 = .ok (.istore_n 3, 1) := dk_istore_n_3 (by decide +kernel)
theorem dX4_beginNight_32 : decode cX4_beginNight 32 = .ok (.aload_n 0, 1) := dk_aload_n_0 (by decide +kernel)
theorem dX4_beginNight_33 : decode cX4_beginNight 33 = .ok (.getfield 9, 3) := dk_getfield (by decide +kernel)
theorem dX4_beginNight_36 : decode cX4_beginNight 36 = .ok (.iload_n 2, 1) := dk_iload_n_2 (by decide +kernel)
theorem dX4_beginNight_37 : decode cX4_beginNight 37 = .ok (.iload_n 3, 1) := dk_iload_n_3 (by decide +kernel)
theorem dX4_beginNight_38 : decode cX4_beginNight 38 = .ok (.ifCond .eq 12, 3) := dk_ifCond_eq (by decide +kernel)
theorem dX4_beginNight_41 : decode cX4_beginNight 41 = .ok (.aload_n 1, 1) := dk_aload_n_1 (by decide +kernel)
theorem dX4_beginNight_42 : decode cX4_beginNight 42 = .ok (.getfield 58, 3) := dk_getfield (by decide +kernel)
theorem dX4_beginNight_45 : decode cX4_beginNight 45 = .ok (.iload_n 2, 1) := dk_iload_n_2 (by decide +kernel)
theorem dX4_beginNight_46 : decode cX4_beginNight 46 = .ok (.iaload, 1) := dk_iaload (by decide +kernel)
theorem dX4_beginNight_47 : decode cX4_beginNight 47 = .ok (.goto 4, 3) := dk_goto (by decide +kernel)
theorem dX4_beginNight_50 : decode cX4_beginNight 50 = .ok (.iconst 0, 1) := dk_iconst_0 (by decide +kernel)
theorem dX4_beginNight_51 : decode cX4_beginNight 51 = .ok (.iastore, 1) := dk_iastore (by decide +kernel)
theorem dX4_beginNight_52 : decode cX4_beginNight 52 = .ok (.aload_n 0, 1) := dk_aload_n_0 (by decide +kernel)
theorem dX4_beginNight_53 : decode cX4_beginNight 53 = .ok (.getfield 15, 3) := dk_getfield (by decide +kernel)
theorem dX4_beginNight_56 : decode cX4_beginNight 56 = .ok (.iload_n 2, 1) := dk_iload_n_2 (by decide +kernel)
theorem dX4_beginNight_57 : decode cX4_beginNight 57 = .ok (.iload_n 3, 1) := dk_iload_n_3 (by decide +kernel)
theorem dX4_beginNight_58 : decode cX4_beginNight 58 = .ok (.ifCond .eq 12, 3) := dk_ifCond_eq (by decide +kernel)
theorem dX4_beginNight_61 : decode cX4_beginNight 61 = .ok (.aload_n 1, 1) := dk_aload_n_1 (by decide +kernel)
theorem dX4_beginNight_62 : decode cX4_beginNight 62 = .ok (.getfield 59, 3) := dk_getfield (by decide +kernel)
theorem dX4_beginNight_65 : decode cX4_beginNight 65 = .ok (.iload_n 2, 1) := dk_iload_n_2 (by decide +kernel)
theorem dX4_beginNight_66 : decode cX4_beginNight 66 = .ok (.iaload, 1) := dk_iaload (by decide +kernel)
theorem dX4_beginNight_67 : decode cX4_beginNight 67 = .ok (.goto 4, 3) := dk_goto (by decide +kernel)
theorem dX4_beginNight_70 : decode cX4_beginNight 70 = .ok (.iconst 0, 1) := dk_iconst_0 (by decide +kernel)
theorem dX4_beginNight_71 : decode cX4_beginNight 71 = .ok (.iastore, 1) := dk_iastore (by decide +kernel)
theorem dX4_beginNight_72 : decode cX4_beginNight 72 = .ok (.aload_n 0, 1) := dk_aload_n_0 (by decide +kernel)
theorem dX4_beginNight_73 : decode cX4_beginNight 73 = .ok (.getfield 18, 3) := dk_getfield (by decide +kernel)
theorem dX4_beginNight_76 : decode cX4_beginNight 76 = .ok (.iload_n 2, 1) := dk_iload_n_2 (by decide +kernel)
theorem dX4_beginNight_77 : decode cX4_beginNight 77 = .ok (.iconst 0, 1) := dk_iconst_0 (by decide +kernel)
theorem dX4_beginNight_78 : decode cX4_beginNight 78 = .ok (.iastore, 1) := dk_iastore (by decide +kernel)
theorem dX4_beginNight_79 : decode cX4_beginNight 79 = .ok (.aload_n 0, 1) := dk_aload_n_0 (by decide +kernel)
theorem dX4_beginNight_80 : decode cX4_beginNight 80 = .ok (.getfield 21, 3) := dk_getfield (by decide +kernel)
theorem dX4_beginNight_83 : decode cX4_beginNight 83 = .ok (.iload_n 2, 1) := dk_iload_n_2 (by decide +kernel)
theorem dX4_beginNight_84 : decode cX4_beginNight 84 = .ok (.iconst (-1), 1) := dk_iconst_m1 (by decide +kernel)
theorem dX4_beginNight_85 : decode cX4_beginNight 85 = .ok (.iastore, 1) := dk_iastore (by decide +kernel)
theorem dX4_beginNight_86 : decode cX4_beginNight 86 = .ok (.aload_n 0, 1) := dk_aload_n_0 (by decide +kernel)
theorem dX4_beginNight_87 : decode cX4_beginNight 87 = .ok (.getfield 24, 3) := dk_getfield (by decide +kernel)
theorem dX4_beginNight_90 : decode cX4_beginNight 90 = .ok (.iload_n 2, 1) := dk_iload_n_2 (by decide +kernel)
theorem dX4_beginNight_91 : decode cX4_beginNight 91 = .ok (.iconst (-1), 1) := dk_iconst_m1 (by decide +kernel)
theorem dX4_beginNight_92 : decode cX4_beginNight 92 = .ok (.iastore, 1) := dk_iastore (by decide +kernel)
theorem dX4_beginNight_93 : decode cX4_beginNight 93 = .ok (.aload_n 0, 1) := dk_aload_n_0 (by decide +kernel)
theorem dX4_beginNight_94 : decode cX4_beginNight 94 = .ok (.getfield 27, 3) := dk_getfield (by decide +kernel)
theorem dX4_beginNight_97 : decode cX4_beginNight 97 = .ok (.iload_n 2, 1) := dk_iload_n_2 (by decide +kernel)
theorem dX4_beginNight_98 : decode cX4_beginNight 98 = .ok (.iconst (-1), 1) := dk_iconst_m1 (by decide +kernel)
theorem dX4_beginNight_99 : decode cX4_beginNight 99 = .ok (.iastore, 1) := dk_iastore (by decide +kernel)
theorem dX4_beginNight_100 : decode cX4_beginNight 100 = .ok (.iinc 2 1, 3) := dk_iinc (by decide +kernel)
theorem dX4_beginNight_103 : decode cX4_beginNight 103 = .ok (.goto (-91), 3) := dk_goto (by decide +kernel)
theorem dX4_beginNight_106 : decode cX4_beginNight 106 = .ok (.return_, 1) := dk_return_ (by decide +kernel)
set_option maxHeartbeats 4000000 in
set_option maxRecDepth 100000 in
theorem sX4_beginNight (l : Launch) (D : va_G) (k : Nat → ClassId) (sz : Nat) (d : Nat) (t : Nat) (d_yards : Nat) (d_paces : Nat) (d_stuck : Nat) (d_hirers : Nat) (d_places : Nat) (d_cameAt : Nat) (d_cooked : Nat) (d_inside : Int32) (d_night : Int32) (d_minute : Int32) (d_tasted : Int32) (d_lastCook : Int32) (d_stirred : Bool) (d_yardsF : Nat → Int32) (d_pacesF : Nat → Int32) (d_stuckF : Nat → Int32) (d_hirersF : Nat → Int32) (d_placesF : Nat → Int32) (d_cameAtF : Nat → Int32) (t_names : Nat) (t_kinds : Nat) (t_yards : Nat) (t_paces : Nat) (t_skills : Nat) (t_snow : Nat) (tw : Nat) (t_guests : Nat) (t_snows : Nat) (t_bend : Int32) (t_hour : Int32) (t_bendTold : Bool) (t_hourTold : Bool) (t_yardsF : Nat → Int32) (t_pacesF : Nat → Int32) (h_t_guests : t_guests ≤ 6) (h_t_snows : t_snows ≤ 12) : Met l yX4_beginNight wsX4_beginNight ({ frames := 0, cells := 0, slots := 0, locals := 0 }) (va_Pc [.ref d, .ref t] (kz_Pre D k [(d, kO 4 [.ref d_yards, .ref d_paces, .ref d_stuck, .ref d_hirers, .ref d_places, .ref d_cameAt, .ref d_cooked, .int d_inside, .int d_night, .int d_minute, .int d_tasted, .int d_lastCook, .int (bB d_stirred)]), (d_yards, kI k 6 d_yardsF), (d_paces, kI k 6 d_pacesF), (d_stuck, kI k 6 d_stuckF), (d_hirers, kI k 6 d_hirersF), (d_places, kI k 6 d_placesF), (d_cameAt, kI k 6 d_cameAtF), (t, kO 7 [.ref t_names, .ref t_kinds, .ref t_yards, .ref t_paces, .ref t_skills, .ref t_snow, .ref tw, .int (nI t_guests), .int (nI t_snows), .int t_bend, .int t_hour, .int (bB t_bendTold), .int (bB t_hourTold)]), (t_yards, kI k 6 t_yardsF), (t_paces, kI k 6 t_pacesF)] sz)) (va_Qv (fun (uu : Int32 × Int32 × (Nat → Int32) × (Nat → Int32) × (Nat → Int32) × (Nat → Int32) × (Nat → Int32) × (Nat → Int32)) => ((uu.1, uu.2.1, uu.2.2.1, uu.2.2.2.1, uu.2.2.2.2.1, uu.2.2.2.2.2.1, uu.2.2.2.2.2.2.1, uu.2.2.2.2.2.2.2) = (fX4_beginNight d_yardsF d_pacesF d_stuckF d_hirersF d_placesF d_cameAtF t_guests t_yardsF t_pacesF))) (fun uu zt => kz_B D (va_A [(d, kO 4 [.ref d_yards, .ref d_paces, .ref d_stuck, .ref d_hirers, .ref d_places, .ref d_cameAt, .ref d_cooked, .int d_inside, .int d_night, .int d_minute, .int d_tasted, .int d_lastCook, .int (bB d_stirred)]), (d_yards, kI k 6 d_yardsF), (d_paces, kI k 6 d_pacesF), (d_stuck, kI k 6 d_stuckF), (d_hirers, kI k 6 d_hirersF), (d_places, kI k 6 d_placesF), (d_cameAt, kI k 6 d_cameAtF), (t, kO 7 [.ref t_names, .ref t_kinds, .ref t_yards, .ref t_paces, .ref t_skills, .ref t_snow, .ref tw, .int (nI t_guests), .int (nI t_snows), .int t_bend, .int t_hour, .int (bB t_bendTold), .int (bB t_hourTold)]), (t_yards, kI k 6 t_yardsF), (t_paces, kI k 6 t_pacesF)] sz) [(d, kO 4 [.ref d_yards, .ref d_paces, .ref d_stuck, .ref d_hirers, .ref d_places, .ref d_cameAt, .ref d_cooked, .int uu.1, .int d_night, .int uu.2.1, .int d_tasted, .int d_lastCook, .int (bB d_stirred)]), (d_yards, kI k 6 uu.2.2.1), (d_paces, kI k 6 uu.2.2.2.1), (d_stuck, kI k 6 uu.2.2.2.2.1), (d_hirers, kI k 6 uu.2.2.2.2.2.1), (d_places, kI k 6 uu.2.2.2.2.2.2.1), (d_cameAt, kI k 6 uu.2.2.2.2.2.2.2), (t, kO 7 [.ref t_names, .ref t_kinds, .ref t_yards, .ref t_paces, .ref t_skills, .ref t_snow, .ref tw, .int (nI t_guests), .int (nI t_snows), .int t_bend, .int t_hour, .int (bB t_bendTold), .int (bB t_hourTold)]), (t_yards, kI k 6 t_yardsF), (t_paces, kI k 6 t_pacesF)] zt) (va_A [(d, kO 4 [.ref d_yards, .ref d_paces, .ref d_stuck, .ref d_hirers, .ref d_places, .ref d_cameAt, .ref d_cooked, .int d_inside, .int d_night, .int d_minute, .int d_tasted, .int d_lastCook, .int (bB d_stirred)]), (d_yards, kI k 6 d_yardsF), (d_paces, kI k 6 d_pacesF), (d_stuck, kI k 6 d_stuckF), (d_hirers, kI k 6 d_hirersF), (d_places, kI k 6 d_placesF), (d_cameAt, kI k 6 d_cameAtF), (t, kO 7 [.ref t_names, .ref t_kinds, .ref t_yards, .ref t_paces, .ref t_skills, .ref t_snow, .ref tw, .int (nI t_guests), .int (nI t_snows), .int t_bend, .int t_hour, .int (bB t_bendTold), .int (bB t_hourTold)]), (t_yards, kI k 6 t_yardsF), (t_paces, kI k 6 t_pacesF)] sz)) 0 0 (va_A [(d, kO 4 [.ref d_yards, .ref d_paces, .ref d_stuck, .ref d_hirers, .ref d_places, .ref d_cameAt, .ref d_cooked, .int d_inside, .int d_night, .int d_minute, .int d_tasted, .int d_lastCook, .int (bB d_stirred)]), (d_yards, kI k 6 d_yardsF), (d_paces, kI k 6 d_pacesF), (d_stuck, kI k 6 d_stuckF), (d_hirers, kI k 6 d_hirersF), (d_places, kI k 6 d_placesF), (d_cameAt, kI k 6 d_cameAtF), (t, kO 7 [.ref t_names, .ref t_kinds, .ref t_yards, .ref t_paces, .ref t_skills, .ref t_snow, .ref tw, .int (nI t_guests), .int (nI t_snows), .int t_bend, .int t_hour, .int (bB t_bendTold), .int (bB t_hourTold)]), (t_yards, kI k 6 t_yardsF), (t_paces, kI k 6 t_pacesF)] sz) := by
  refine Met.ofW (cc := cX4_beginNight) (maxL := 4) (ret := none) (by decide) rfl ?_
  intro p e s m args below meth c s₁ B hml hv
  obtain ⟨hav, hsz, hP, hK, hD0, hE⟩ := hv
  have hx := B.exec
  have hb := B.bytes
  have hr := B.returns
  have hts := atoms_spec (ws := wsX4_beginNight) B.pre
  have hown : s.vm.findClass RX4 = some m.cls := findClass_of_methodNamed B.named
  have hlocks := B.notSynchronized
  have hi4 : ∀ w ∈ u_ws RX4 TX4 13, w ∈ wsX4_beginNight := fun w h9 => List.mem_cons_of_mem _ (List.mem_append_left _ (List.mem_append_right _ h9))
  have hi7 : ∀ w ∈ u_ws RX7 TX7 13, w ∈ wsX4_beginNight := fun w h9 => List.mem_cons_of_mem _ (List.mem_append_right _ h9)
  have lf47 := hts (.fieldLink RX4 47 "LastCook$Road" "minute" "I") (List.mem_cons_of_mem _ (List.mem_append_left _ (List.mem_append_left _ (List.mem_of_getElem? (i := 0) rfl))))
  have lf50 := hts (.fieldLink RX4 50 "LastCook$Road" "inside" "I") (List.mem_cons_of_mem _ (List.mem_append_left _ (List.mem_append_left _ (List.mem_of_getElem? (i := 1) rfl))))
  have lf53 := hts (.fieldLink RX4 53 "LastCook$Told" "guests" "I") (List.mem_cons_of_mem _ (List.mem_append_left _ (List.mem_append_left _ (List.mem_of_getElem? (i := 2) rfl))))
  have lf9 := hts (.fieldLink RX4 9 "LastCook$Road" "yards" "[I") (List.mem_cons_of_mem _ (List.mem_append_left _ (List.mem_append_left _ (List.mem_of_getElem? (i := 3) rfl))))
  have lf15 := hts (.fieldLink RX4 15 "LastCook$Road" "paces" "[I") (List.mem_cons_of_mem _ (List.mem_append_left _ (List.mem_append_left _ (List.mem_of_getElem? (i := 5) rfl))))
  have lf18 := hts (.fieldLink RX4 18 "LastCook$Road" "stuck" "[I") (List.mem_cons_of_mem _ (List.mem_append_left _ (List.mem_append_left _ (List.mem_of_getElem? (i := 7) rfl))))
  have lf21 := hts (.fieldLink RX4 21 "LastCook$Road" "hirers" "[I") (List.mem_cons_of_mem _ (List.mem_append_left _ (List.mem_append_left _ (List.mem_of_getElem? (i := 8) rfl))))
  have lf24 := hts (.fieldLink RX4 24 "LastCook$Road" "places" "[I") (List.mem_cons_of_mem _ (List.mem_append_left _ (List.mem_append_left _ (List.mem_of_getElem? (i := 9) rfl))))
  have lf27 := hts (.fieldLink RX4 27 "LastCook$Road" "cameAt" "[I") (List.mem_cons_of_mem _ (List.mem_append_left _ (List.mem_append_left _ (List.mem_of_getElem? (i := 10) rfl))))
  have lf59 := hts (.fieldLink RX4 59 "LastCook$Told" "paces" "[I") (List.mem_cons_of_mem _ (List.mem_append_left _ (List.mem_append_left _ (List.mem_of_getElem? (i := 6) rfl))))
  have lf58 := hts (.fieldLink RX4 58 "LastCook$Told" "yards" "[I") (List.mem_cons_of_mem _ (List.mem_append_left _ (List.mem_append_left _ (List.mem_of_getElem? (i := 4) rfl))))
  subst hsz
  have hD := hD0.self (sz := s.heap.size)
  generalize hAe : va_A [(d, kO 4 [.ref d_yards, .ref d_paces, .ref d_stuck, .ref d_hirers, .ref d_places, .ref d_cameAt, .ref d_cooked, .int d_inside, .int d_night, .int d_minute, .int d_tasted, .int d_lastCook, .int (bB d_stirred)]), (d_yards, kI k 6 d_yardsF), (d_paces, kI k 6 d_pacesF), (d_stuck, kI k 6 d_stuckF), (d_hirers, kI k 6 d_hirersF), (d_places, kI k 6 d_placesF), (d_cameAt, kI k 6 d_cameAtF), (t, kO 7 [.ref t_names, .ref t_kinds, .ref t_yards, .ref t_paces, .ref t_skills, .ref t_snow, .ref tw, .int (nI t_guests), .int (nI t_snows), .int t_bend, .int t_hour, .int (bB t_bendTold), .int (bB t_hourTold)]), (t_yards, kI k 6 t_yardsF), (t_paces, kI k 6 t_pacesF)] s.heap.size = A at hD ⊢
  have hA : ∀ q : Nat, s.heap.size ≤ q → A q := fun q h => by rw [← hAe]; exact Or.inr h
  have hS : va_S A s.heap s.heap [] := va_S.rf
  have hl := lv_entry ([.ref d, .ref t]) (n := 4) (Nat.le_of_ble_eq_true rfl)
  rw [show entryFrame m args 4 = entryFrame m ([.ref d, .ref t] : List Value).toArray 4 by rw [hav], lg_entry_eq]
  generalize (lg_sl ([.ref d, .ref t]) ++ List.replicate (4 - (lg_sl ([.ref d, .ref t])).length) Slot.unset).toArray = ls at hl ⊢
  have hl : lv_has ls 4 [(0, .ref d), (1, .ref t)] := hl
  obtain ⟨R, hR⟩ : ∃ R, R = (headSpec wsX4_beginNight ({ frames := 0, cells := 0, slots := 0, locals := 0 } : Room)).room := ⟨_, rfl⟩
  rw [← hR]
  generalize hQ : MQ below _ args s 0 0 A = Q
  replace hQ := hQ.symm
  obtain ⟨H, hH⟩ : ∃ H, H = s.heap := ⟨_, rfl⟩
  rw [← hH] at hP ⊢
  have hS : va_S A s.heap H [] := by rw [hH]; exact hS
  obtain ⟨E0, hE0⟩ : ∃ E0 : Int32 × Int32 × (Nat → Int32) × (Nat → Int32) × (Nat → Int32) × (Nat → Int32) × (Nat → Int32) × (Nat → Int32), E0 = (fX4_beginNight d_yardsF d_pacesF d_stuckF d_hirersF d_placesF d_cameAtF t_guests t_yardsF t_pacesF) := ⟨_, rfl⟩
  have hZ : (fX4_beginNight d_yardsF d_pacesF d_stuckF d_hirersF d_placesF d_cameAtF t_guests t_yardsF t_pacesF) = E0 := hE0.symm
  refine lv_aload_n hx hb dX4_beginNight_0 rfl (lv_at hl 0 rfl) ?_
  refine lv_iconst (v := 0) hx hb dX4_beginNight_1 (by decide) ?_
  refine va_put (D := D) (ci := 4) (v := .int 0) (ty := .int) (C := RX4) (T := TX4) (N := 13) hx hb hts hi4 tyX4 tyX4_ok nmX4 hown hK hP hD hS 0 rfl rfl 9 (by decide) lf47 (fun _ h9 => h9) rfl (by decide +kernel) rfl rfl (Nat.le_of_ble_eq_true rfl) dX4_beginNight_2 (fun H locs hP hD hS => ?_)
  exact by
   have hP : va_P D vwCl [(d, kO 4 [.ref d_yards, .ref d_paces, .ref d_stuck, .ref d_hirers, .ref d_places, .ref d_cameAt, .ref d_cooked, .int d_inside, .int d_night, .int 0, .int d_tasted, .int d_lastCook, .int (bB d_stirred)]), (d_yards, kI k 6 d_yardsF), (d_paces, kI k 6 d_pacesF), (d_stuck, kI k 6 d_stuckF), (d_hirers, kI k 6 d_hirersF), (d_places, kI k 6 d_placesF), (d_cameAt, kI k 6 d_cameAtF), (t, kO 7 [.ref t_names, .ref t_kinds, .ref t_yards, .ref t_paces, .ref t_skills, .ref t_snow, .ref tw, .int (nI t_guests), .int (nI t_snows), .int t_bend, .int t_hour, .int (bB t_bendTold), .int (bB t_hourTold)]), (t_yards, kI k 6 t_yardsF), (t_paces, kI k 6 t_pacesF)] H := hP
   have hD : va_D A [(d, kO 4 [.ref d_yards, .ref d_paces, .ref d_stuck, .ref d_hirers, .ref d_places, .ref d_cameAt, .ref d_cooked, .int d_inside, .int d_night, .int 0, .int d_tasted, .int d_lastCook, .int (bB d_stirred)]), (d_yards, kI k 6 d_yardsF), (d_paces, kI k 6 d_pacesF), (d_stuck, kI k 6 d_stuckF), (d_hirers, kI k 6 d_hirersF), (d_places, kI k 6 d_placesF), (d_cameAt, kI k 6 d_cameAtF), (t, kO 7 [.ref t_names, .ref t_kinds, .ref t_yards, .ref t_paces, .ref t_skills, .ref t_snow, .ref tw, .int (nI t_guests), .int (nI t_snows), .int t_bend, .int t_hour, .int (bB t_bendTold), .int (bB t_hourTold)]), (t_yards, kI k 6 t_yardsF), (t_paces, kI k 6 t_pacesF)] := hD
   refine lv_aload_n hx hb dX4_beginNight_5 rfl (lv_at hl 0 rfl) ?_
   refine lv_iconst (v := 0) hx hb dX4_beginNight_6 (by decide) ?_
   refine va_put (D := D) (ci := 4) (v := .int 0) (ty := .int) (C := RX4) (T := TX4) (N := 13) hx hb hts hi4 tyX4 tyX4_ok nmX4 hown hK hP hD hS 0 rfl rfl 7 (by decide) lf50 (fun _ h9 => h9) rfl (by decide +kernel) rfl rfl (Nat.le_of_ble_eq_true rfl) dX4_beginNight_7 (fun H locs hP hD hS => ?_)
   exact by
    have hP : va_P D vwCl [(d, kO 4 [.ref d_yards, .ref d_paces, .ref d_stuck, .ref d_hirers, .ref d_places, .ref d_cameAt, .ref d_cooked, .int 0, .int d_night, .int 0, .int d_tasted, .int d_lastCook, .int (bB d_stirred)]), (d_yards, kI k 6 d_yardsF), (d_paces, kI k 6 d_pacesF), (d_stuck, kI k 6 d_stuckF), (d_hirers, kI k 6 d_hirersF), (d_places, kI k 6 d_placesF), (d_cameAt, kI k 6 d_cameAtF), (t, kO 7 [.ref t_names, .ref t_kinds, .ref t_yards, .ref t_paces, .ref t_skills, .ref t_snow, .ref tw, .int (nI t_guests), .int (nI t_snows), .int t_bend, .int t_hour, .int (bB t_bendTold), .int (bB t_hourTold)]), (t_yards, kI k 6 t_yardsF), (t_paces, kI k 6 t_pacesF)] H := hP
    have hD : va_D A [(d, kO 4 [.ref d_yards, .ref d_paces, .ref d_stuck, .ref d_hirers, .ref d_places, .ref d_cameAt, .ref d_cooked, .int 0, .int d_night, .int 0, .int d_tasted, .int d_lastCook, .int (bB d_stirred)]), (d_yards, kI k 6 d_yardsF), (d_paces, kI k 6 d_pacesF), (d_stuck, kI k 6 d_stuckF), (d_hirers, kI k 6 d_hirersF), (d_places, kI k 6 d_placesF), (d_cameAt, kI k 6 d_cameAtF), (t, kO 7 [.ref t_names, .ref t_kinds, .ref t_yards, .ref t_paces, .ref t_skills, .ref t_snow, .ref tw, .int (nI t_guests), .int (nI t_snows), .int t_bend, .int t_hour, .int (bB t_bendTold), .int (bB t_hourTold)]), (t_yards, kI k 6 t_yardsF), (t_paces, kI k 6 t_pacesF)] := hD
    refine lv_iconst (v := 0) hx hb dX4_beginNight_10 (by decide) ?_
    refine lv_istore_n (lv' := [(2, .int 0), (0, .ref d), (1, .ref t)]) hx hb dX4_beginNight_11 rfl hl (by decide) rfl (fun ls hl => ?_)
    exact by
     have hloop12 : ∀ (nq : Nat) (l2_12 : Nat) (ad_yards_12 : Nat → Int32) (ad_paces_12 : Nat → Int32) (ad_stuck_12 : Nat → Int32) (ad_hirers_12 : Nat → Int32) (ad_places_12 : Nat → Int32) (ad_cameAt_12 : Nat → Int32) (H : Heap) (locs : List Loc) (ls : Array Slot), (6 + 1 - l2_12) < nq → (l2_12 ≤ 6) → (lp (fun _ _ _ _ _ _ _ => ((0 : Int32), (0 : Int32), (fun _ => 0), (fun _ => 0), (fun _ => 0), (fun _ => 0), (fun _ => 0), (fun _ => 0))) (fX4_beginNight_B12a t_guests t_yardsF t_pacesF) nq l2_12 ad_yards_12 ad_paces_12 ad_stuck_12 ad_hirers_12 ad_places_12 ad_cameAt_12 = E0) → va_P D vwCl [(d, kO 4 [.ref d_yards, .ref d_paces, .ref d_stuck, .ref d_hirers, .ref d_places, .ref d_cameAt, .ref d_cooked, .int 0, .int d_night, .int 0, .int d_tasted, .int d_lastCook, .int (bB d_stirred)]), (d_yards, kI k 6 ad_yards_12), (d_paces, kI k 6 ad_paces_12), (d_stuck, kI k 6 ad_stuck_12), (d_hirers, kI k 6 ad_hirers_12), (d_places, kI k 6 ad_places_12), (d_cameAt, kI k 6 ad_cameAt_12), (t, kO 7 [.ref t_names, .ref t_kinds, .ref t_yards, .ref t_paces, .ref t_skills, .ref t_snow, .ref tw, .int (nI t_guests), .int (nI t_snows), .int t_bend, .int t_hour, .int (bB t_bendTold), .int (bB t_hourTold)]), (t_yards, kI k 6 t_yardsF), (t_paces, kI k 6 t_pacesF)] H → va_D A [(d, kO 4 [.ref d_yards, .ref d_paces, .ref d_stuck, .ref d_hirers, .ref d_places, .ref d_cameAt, .ref d_cooked, .int 0, .int d_night, .int 0, .int d_tasted, .int d_lastCook, .int (bB d_stirred)]), (d_yards, kI k 6 ad_yards_12), (d_paces, kI k 6 ad_paces_12), (d_stuck, kI k 6 ad_stuck_12), (d_hirers, kI k 6 ad_hirers_12), (d_places, kI k 6 ad_places_12), (d_cameAt, kI k 6 ad_cameAt_12), (t, kO 7 [.ref t_names, .ref t_kinds, .ref t_yards, .ref t_paces, .ref t_skills, .ref t_snow, .ref tw, .int (nI t_guests), .int (nI t_snows), .int t_bend, .int t_hour, .int (bB t_bendTold), .int (bB t_hourTold)]), (t_yards, kI k 6 t_yardsF), (t_paces, kI k 6 t_pacesF)] → va_S A s.heap H locs → lv_has ls 4 [(0, .ref d), (1, .ref t), (2, .int (nI l2_12))] → W p l e R s m args below meth c H locs 0 0 Q (F0 m 12 ls []) := by
       intro n12
       induction n12 with
       | zero => intro l2_12 ad_yards_12 ad_paces_12 ad_stuck_12 ad_hirers_12 ad_places_12 ad_cameAt_12 H locs ls hm; exact absurd hm (Nat.not_lt_zero _)
       | succ n12 ih12 =>
         intro l2_12 ad_yards_12 ad_paces_12 ad_stuck_12 ad_hirers_12 ad_places_12 ad_cameAt_12 H locs ls hm12 i_l2_12 hZ hP hD hS hl
         obtain ⟨rc12_1, hrc12_1⟩ : ∃ r : Nat → (Nat → Int32) → (Nat → Int32) → (Nat → Int32) → (Nat → Int32) → (Nat → Int32) → (Nat → Int32) → Int32 × Int32 × (Nat → Int32) × (Nat → Int32) × (Nat → Int32) × (Nat → Int32) × (Nat → Int32) × (Nat → Int32), r = lp (fun _ _ _ _ _ _ _ => ((0 : Int32), (0 : Int32), (fun _ => 0), (fun _ => 0), (fun _ => 0), (fun _ => 0), (fun _ => 0), (fun _ => 0))) (fX4_beginNight_B12a t_guests t_yardsF t_pacesF) n12 := ⟨_, rfl⟩
         have hZ : (fX4_beginNight_B12a t_guests t_yardsF t_pacesF) rc12_1 l2_12 ad_yards_12 ad_paces_12 ad_stuck_12 ad_hirers_12 ad_places_12 ad_cameAt_12 = E0 := by rw [hrc12_1]; exact hZ
         refine lv_iload_n hx hb dX4_beginNight_12 rfl (lv_at hl 2 rfl) ?_
         refine lv_bipush (v := 6) hx hb dX4_beginNight_13 (by decide) ?_
         refine lv_icmp_ge (tgt := 106) hx hb dX4_beginNight_15 (by decide) (fun c_2 => ?_) (fun c_2 => ?_)
         · exact by
            have k_2 : 6 ≤ l2_12 := (nI_leI (a := 6) (b := l2_12) (by omega) (by omega)).mp c_2
            have hZ := (if_pos k_2).symm.trans hZ
            rw [hQ]
            have hP9 := hP.sub (ws' := [(d, kO 4 [.ref d_yards, .ref d_paces, .ref d_stuck, .ref d_hirers, .ref d_places, .ref d_cameAt, .ref d_cooked, .int (0 : Int32), .int d_night, .int (0 : Int32), .int d_tasted, .int d_lastCook, .int (bB d_stirred)]), (d_yards, kI k 6 ad_yards_12), (d_paces, kI k 6 ad_paces_12), (d_stuck, kI k 6 ad_stuck_12), (d_hirers, kI k 6 ad_hirers_12), (d_places, kI k 6 ad_places_12), (d_cameAt, kI k 6 ad_cameAt_12), (t, kO 7 [.ref t_names, .ref t_kinds, .ref t_yards, .ref t_paces, .ref t_skills, .ref t_snow, .ref tw, .int (nI t_guests), .int (nI t_snows), .int t_bend, .int t_hour, .int (bB t_bendTold), .int (bB t_hourTold)]), (t_yards, kI k 6 t_yardsF), (t_paces, kI k 6 t_pacesF)]) [0, 1, 2, 3, 4, 5, 6, 7, 8, 9] rfl
            have hD9 := hD.sub (ws' := [(d, kO 4 [.ref d_yards, .ref d_paces, .ref d_stuck, .ref d_hirers, .ref d_places, .ref d_cameAt, .ref d_cooked, .int (0 : Int32), .int d_night, .int (0 : Int32), .int d_tasted, .int d_lastCook, .int (bB d_stirred)]), (d_yards, kI k 6 ad_yards_12), (d_paces, kI k 6 ad_paces_12), (d_stuck, kI k 6 ad_stuck_12), (d_hirers, kI k 6 ad_hirers_12), (d_places, kI k 6 ad_places_12), (d_cameAt, kI k 6 ad_cameAt_12), (t, kO 7 [.ref t_names, .ref t_kinds, .ref t_yards, .ref t_paces, .ref t_skills, .ref t_snow, .ref tw, .int (nI t_guests), .int (nI t_snows), .int t_bend, .int t_hour, .int (bB t_bendTold), .int (bB t_hourTold)]), (t_yards, kI k 6 t_yardsF), (t_paces, kI k 6 t_pacesF)]) [0, 1, 2, 3, 4, 5, 6, 7, 8, 9] (by decide +kernel) rfl
            exact W.vret hx hb hr (fun zt ht hW => ⟨⟨⟨(0 : Int32), (0 : Int32), ad_yards_12, ad_paces_12, ad_stuck_12, ad_hirers_12, ad_places_12, ad_cameAt_12⟩, rfl, (hZ.trans hE0), by rw [ht]; exact hP9, hD9⟩, hS.F ht⟩) hS.2.2 dX4_beginNight_106
         · exact by
            have k_2 : ¬ (6 ≤ l2_12) := fun h => c_2 ((nI_leI (a := 6) (b := l2_12) (by omega) (by omega)).mpr h)
            have hZ := (if_neg k_2).symm.trans hZ
            refine lv_iload_n hx hb dX4_beginNight_18 rfl (lv_at hl 2 rfl) ?_
            refine lv_aload_n hx hb dX4_beginNight_19 rfl (lv_at hl 1 rfl) ?_
            refine va_get (D := D) (ci := 7) (v := .int (nI t_guests)) (C := RX7) (T := TX7) (N := 13) hx hb hts hi7 hown hK hP 7 rfl rfl 7 (by decide) lf53 (fun _ h9 => h9) rfl dX4_beginNight_20 ?_
            have hj31_3 : ∀ (s0_31 : Bool) (H : Heap) (locs : List Loc) (ls : Array Slot), ((fX4_beginNight_J31a t_yardsF t_pacesF l2_12 ad_yards_12 ad_paces_12 ad_stuck_12 ad_hirers_12 ad_places_12 ad_cameAt_12 rc12_1) s0_31 = E0) → va_P D vwCl [(d, kO 4 [.ref d_yards, .ref d_paces, .ref d_stuck, .ref d_hirers, .ref d_places, .ref d_cameAt, .ref d_cooked, .int 0, .int d_night, .int 0, .int d_tasted, .int d_lastCook, .int (bB d_stirred)]), (d_yards, kI k 6 ad_yards_12), (d_paces, kI k 6 ad_paces_12), (d_stuck, kI k 6 ad_stuck_12), (d_hirers, kI k 6 ad_hirers_12), (d_places, kI k 6 ad_places_12), (d_cameAt, kI k 6 ad_cameAt_12), (t, kO 7 [.ref t_names, .ref t_kinds, .ref t_yards, .ref t_paces, .ref t_skills, .ref t_snow, .ref tw, .int (nI t_guests), .int (nI t_snows), .int t_bend, .int t_hour, .int (bB t_bendTold), .int (bB t_hourTold)]), (t_yards, kI k 6 t_yardsF), (t_paces, kI k 6 t_pacesF)] H → va_D A [(d, kO 4 [.ref d_yards, .ref d_paces, .ref d_stuck, .ref d_hirers, .ref d_places, .ref d_cameAt, .ref d_cooked, .int 0, .int d_night, .int 0, .int d_tasted, .int d_lastCook, .int (bB d_stirred)]), (d_yards, kI k 6 ad_yards_12), (d_paces, kI k 6 ad_paces_12), (d_stuck, kI k 6 ad_stuck_12), (d_hirers, kI k 6 ad_hirers_12), (d_places, kI k 6 ad_places_12), (d_cameAt, kI k 6 ad_cameAt_12), (t, kO 7 [.ref t_names, .ref t_kinds, .ref t_yards, .ref t_paces, .ref t_skills, .ref t_snow, .ref tw, .int (nI t_guests), .int (nI t_snows), .int t_bend, .int t_hour, .int (bB t_bendTold), .int (bB t_hourTold)]), (t_yards, kI k 6 t_yardsF), (t_paces, kI k 6 t_pacesF)] → va_S A s.heap H locs → lv_has ls 4 [(0, .ref d), (1, .ref t), (2, .int (nI l2_12))] → W p l e R s m args below meth c H locs 0 0 Q (F0 m 31 ls [.int (bB s0_31)]) := by
              intro s0_31 H locs ls hZ hP hD hS hl
              refine lv_istore_n (lv' := [(3, .int (bB s0_31)), (0, .ref d), (1, .ref t), (2, .int (nI l2_12))]) hx hb dX4_beginNight_31 rfl hl (by decide) rfl (fun ls hl => ?_)
              exact by
               refine lv_aload_n hx hb dX4_beginNight_32 rfl (lv_at hl 1 rfl) ?_
               refine va_get (D := D) (ci := 4) (v := .ref d_yards) (C := RX4) (T := TX4) (N := 13) hx hb hts hi4 hown hK hP 0 rfl rfl 0 (by decide) lf9 (fun _ h9 => h9) rfl dX4_beginNight_33 ?_
               refine lv_iload_n hx hb dX4_beginNight_36 rfl (lv_at hl 3 rfl) ?_
               refine lv_iload_n hx hb dX4_beginNight_37 rfl (lv_at hl 0 rfl) ?_
               have hj51_4 : ∀ (s2_51 : Int32) (H : Heap) (locs : List Loc) (ls : Array Slot), ((fX4_beginNight_J51a t_pacesF l2_12 ad_yards_12 ad_paces_12 ad_stuck_12 ad_hirers_12 ad_places_12 ad_cameAt_12 rc12_1 s0_31) s2_51 = E0) → va_P D vwCl [(d, kO 4 [.ref d_yards, .ref d_paces, .ref d_stuck, .ref d_hirers, .ref d_places, .ref d_cameAt, .ref d_cooked, .int 0, .int d_night, .int 0, .int d_tasted, .int d_lastCook, .int (bB d_stirred)]), (d_yards, kI k 6 ad_yards_12), (d_paces, kI k 6 ad_paces_12), (d_stuck, kI k 6 ad_stuck_12), (d_hirers, kI k 6 ad_hirers_12), (d_places, kI k 6 ad_places_12), (d_cameAt, kI k 6 ad_cameAt_12), (t, kO 7 [.ref t_names, .ref t_kinds, .ref t_yards, .ref t_paces, .ref t_skills, .ref t_snow, .ref tw, .int (nI t_guests), .int (nI t_snows), .int t_bend, .int t_hour, .int (bB t_bendTold), .int (bB t_hourTold)]), (t_yards, kI k 6 t_yardsF), (t_paces, kI k 6 t_pacesF)] H → va_D A [(d, kO 4 [.ref d_yards, .ref d_paces, .ref d_stuck, .ref d_hirers, .ref d_places, .ref d_cameAt, .ref d_cooked, .int 0, .int d_night, .int 0, .int d_tasted, .int d_lastCook, .int (bB d_stirred)]), (d_yards, kI k 6 ad_yards_12), (d_paces, kI k 6 ad_paces_12), (d_stuck, kI k 6 ad_stuck_12), (d_hirers, kI k 6 ad_hirers_12), (d_places, kI k 6 ad_places_12), (d_cameAt, kI k 6 ad_cameAt_12), (t, kO 7 [.ref t_names, .ref t_kinds, .ref t_yards, .ref t_paces, .ref t_skills, .ref t_snow, .ref tw, .int (nI t_guests), .int (nI t_snows), .int t_bend, .int t_hour, .int (bB t_bendTold), .int (bB t_hourTold)]), (t_yards, kI k 6 t_yardsF), (t_paces, kI k 6 t_pacesF)] → va_S A s.heap H locs → lv_has ls 4 [(0, .ref d), (1, .ref t), (2, .int (nI l2_12)), (3, .int (bB s0_31))] → W p l e R s m args below meth c H locs 0 0 Q (F0 m 51 ls [.int s2_51, .int (nI l2_12), .ref d_yards]) := by
                 intro s2_51 H locs ls hZ hP hD hS hl
                 refine va_iast hx hb hK hP hD hS 1 0 rfl rfl (vp_in_nI (n := l2_12) (by omega) (by omega)) dX4_beginNight_51 (fun H locs hP hD hS => ?_)
                 exact by
                  have hP : va_P D vwCl [(d, kO 4 [.ref d_yards, .ref d_paces, .ref d_stuck, .ref d_hirers, .ref d_places, .ref d_cameAt, .ref d_cooked, .int 0, .int d_night, .int 0, .int d_tasted, .int d_lastCook, .int (bB d_stirred)]), (d_yards, kI k 6 (upd ad_yards_12 (Int32.toNatClampNeg (nI l2_12)) s2_51)), (d_paces, kI k 6 ad_paces_12), (d_stuck, kI k 6 ad_stuck_12), (d_hirers, kI k 6 ad_hirers_12), (d_places, kI k 6 ad_places_12), (d_cameAt, kI k 6 ad_cameAt_12), (t, kO 7 [.ref t_names, .ref t_kinds, .ref t_yards, .ref t_paces, .ref t_skills, .ref t_snow, .ref tw, .int (nI t_guests), .int (nI t_snows), .int t_bend, .int t_hour, .int (bB t_bendTold), .int (bB t_hourTold)]), (t_yards, kI k 6 t_yardsF), (t_paces, kI k 6 t_pacesF)] H := hP
                  have hD : va_D A [(d, kO 4 [.ref d_yards, .ref d_paces, .ref d_stuck, .ref d_hirers, .ref d_places, .ref d_cameAt, .ref d_cooked, .int 0, .int d_night, .int 0, .int d_tasted, .int d_lastCook, .int (bB d_stirred)]), (d_yards, kI k 6 (upd ad_yards_12 (Int32.toNatClampNeg (nI l2_12)) s2_51)), (d_paces, kI k 6 ad_paces_12), (d_stuck, kI k 6 ad_stuck_12), (d_hirers, kI k 6 ad_hirers_12), (d_places, kI k 6 ad_places_12), (d_cameAt, kI k 6 ad_cameAt_12), (t, kO 7 [.ref t_names, .ref t_kinds, .ref t_yards, .ref t_paces, .ref t_skills, .ref t_snow, .ref tw, .int (nI t_guests), .int (nI t_snows), .int t_bend, .int t_hour, .int (bB t_bendTold), .int (bB t_hourTold)]), (t_yards, kI k 6 t_yardsF), (t_paces, kI k 6 t_pacesF)] := hD
                  refine lv_aload_n hx hb dX4_beginNight_52 rfl (lv_at hl 0 rfl) ?_
                  refine va_get (D := D) (ci := 4) (v := .ref d_paces) (C := RX4) (T := TX4) (N := 13) hx hb hts hi4 hown hK hP 0 rfl rfl 1 (by decide) lf15 (fun _ h9 => h9) rfl dX4_beginNight_53 ?_
                  refine lv_iload_n hx hb dX4_beginNight_56 rfl (lv_at hl 2 rfl) ?_
                  refine lv_iload_n hx hb dX4_beginNight_57 rfl (lv_at hl 3 rfl) ?_
                  have hj71_5 : ∀ (s2_71 : Int32) (H : Heap) (locs : List Loc) (ls : Array Slot), ((fX4_beginNight_J71a l2_12 ad_yards_12 ad_paces_12 ad_stuck_12 ad_hirers_12 ad_places_12 ad_cameAt_12 rc12_1 s2_51) s2_71 = E0) → va_P D vwCl [(d, kO 4 [.ref d_yards, .ref d_paces, .ref d_stuck, .ref d_hirers, .ref d_places, .ref d_cameAt, .ref d_cooked, .int 0, .int d_night, .int 0, .int d_tasted, .int d_lastCook, .int (bB d_stirred)]), (d_yards, kI k 6 (upd ad_yards_12 (Int32.toNatClampNeg (nI l2_12)) s2_51)), (d_paces, kI k 6 ad_paces_12), (d_stuck, kI k 6 ad_stuck_12), (d_hirers, kI k 6 ad_hirers_12), (d_places, kI k 6 ad_places_12), (d_cameAt, kI k 6 ad_cameAt_12), (t, kO 7 [.ref t_names, .ref t_kinds, .ref t_yards, .ref t_paces, .ref t_skills, .ref t_snow, .ref tw, .int (nI t_guests), .int (nI t_snows), .int t_bend, .int t_hour, .int (bB t_bendTold), .int (bB t_hourTold)]), (t_yards, kI k 6 t_yardsF), (t_paces, kI k 6 t_pacesF)] H → va_D A [(d, kO 4 [.ref d_yards, .ref d_paces, .ref d_stuck, .ref d_hirers, .ref d_places, .ref d_cameAt, .ref d_cooked, .int 0, .int d_night, .int 0, .int d_tasted, .int d_lastCook, .int (bB d_stirred)]), (d_yards, kI k 6 (upd ad_yards_12 (Int32.toNatClampNeg (nI l2_12)) s2_51)), (d_paces, kI k 6 ad_paces_12), (d_stuck, kI k 6 ad_stuck_12), (d_hirers, kI k 6 ad_hirers_12), (d_places, kI k 6 ad_places_12), (d_cameAt, kI k 6 ad_cameAt_12), (t, kO 7 [.ref t_names, .ref t_kinds, .ref t_yards, .ref t_paces, .ref t_skills, .ref t_snow, .ref tw, .int (nI t_guests), .int (nI t_snows), .int t_bend, .int t_hour, .int (bB t_bendTold), .int (bB t_hourTold)]), (t_yards, kI k 6 t_yardsF), (t_paces, kI k 6 t_pacesF)] → va_S A s.heap H locs → lv_has ls 4 [(0, .ref d), (1, .ref t), (2, .int (nI l2_12)), (3, .int (bB s0_31))] → W p l e R s m args below meth c H locs 0 0 Q (F0 m 71 ls [.int s2_71, .int (nI l2_12), .ref d_paces]) := by
                    intro s2_71 H locs ls hZ hP hD hS hl
                    refine va_iast hx hb hK hP hD hS 2 0 rfl rfl (vp_in_nI (n := l2_12) (by omega) (by omega)) dX4_beginNight_71 (fun H locs hP hD hS => ?_)
                    exact by
                     have hP : va_P D vwCl [(d, kO 4 [.ref d_yards, .ref d_paces, .ref d_stuck, .ref d_hirers, .ref d_places, .ref d_cameAt, .ref d_cooked, .int 0, .int d_night, .int 0, .int d_tasted, .int d_lastCook, .int (bB d_stirred)]), (d_yards, kI k 6 (upd ad_yards_12 (Int32.toNatClampNeg (nI l2_12)) s2_51)), (d_paces, kI k 6 (upd ad_paces_12 (Int32.toNatClampNeg (nI l2_12)) s2_71)), (d_stuck, kI k 6 ad_stuck_12), (d_hirers, kI k 6 ad_hirers_12), (d_places, kI k 6 ad_places_12), (d_cameAt, kI k 6 ad_cameAt_12), (t, kO 7 [.ref t_names, .ref t_kinds, .ref t_yards, .ref t_paces, .ref t_skills, .ref t_snow, .ref tw, .int (nI t_guests), .int (nI t_snows), .int t_bend, .int t_hour, .int (bB t_bendTold), .int (bB t_hourTold)]), (t_yards, kI k 6 t_yardsF), (t_paces, kI k 6 t_pacesF)] H := hP
                     have hD : va_D A [(d, kO 4 [.ref d_yards, .ref d_paces, .ref d_stuck, .ref d_hirers, .ref d_places, .ref d_cameAt, .ref d_cooked, .int 0, .int d_night, .int 0, .int d_tasted, .int d_lastCook, .int (bB d_stirred)]), (d_yards, kI k 6 (upd ad_yards_12 (Int32.toNatClampNeg (nI l2_12)) s2_51)), (d_paces, kI k 6 (upd ad_paces_12 (Int32.toNatClampNeg (nI l2_12)) s2_71)), (d_stuck, kI k 6 ad_stuck_12), (d_hirers, kI k 6 ad_hirers_12), (d_places, kI k 6 ad_places_12), (d_cameAt, kI k 6 ad_cameAt_12), (t, kO 7 [.ref t_names, .ref t_kinds, .ref t_yards, .ref t_paces, .ref t_skills, .ref t_snow, .ref tw, .int (nI t_guests), .int (nI t_snows), .int t_bend, .int t_hour, .int (bB t_bendTold), .int (bB t_hourTold)]), (t_yards, kI k 6 t_yardsF), (t_paces, kI k 6 t_pacesF)] := hD
                     refine lv_aload_n hx hb dX4_beginNight_72 rfl (lv_at hl 0 rfl) ?_
                     refine va_get (D := D) (ci := 4) (v := .ref d_stuck) (C := RX4) (T := TX4) (N := 13) hx hb hts hi4 hown hK hP 0 rfl rfl 2 (by decide) lf18 (fun _ h9 => h9) rfl dX4_beginNight_73 ?_
                     refine lv_iload_n hx hb dX4_beginNight_76 rfl (lv_at hl 2 rfl) ?_
                     refine lv_iconst (v := 0) hx hb dX4_beginNight_77 (by decide) ?_
                     refine va_iast hx hb hK hP hD hS 3 0 rfl rfl (vp_in_nI (n := l2_12) (by omega) (by omega)) dX4_beginNight_78 (fun H locs hP hD hS => ?_)
                     exact by
                      have hP : va_P D vwCl [(d, kO 4 [.ref d_yards, .ref d_paces, .ref d_stuck, .ref d_hirers, .ref d_places, .ref d_cameAt, .ref d_cooked, .int 0, .int d_night, .int 0, .int d_tasted, .int d_lastCook, .int (bB d_stirred)]), (d_yards, kI k 6 (upd ad_yards_12 (Int32.toNatClampNeg (nI l2_12)) s2_51)), (d_paces, kI k 6 (upd ad_paces_12 (Int32.toNatClampNeg (nI l2_12)) s2_71)), (d_stuck, kI k 6 (upd ad_stuck_12 (Int32.toNatClampNeg (nI l2_12)) 0)), (d_hirers, kI k 6 ad_hirers_12), (d_places, kI k 6 ad_places_12), (d_cameAt, kI k 6 ad_cameAt_12), (t, kO 7 [.ref t_names, .ref t_kinds, .ref t_yards, .ref t_paces, .ref t_skills, .ref t_snow, .ref tw, .int (nI t_guests), .int (nI t_snows), .int t_bend, .int t_hour, .int (bB t_bendTold), .int (bB t_hourTold)]), (t_yards, kI k 6 t_yardsF), (t_paces, kI k 6 t_pacesF)] H := hP
                      have hD : va_D A [(d, kO 4 [.ref d_yards, .ref d_paces, .ref d_stuck, .ref d_hirers, .ref d_places, .ref d_cameAt, .ref d_cooked, .int 0, .int d_night, .int 0, .int d_tasted, .int d_lastCook, .int (bB d_stirred)]), (d_yards, kI k 6 (upd ad_yards_12 (Int32.toNatClampNeg (nI l2_12)) s2_51)), (d_paces, kI k 6 (upd ad_paces_12 (Int32.toNatClampNeg (nI l2_12)) s2_71)), (d_stuck, kI k 6 (upd ad_stuck_12 (Int32.toNatClampNeg (nI l2_12)) 0)), (d_hirers, kI k 6 ad_hirers_12), (d_places, kI k 6 ad_places_12), (d_cameAt, kI k 6 ad_cameAt_12), (t, kO 7 [.ref t_names, .ref t_kinds, .ref t_yards, .ref t_paces, .ref t_skills, .ref t_snow, .ref tw, .int (nI t_guests), .int (nI t_snows), .int t_bend, .int t_hour, .int (bB t_bendTold), .int (bB t_hourTold)]), (t_yards, kI k 6 t_yardsF), (t_paces, kI k 6 t_pacesF)] := hD
                      refine lv_aload_n hx hb dX4_beginNight_79 rfl (lv_at hl 0 rfl) ?_
                      refine va_get (D := D) (ci := 4) (v := .ref d_hirers) (C := RX4) (T := TX4) (N := 13) hx hb hts hi4 hown hK hP 0 rfl rfl 3 (by decide) lf21 (fun _ h9 => h9) rfl dX4_beginNight_80 ?_
                      refine lv_iload_n hx hb dX4_beginNight_83 rfl (lv_at hl 2 rfl) ?_
                      refine lv_iconst (v := (-1)) hx hb dX4_beginNight_84 (by decide) ?_
                      refine va_iast hx hb hK hP hD hS 4 0 rfl rfl (vp_in_nI (n := l2_12) (by omega) (by omega)) dX4_beginNight_85 (fun H locs hP hD hS => ?_)
                      exact by
                       have hP : va_P D vwCl [(d, kO 4 [.ref d_yards, .ref d_paces, .ref d_stuck, .ref d_hirers, .ref d_places, .ref d_cameAt, .ref d_cooked, .int 0, .int d_night, .int 0, .int d_tasted, .int d_lastCook, .int (bB d_stirred)]), (d_yards, kI k 6 (upd ad_yards_12 (Int32.toNatClampNeg (nI l2_12)) s2_51)), (d_paces, kI k 6 (upd ad_paces_12 (Int32.toNatClampNeg (nI l2_12)) s2_71)), (d_stuck, kI k 6 (upd ad_stuck_12 (Int32.toNatClampNeg (nI l2_12)) 0)), (d_hirers, kI k 6 (upd ad_hirers_12 (Int32.toNatClampNeg (nI l2_12)) (-1))), (d_places, kI k 6 ad_places_12), (d_cameAt, kI k 6 ad_cameAt_12), (t, kO 7 [.ref t_names, .ref t_kinds, .ref t_yards, .ref t_paces, .ref t_skills, .ref t_snow, .ref tw, .int (nI t_guests), .int (nI t_snows), .int t_bend, .int t_hour, .int (bB t_bendTold), .int (bB t_hourTold)]), (t_yards, kI k 6 t_yardsF), (t_paces, kI k 6 t_pacesF)] H := hP
                       have hD : va_D A [(d, kO 4 [.ref d_yards, .ref d_paces, .ref d_stuck, .ref d_hirers, .ref d_places, .ref d_cameAt, .ref d_cooked, .int 0, .int d_night, .int 0, .int d_tasted, .int d_lastCook, .int (bB d_stirred)]), (d_yards, kI k 6 (upd ad_yards_12 (Int32.toNatClampNeg (nI l2_12)) s2_51)), (d_paces, kI k 6 (upd ad_paces_12 (Int32.toNatClampNeg (nI l2_12)) s2_71)), (d_stuck, kI k 6 (upd ad_stuck_12 (Int32.toNatClampNeg (nI l2_12)) 0)), (d_hirers, kI k 6 (upd ad_hirers_12 (Int32.toNatClampNeg (nI l2_12)) (-1))), (d_places, kI k 6 ad_places_12), (d_cameAt, kI k 6 ad_cameAt_12), (t, kO 7 [.ref t_names, .ref t_kinds, .ref t_yards, .ref t_paces, .ref t_skills, .ref t_snow, .ref tw, .int (nI t_guests), .int (nI t_snows), .int t_bend, .int t_hour, .int (bB t_bendTold), .int (bB t_hourTold)]), (t_yards, kI k 6 t_yardsF), (t_paces, kI k 6 t_pacesF)] := hD
                       refine lv_aload_n hx hb dX4_beginNight_86 rfl (lv_at hl 0 rfl) ?_
                       refine va_get (D := D) (ci := 4) (v := .ref d_places) (C := RX4) (T := TX4) (N := 13) hx hb hts hi4 hown hK hP 0 rfl rfl 4 (by decide) lf24 (fun _ h9 => h9) rfl dX4_beginNight_87 ?_
                       refine lv_iload_n hx hb dX4_beginNight_90 rfl (lv_at hl 2 rfl) ?_
                       refine lv_iconst (v := (-1)) hx hb dX4_beginNight_91 (by decide) ?_
                       refine va_iast hx hb hK hP hD hS 5 0 rfl rfl (vp_in_nI (n := l2_12) (by omega) (by omega)) dX4_beginNight_92 (fun H locs hP hD hS => ?_)
                       exact by
                        have hP : va_P D vwCl [(d, kO 4 [.ref d_yards, .ref d_paces, .ref d_stuck, .ref d_hirers, .ref d_places, .ref d_cameAt, .ref d_cooked, .int 0, .int d_night, .int 0, .int d_tasted, .int d_lastCook, .int (bB d_stirred)]), (d_yards, kI k 6 (upd ad_yards_12 (Int32.toNatClampNeg (nI l2_12)) s2_51)), (d_paces, kI k 6 (upd ad_paces_12 (Int32.toNatClampNeg (nI l2_12)) s2_71)), (d_stuck, kI k 6 (upd ad_stuck_12 (Int32.toNatClampNeg (nI l2_12)) 0)), (d_hirers, kI k 6 (upd ad_hirers_12 (Int32.toNatClampNeg (nI l2_12)) (-1))), (d_places, kI k 6 (upd ad_places_12 (Int32.toNatClampNeg (nI l2_12)) (-1))), (d_cameAt, kI k 6 ad_cameAt_12), (t, kO 7 [.ref t_names, .ref t_kinds, .ref t_yards, .ref t_paces, .ref t_skills, .ref t_snow, .ref tw, .int (nI t_guests), .int (nI t_snows), .int t_bend, .int t_hour, .int (bB t_bendTold), .int (bB t_hourTold)]), (t_yards, kI k 6 t_yardsF), (t_paces, kI k 6 t_pacesF)] H := hP
                        have hD : va_D A [(d, kO 4 [.ref d_yards, .ref d_paces, .ref d_stuck, .ref d_hirers, .ref d_places, .ref d_cameAt, .ref d_cooked, .int 0, .int d_night, .int 0, .int d_tasted, .int d_lastCook, .int (bB d_stirred)]), (d_yards, kI k 6 (upd ad_yards_12 (Int32.toNatClampNeg (nI l2_12)) s2_51)), (d_paces, kI k 6 (upd ad_paces_12 (Int32.toNatClampNeg (nI l2_12)) s2_71)), (d_stuck, kI k 6 (upd ad_stuck_12 (Int32.toNatClampNeg (nI l2_12)) 0)), (d_hirers, kI k 6 (upd ad_hirers_12 (Int32.toNatClampNeg (nI l2_12)) (-1))), (d_places, kI k 6 (upd ad_places_12 (Int32.toNatClampNeg (nI l2_12)) (-1))), (d_cameAt, kI k 6 ad_cameAt_12), (t, kO 7 [.ref t_names, .ref t_kinds, .ref t_yards, .ref t_paces, .ref t_skills, .ref t_snow, .ref tw, .int (nI t_guests), .int (nI t_snows), .int t_bend, .int t_hour, .int (bB t_bendTold), .int (bB t_hourTold)]), (t_yards, kI k 6 t_yardsF), (t_paces, kI k 6 t_pacesF)] := hD
                        refine lv_aload_n hx hb dX4_beginNight_93 rfl (lv_at hl 0 rfl) ?_
                        refine va_get (D := D) (ci := 4) (v := .ref d_cameAt) (C := RX4) (T := TX4) (N := 13) hx hb hts hi4 hown hK hP 0 rfl rfl 5 (by decide) lf27 (fun _ h9 => h9) rfl dX4_beginNight_94 ?_
                        refine lv_iload_n hx hb dX4_beginNight_97 rfl (lv_at hl 2 rfl) ?_
                        refine lv_iconst (v := (-1)) hx hb dX4_beginNight_98 (by decide) ?_
                        refine va_iast hx hb hK hP hD hS 6 0 rfl rfl (vp_in_nI (n := l2_12) (by omega) (by omega)) dX4_beginNight_99 (fun H locs hP hD hS => ?_)
                        exact by
                         have hP : va_P D vwCl [(d, kO 4 [.ref d_yards, .ref d_paces, .ref d_stuck, .ref d_hirers, .ref d_places, .ref d_cameAt, .ref d_cooked, .int 0, .int d_night, .int 0, .int d_tasted, .int d_lastCook, .int (bB d_stirred)]), (d_yards, kI k 6 (upd ad_yards_12 (Int32.toNatClampNeg (nI l2_12)) s2_51)), (d_paces, kI k 6 (upd ad_paces_12 (Int32.toNatClampNeg (nI l2_12)) s2_71)), (d_stuck, kI k 6 (upd ad_stuck_12 (Int32.toNatClampNeg (nI l2_12)) 0)), (d_hirers, kI k 6 (upd ad_hirers_12 (Int32.toNatClampNeg (nI l2_12)) (-1))), (d_places, kI k 6 (upd ad_places_12 (Int32.toNatClampNeg (nI l2_12)) (-1))), (d_cameAt, kI k 6 (upd ad_cameAt_12 (Int32.toNatClampNeg (nI l2_12)) (-1))), (t, kO 7 [.ref t_names, .ref t_kinds, .ref t_yards, .ref t_paces, .ref t_skills, .ref t_snow, .ref tw, .int (nI t_guests), .int (nI t_snows), .int t_bend, .int t_hour, .int (bB t_bendTold), .int (bB t_hourTold)]), (t_yards, kI k 6 t_yardsF), (t_paces, kI k 6 t_pacesF)] H := hP
                         have hD : va_D A [(d, kO 4 [.ref d_yards, .ref d_paces, .ref d_stuck, .ref d_hirers, .ref d_places, .ref d_cameAt, .ref d_cooked, .int 0, .int d_night, .int 0, .int d_tasted, .int d_lastCook, .int (bB d_stirred)]), (d_yards, kI k 6 (upd ad_yards_12 (Int32.toNatClampNeg (nI l2_12)) s2_51)), (d_paces, kI k 6 (upd ad_paces_12 (Int32.toNatClampNeg (nI l2_12)) s2_71)), (d_stuck, kI k 6 (upd ad_stuck_12 (Int32.toNatClampNeg (nI l2_12)) 0)), (d_hirers, kI k 6 (upd ad_hirers_12 (Int32.toNatClampNeg (nI l2_12)) (-1))), (d_places, kI k 6 (upd ad_places_12 (Int32.toNatClampNeg (nI l2_12)) (-1))), (d_cameAt, kI k 6 (upd ad_cameAt_12 (Int32.toNatClampNeg (nI l2_12)) (-1))), (t, kO 7 [.ref t_names, .ref t_kinds, .ref t_yards, .ref t_paces, .ref t_skills, .ref t_snow, .ref tw, .int (nI t_guests), .int (nI t_snows), .int t_bend, .int t_hour, .int (bB t_bendTold), .int (bB t_hourTold)]), (t_yards, kI k 6 t_yardsF), (t_paces, kI k 6 t_pacesF)] := hD
                         refine lv_iinc (v := (nI (l2_12 + 1))) (lv' := [(2, .int (nI (l2_12 + 1))), (0, .ref d), (1, .ref t), (3, .int (bB s0_31))]) hx hb dX4_beginNight_100 hl (k := 2) rfl (nI_1 _) (by decide) rfl (fun ls hl => ?_)
                         exact by
                          refine lv_goto (tgt := 12) hx hb dX4_beginNight_103 (by decide) ?_
                          exact ih12 (l2_12 + 1) (upd ad_yards_12 (Int32.toNatClampNeg (nI l2_12)) s2_51) (upd ad_paces_12 (Int32.toNatClampNeg (nI l2_12)) s2_71) (upd ad_stuck_12 (Int32.toNatClampNeg (nI l2_12)) 0) (upd ad_hirers_12 (Int32.toNatClampNeg (nI l2_12)) (-1)) (upd ad_places_12 (Int32.toNatClampNeg (nI l2_12)) (-1)) (upd ad_cameAt_12 (Int32.toNatClampNeg (nI l2_12)) (-1)) _ _ _ (by omega) (by first | omega | assumption) (by rw [← hrc12_1]; exact hZ) (hP.sub [0, 1, 2, 3, 4, 5, 6, 7, 8, 9] rfl) (hD.sub [0, 1, 2, 3, 4, 5, 6, 7, 8, 9] (by decide +kernel) rfl) hS (lv_sub hl [1, 2, 0] rfl)
                  refine lv_if_eq (tgt := 70) hx hb dX4_beginNight_58 (by decide) (fun c_6 => ?_) (fun c_6 => ?_)
                  · exact by
                     have b_6 : s0_31 = false := bB_0 c_6
                     have hZ := (if_neg (bF b_6)).symm.trans hZ
                     refine lv_iconst (v := 0) hx hb dX4_beginNight_70 (by decide) ?_
                     exact hj71_5 (0 : Int32) _ _ _ hZ (hP.sub [0, 1, 2, 3, 4, 5, 6, 7, 8, 9] rfl) (hD.sub [0, 1, 2, 3, 4, 5, 6, 7, 8, 9] (by decide +kernel) rfl) hS (lv_sub hl [0, 1, 2, 3] rfl)
                  · exact by
                     have b_6 : s0_31 = true := bB_1 c_6
                     have hZ := (if_pos b_6).symm.trans hZ
                     refine lv_aload_n hx hb dX4_beginNight_61 rfl (lv_at hl 1 rfl) ?_
                     refine va_get (D := D) (ci := 7) (v := .ref t_paces) (C := RX7) (T := TX7) (N := 13) hx hb hts hi7 hown hK hP 7 rfl rfl 3 (by decide) lf59 (fun _ h9 => h9) rfl dX4_beginNight_62 ?_
                     refine lv_iload_n hx hb dX4_beginNight_65 rfl (lv_at hl 2 rfl) ?_
                     refine va_iald hx hb hK hP 9 0 rfl rfl (vp_in_nI (n := l2_12) (by omega) (by omega)) dX4_beginNight_66 ?_
                     refine lv_goto (tgt := 71) hx hb dX4_beginNight_67 (by decide) ?_
                     exact hj71_5 (t_pacesF (Int32.toNatClampNeg (nI l2_12))) _ _ _ hZ (hP.sub [0, 1, 2, 3, 4, 5, 6, 7, 8, 9] rfl) (hD.sub [0, 1, 2, 3, 4, 5, 6, 7, 8, 9] (by decide +kernel) rfl) hS (lv_sub hl [0, 1, 2, 3] rfl)
               refine lv_if_eq (tgt := 50) hx hb dX4_beginNight_38 (by decide) (fun c_7 => ?_) (fun c_7 => ?_)
               · exact by
                  have b_7 : s0_31 = false := bB_0 c_7
                  have hZ := (if_neg (bF b_7)).symm.trans hZ
                  refine lv_iconst (v := 0) hx hb dX4_beginNight_50 (by decide) ?_
                  exact hj51_4 (0 : Int32) _ _ _ hZ (hP.sub [0, 1, 2, 3, 4, 5, 6, 7, 8, 9] rfl) (hD.sub [0, 1, 2, 3, 4, 5, 6, 7, 8, 9] (by decide +kernel) rfl) hS (lv_sub hl [1, 2, 3, 0] rfl)
               · exact by
                  have b_7 : s0_31 = true := bB_1 c_7
                  have hZ := (if_pos b_7).symm.trans hZ
                  refine lv_aload_n hx hb dX4_beginNight_41 rfl (lv_at hl 2 rfl) ?_
                  refine va_get (D := D) (ci := 7) (v := .ref t_yards) (C := RX7) (T := TX7) (N := 13) hx hb hts hi7 hown hK hP 7 rfl rfl 2 (by decide) lf58 (fun _ h9 => h9) rfl dX4_beginNight_42 ?_
                  refine lv_iload_n hx hb dX4_beginNight_45 rfl (lv_at hl 3 rfl) ?_
                  refine va_iald hx hb hK hP 8 0 rfl rfl (vp_in_nI (n := l2_12) (by omega) (by omega)) dX4_beginNight_46 ?_
                  refine lv_goto (tgt := 51) hx hb dX4_beginNight_47 (by decide) ?_
                  exact hj51_4 (t_yardsF (Int32.toNatClampNeg (nI l2_12))) _ _ _ hZ (hP.sub [0, 1, 2, 3, 4, 5, 6, 7, 8, 9] rfl) (hD.sub [0, 1, 2, 3, 4, 5, 6, 7, 8, 9] (by decide +kernel) rfl) hS (lv_sub hl [1, 2, 3, 0] rfl)
            refine lv_icmp_ge (tgt := 30) hx hb dX4_beginNight_23 (by decide) (fun c_8 => ?_) (fun c_8 => ?_)
            · exact by
               have k_8 : t_guests ≤ l2_12 := (nI_leI (a := t_guests) (b := l2_12) (by omega) (by omega)).mp c_8
               have hZ := (if_pos k_8).symm.trans hZ
               refine lv_iconst (v := 0) hx hb dX4_beginNight_30 (by decide) ?_
               exact hj31_3 false _ _ _ hZ (hP.sub [0, 1, 2, 3, 4, 5, 6, 7, 8, 9] rfl) (hD.sub [0, 1, 2, 3, 4, 5, 6, 7, 8, 9] (by decide +kernel) rfl) hS (lv_sub hl [0, 1, 2] rfl)
            · exact by
               have k_8 : ¬ (t_guests ≤ l2_12) := fun h => c_8 ((nI_leI (a := t_guests) (b := l2_12) (by omega) (by omega)).mpr h)
               have hZ := (if_neg k_8).symm.trans hZ
               refine lv_iconst (v := 1) hx hb dX4_beginNight_26 (by decide) ?_
               refine lv_goto (tgt := 31) hx hb dX4_beginNight_27 (by decide) ?_
               exact hj31_3 true _ _ _ hZ (hP.sub [0, 1, 2, 3, 4, 5, 6, 7, 8, 9] rfl) (hD.sub [0, 1, 2, 3, 4, 5, 6, 7, 8, 9] (by decide +kernel) rfl) hS (lv_sub hl [0, 1, 2] rfl)
     exact hloop12 ((6 + 1 - 0) + 1) 0 d_yardsF d_pacesF d_stuckF d_hirersF d_placesF d_cameAtF _ _ _ (Nat.lt_succ_self _) (by first | omega | assumption) hZ (hP.sub [0, 1, 2, 3, 4, 5, 6, 7, 8, 9] rfl) (hD.sub [0, 1, 2, 3, 4, 5, 6, 7, 8, 9] (by decide +kernel) rfl) hS (lv_sub hl [1, 2, 0] rfl)
