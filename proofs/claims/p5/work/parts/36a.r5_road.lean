theorem dX9_isGuest_0 : decode cX9_isGuest 0 = .ok (.iload_n 1, 1) := by decide +kernel
theorem dX9_isGuest_1 : decode cX9_isGuest 1 = .ok (.ifCond .lt 17, 3) := by decide +kernel
theorem dX9_isGuest_4 : decode cX9_isGuest 4 = .ok (.iload_n 1, 1) := by decide +kernel
theorem dX9_isGuest_5 : decode cX9_isGuest 5 = .ok (.aload_n 0, 1) := by decide +kernel
theorem dX9_isGuest_6 : decode cX9_isGuest 6 = .ok (.getfield 13, 3) := by decide +kernel
theorem dX9_isGuest_9 : decode cX9_isGuest 9 = .ok (.iconst 0, 1) := by decide +kernel
theorem dX9_isGuest_10 : decode cX9_isGuest 10 = .ok (.iaload, 1) := by decide +kernel
theorem dX9_isGuest_11 : decode cX9_isGuest 11 = .ok (.if_icmp .ge 7, 3) := by decide +kernel
theorem dX9_isGuest_14 : decode cX9_isGuest 14 = .ok (.iconst 1, 1) := by decide +kernel
theorem dX9_isGuest_15 : decode cX9_isGuest 15 = .ok (.goto 4, 3) := by decide +kernel
theorem dX9_isGuest_18 : decode cX9_isGuest 18 = .ok (.iconst 0, 1) := by decide +kernel
theorem dX9_isGuest_19 : decode cX9_isGuest 19 = .ok (.ireturn, 1) := by decide +kernel
set_option maxHeartbeats 4000000 in
set_option maxRecDepth 100000 in
theorem sX9_isGuest (l : Launch) (D : va_G) (k : Nat → ClassId) (sz : Nat) (y : Nat) (g : Int32) (y_thrown : Int32) (y_taped : Nat) (y_tape : Nat) (y_size : Nat) (y_place : Nat) (y_begin : Nat) (y_token : Nat) (y_word : Int64) (y_told : Int32) (y_wrong : Int32) (y_supper : Nat) (y_guestName : Nat) (y_kind : Nat) (y_offTold : Nat) (y_pace : Nat) (y_cooks : Nat) (y_snow : Nat) (y_lineFrom : Nat) (y_lineTo : Nat) (y_codes : Nat) (y_code : Nat) (y_toldLines : Int32) (y_opened : Nat) (y_compared : Nat) (y_kept : Nat) (y_keptBy : Nat) (y_ahead : Nat) (y_against : Nat) (y_sum : Nat) (y_sumBy : Nat) (y_term : Nat) (y_termBy : Nat) (y_byNot : Nat) (y_valueOf : Nat) (y_given : Int32) (y_lines : Nat) (y_lineWhat : Nat) (y_lineA : Nat) (y_lineB : Nat) (y_seens : Nat) (y_seenIn : Nat) (y_seenYards : Nat) (y_seenNear : Nat) (y_s : Nat) (y_aside : Nat) (y_before : Nat) (y_marked : Nat) (y_undone : Nat) (y_isLaid : Nat) (y_done : Nat) (y_snowNow : Int32) (y_cameNow : Int32) (y_cookThen : Int32) (y_tasteThen : Int32) (y_places : Nat) (y_comesAt : Nat) (y_yardsIn : Nat) (y_g : Int64) (y_supperF : Nat → Int32) (h_y_taped : y_taped ≤ 1000) (h_y_size : y_size ≤ 1000) (h_y_place : y_place ≤ 1000) (h_y_begin : y_begin ≤ 1000) (h_y_token : y_token ≤ 4) (h_y_told : 0 ≤ Int32.toInt y_told ∧ Int32.toInt y_told ≤ 9999) (h_y_code : y_code ≤ 2000) (h_y_done : y_done ≤ 16) (h_y_supper : I9_sup y_supperF) : Met l yX9_isGuest wsX9_isGuest ({ frames := 0, cells := 0, slots := 0, locals := 0 }) (va_Pc [.ref y, .int g] (kz_Pre D k [(y, kO 9 [.int y_thrown, .int (nI y_taped), .ref y_tape, .int (nI y_size), .int (nI y_place), .int (nI y_begin), .int (nI y_token), .long y_word, .int y_told, .int y_wrong, .ref y_supper, .ref y_guestName, .ref y_kind, .ref y_offTold, .ref y_pace, .ref y_cooks, .ref y_snow, .ref y_lineFrom, .ref y_lineTo, .ref y_codes, .int (nI y_code), .int y_toldLines, .ref y_opened, .ref y_compared, .ref y_kept, .ref y_keptBy, .ref y_ahead, .ref y_against, .ref y_sum, .ref y_sumBy, .ref y_term, .ref y_termBy, .ref y_byNot, .ref y_valueOf, .int y_given, .ref y_lines, .ref y_lineWhat, .ref y_lineA, .ref y_lineB, .ref y_seens, .ref y_seenIn, .ref y_seenYards, .ref y_seenNear, .ref y_s, .ref y_aside, .ref y_before, .ref y_marked, .ref y_undone, .ref y_isLaid, .int (nI y_done), .int y_snowNow, .int y_cameNow, .int y_cookThen, .int y_tasteThen, .ref y_places, .ref y_comesAt, .ref y_yardsIn, .long y_g]), (y_supper, kI k 8 y_supperF)] sz)) (va_Qi (fun (rr : Int32) (uu : Bool) => rr = bB uu ∧ ((uu) = (fX9_isGuest g y_supperF)) ∧ (uu = true → (0 ≤ Int32.toInt g ∧ Int32.toInt g ≤ 5))) (fun uu zt => kz_B D (va_A [(y, kO 9 [.int y_thrown, .int (nI y_taped), .ref y_tape, .int (nI y_size), .int (nI y_place), .int (nI y_begin), .int (nI y_token), .long y_word, .int y_told, .int y_wrong, .ref y_supper, .ref y_guestName, .ref y_kind, .ref y_offTold, .ref y_pace, .ref y_cooks, .ref y_snow, .ref y_lineFrom, .ref y_lineTo, .ref y_codes, .int (nI y_code), .int y_toldLines, .ref y_opened, .ref y_compared, .ref y_kept, .ref y_keptBy, .ref y_ahead, .ref y_against, .ref y_sum, .ref y_sumBy, .ref y_term, .ref y_termBy, .ref y_byNot, .ref y_valueOf, .int y_given, .ref y_lines, .ref y_lineWhat, .ref y_lineA, .ref y_lineB, .ref y_seens, .ref y_seenIn, .ref y_seenYards, .ref y_seenNear, .ref y_s, .ref y_aside, .ref y_before, .ref y_marked, .ref y_undone, .ref y_isLaid, .int (nI y_done), .int y_snowNow, .int y_cameNow, .int y_cookThen, .int y_tasteThen, .ref y_places, .ref y_comesAt, .ref y_yardsIn, .long y_g]), (y_supper, kI k 8 y_supperF)] sz) [(y, kO 9 [.int y_thrown, .int (nI y_taped), .ref y_tape, .int (nI y_size), .int (nI y_place), .int (nI y_begin), .int (nI y_token), .long y_word, .int y_told, .int y_wrong, .ref y_supper, .ref y_guestName, .ref y_kind, .ref y_offTold, .ref y_pace, .ref y_cooks, .ref y_snow, .ref y_lineFrom, .ref y_lineTo, .ref y_codes, .int (nI y_code), .int y_toldLines, .ref y_opened, .ref y_compared, .ref y_kept, .ref y_keptBy, .ref y_ahead, .ref y_against, .ref y_sum, .ref y_sumBy, .ref y_term, .ref y_termBy, .ref y_byNot, .ref y_valueOf, .int y_given, .ref y_lines, .ref y_lineWhat, .ref y_lineA, .ref y_lineB, .ref y_seens, .ref y_seenIn, .ref y_seenYards, .ref y_seenNear, .ref y_s, .ref y_aside, .ref y_before, .ref y_marked, .ref y_undone, .ref y_isLaid, .int (nI y_done), .int y_snowNow, .int y_cameNow, .int y_cookThen, .int y_tasteThen, .ref y_places, .ref y_comesAt, .ref y_yardsIn, .long y_g]), (y_supper, kI k 8 y_supperF)] zt) (va_A [(y, kO 9 [.int y_thrown, .int (nI y_taped), .ref y_tape, .int (nI y_size), .int (nI y_place), .int (nI y_begin), .int (nI y_token), .long y_word, .int y_told, .int y_wrong, .ref y_supper, .ref y_guestName, .ref y_kind, .ref y_offTold, .ref y_pace, .ref y_cooks, .ref y_snow, .ref y_lineFrom, .ref y_lineTo, .ref y_codes, .int (nI y_code), .int y_toldLines, .ref y_opened, .ref y_compared, .ref y_kept, .ref y_keptBy, .ref y_ahead, .ref y_against, .ref y_sum, .ref y_sumBy, .ref y_term, .ref y_termBy, .ref y_byNot, .ref y_valueOf, .int y_given, .ref y_lines, .ref y_lineWhat, .ref y_lineA, .ref y_lineB, .ref y_seens, .ref y_seenIn, .ref y_seenYards, .ref y_seenNear, .ref y_s, .ref y_aside, .ref y_before, .ref y_marked, .ref y_undone, .ref y_isLaid, .int (nI y_done), .int y_snowNow, .int y_cameNow, .int y_cookThen, .int y_tasteThen, .ref y_places, .ref y_comesAt, .ref y_yardsIn, .long y_g]), (y_supper, kI k 8 y_supperF)] sz)) 0 0 (va_A [(y, kO 9 [.int y_thrown, .int (nI y_taped), .ref y_tape, .int (nI y_size), .int (nI y_place), .int (nI y_begin), .int (nI y_token), .long y_word, .int y_told, .int y_wrong, .ref y_supper, .ref y_guestName, .ref y_kind, .ref y_offTold, .ref y_pace, .ref y_cooks, .ref y_snow, .ref y_lineFrom, .ref y_lineTo, .ref y_codes, .int (nI y_code), .int y_toldLines, .ref y_opened, .ref y_compared, .ref y_kept, .ref y_keptBy, .ref y_ahead, .ref y_against, .ref y_sum, .ref y_sumBy, .ref y_term, .ref y_termBy, .ref y_byNot, .ref y_valueOf, .int y_given, .ref y_lines, .ref y_lineWhat, .ref y_lineA, .ref y_lineB, .ref y_seens, .ref y_seenIn, .ref y_seenYards, .ref y_seenNear, .ref y_s, .ref y_aside, .ref y_before, .ref y_marked, .ref y_undone, .ref y_isLaid, .int (nI y_done), .int y_snowNow, .int y_cameNow, .int y_cookThen, .int y_tasteThen, .ref y_places, .ref y_comesAt, .ref y_yardsIn, .long y_g]), (y_supper, kI k 8 y_supperF)] sz) := by
  refine Met.ofW (cc := cX9_isGuest) (maxL := 2) (ret := (some .boolean)) (by decide) rfl ?_
  intro p e s m args below meth c s₁ B hml hv
  obtain ⟨hav, hsz, hP, hK, hD0, hE⟩ := hv
  have hx := B.exec
  have hb := B.bytes
  have hr := B.returns
  have hts := atoms_spec (ws := wsX9_isGuest) B.pre
  have hown : s.vm.findClass RX9 = some m.cls := findClass_of_methodNamed B.named
  have hlocks := B.notSynchronized
  have hi9 : ∀ w ∈ u_ws RX9 TX9 58, w ∈ wsX9_isGuest := by decide +kernel
  have lf13 := hts (.fieldLink RX9 13 "LastCookModel" "supper" "[I") (by decide +kernel)
  subst hsz
  have hD := hD0.self (sz := s.heap.size)
  generalize hAe : va_A [(y, kO 9 [.int y_thrown, .int (nI y_taped), .ref y_tape, .int (nI y_size), .int (nI y_place), .int (nI y_begin), .int (nI y_token), .long y_word, .int y_told, .int y_wrong, .ref y_supper, .ref y_guestName, .ref y_kind, .ref y_offTold, .ref y_pace, .ref y_cooks, .ref y_snow, .ref y_lineFrom, .ref y_lineTo, .ref y_codes, .int (nI y_code), .int y_toldLines, .ref y_opened, .ref y_compared, .ref y_kept, .ref y_keptBy, .ref y_ahead, .ref y_against, .ref y_sum, .ref y_sumBy, .ref y_term, .ref y_termBy, .ref y_byNot, .ref y_valueOf, .int y_given, .ref y_lines, .ref y_lineWhat, .ref y_lineA, .ref y_lineB, .ref y_seens, .ref y_seenIn, .ref y_seenYards, .ref y_seenNear, .ref y_s, .ref y_aside, .ref y_before, .ref y_marked, .ref y_undone, .ref y_isLaid, .int (nI y_done), .int y_snowNow, .int y_cameNow, .int y_cookThen, .int y_tasteThen, .ref y_places, .ref y_comesAt, .ref y_yardsIn, .long y_g]), (y_supper, kI k 8 y_supperF)] s.heap.size = A at hD ⊢
  have hA : ∀ q : Nat, s.heap.size ≤ q → A q := fun q h => by rw [← hAe]; exact Or.inr h
  have hS : va_S A s.heap s.heap [] := va_S.rf
  have hl := lv_entry ([.ref y, .int g]) (n := 2) (Nat.le_of_ble_eq_true rfl)
  rw [show entryFrame m args 2 = entryFrame m ([.ref y, .int g] : List Value).toArray 2 by rw [hav], lg_entry_eq]
  generalize (lg_sl ([.ref y, .int g]) ++ List.replicate (2 - (lg_sl ([.ref y, .int g])).length) Slot.unset).toArray = ls at hl ⊢
  have hl : lv_has ls 2 [(0, .ref y), (1, .int g)] := hl
  obtain ⟨R, hR⟩ : ∃ R, R = (headSpec wsX9_isGuest ({ frames := 0, cells := 0, slots := 0, locals := 0 } : Room)).room := ⟨_, rfl⟩
  rw [← hR]
  generalize hQ : MQ below _ args s 0 0 A = Q
  replace hQ := hQ.symm
  obtain ⟨H, hH⟩ : ∃ H, H = s.heap := ⟨_, rfl⟩
  rw [← hH] at hP ⊢
  have hS : va_S A s.heap H [] := by rw [hH]; exact hS
  obtain ⟨E0, hE0⟩ : ∃ E0 : Bool, E0 = (fX9_isGuest g y_supperF) := ⟨_, rfl⟩
  have hZ : (fX9_isGuest g y_supperF) = E0 := hE0.symm
  refine lv_iload_n hx hb dX9_isGuest_0 rfl (lv_at hl 1 rfl) ?_
  have hj18_1 : ∀ (H : Heap) (locs : List Loc) (ls : Array Slot), (fX9_isGuest_J18a = E0) → va_P D vwCl [(y, kO 9 [.int y_thrown, .int (nI y_taped), .ref y_tape, .int (nI y_size), .int (nI y_place), .int (nI y_begin), .int (nI y_token), .long y_word, .int y_told, .int y_wrong, .ref y_supper, .ref y_guestName, .ref y_kind, .ref y_offTold, .ref y_pace, .ref y_cooks, .ref y_snow, .ref y_lineFrom, .ref y_lineTo, .ref y_codes, .int (nI y_code), .int y_toldLines, .ref y_opened, .ref y_compared, .ref y_kept, .ref y_keptBy, .ref y_ahead, .ref y_against, .ref y_sum, .ref y_sumBy, .ref y_term, .ref y_termBy, .ref y_byNot, .ref y_valueOf, .int y_given, .ref y_lines, .ref y_lineWhat, .ref y_lineA, .ref y_lineB, .ref y_seens, .ref y_seenIn, .ref y_seenYards, .ref y_seenNear, .ref y_s, .ref y_aside, .ref y_before, .ref y_marked, .ref y_undone, .ref y_isLaid, .int (nI y_done), .int y_snowNow, .int y_cameNow, .int y_cookThen, .int y_tasteThen, .ref y_places, .ref y_comesAt, .ref y_yardsIn, .long y_g]), (y_supper, kI k 8 y_supperF)] H → va_D A [(y, kO 9 [.int y_thrown, .int (nI y_taped), .ref y_tape, .int (nI y_size), .int (nI y_place), .int (nI y_begin), .int (nI y_token), .long y_word, .int y_told, .int y_wrong, .ref y_supper, .ref y_guestName, .ref y_kind, .ref y_offTold, .ref y_pace, .ref y_cooks, .ref y_snow, .ref y_lineFrom, .ref y_lineTo, .ref y_codes, .int (nI y_code), .int y_toldLines, .ref y_opened, .ref y_compared, .ref y_kept, .ref y_keptBy, .ref y_ahead, .ref y_against, .ref y_sum, .ref y_sumBy, .ref y_term, .ref y_termBy, .ref y_byNot, .ref y_valueOf, .int y_given, .ref y_lines, .ref y_lineWhat, .ref y_lineA, .ref y_lineB, .ref y_seens, .ref y_seenIn, .ref y_seenYards, .ref y_seenNear, .ref y_s, .ref y_aside, .ref y_before, .ref y_marked, .ref y_undone, .ref y_isLaid, .int (nI y_done), .int y_snowNow, .int y_cameNow, .int y_cookThen, .int y_tasteThen, .ref y_places, .ref y_comesAt, .ref y_yardsIn, .long y_g]), (y_supper, kI k 8 y_supperF)] → va_S A s.heap H locs → lv_has ls 2 [(0, .ref y), (1, .int g)] → W p l e R s m args below meth c H locs 0 0 Q (F0 m 18 ls []) := by
    intro H locs ls hZ hP hD hS hl
    refine lv_iconst (v := 0) hx hb dX9_isGuest_18 (by decide) ?_
    rw [hQ]
    have hP9 := hP.sub (ws' := [(y, kO 9 [.int y_thrown, .int (nI y_taped), .ref y_tape, .int (nI y_size), .int (nI y_place), .int (nI y_begin), .int (nI y_token), .long y_word, .int y_told, .int y_wrong, .ref y_supper, .ref y_guestName, .ref y_kind, .ref y_offTold, .ref y_pace, .ref y_cooks, .ref y_snow, .ref y_lineFrom, .ref y_lineTo, .ref y_codes, .int (nI y_code), .int y_toldLines, .ref y_opened, .ref y_compared, .ref y_kept, .ref y_keptBy, .ref y_ahead, .ref y_against, .ref y_sum, .ref y_sumBy, .ref y_term, .ref y_termBy, .ref y_byNot, .ref y_valueOf, .int y_given, .ref y_lines, .ref y_lineWhat, .ref y_lineA, .ref y_lineB, .ref y_seens, .ref y_seenIn, .ref y_seenYards, .ref y_seenNear, .ref y_s, .ref y_aside, .ref y_before, .ref y_marked, .ref y_undone, .ref y_isLaid, .int (nI y_done), .int y_snowNow, .int y_cameNow, .int y_cookThen, .int y_tasteThen, .ref y_places, .ref y_comesAt, .ref y_yardsIn, .long y_g]), (y_supper, kI k 8 y_supperF)]) [0, 1] rfl
    have hD9 := hD.sub (ws' := [(y, kO 9 [.int y_thrown, .int (nI y_taped), .ref y_tape, .int (nI y_size), .int (nI y_place), .int (nI y_begin), .int (nI y_token), .long y_word, .int y_told, .int y_wrong, .ref y_supper, .ref y_guestName, .ref y_kind, .ref y_offTold, .ref y_pace, .ref y_cooks, .ref y_snow, .ref y_lineFrom, .ref y_lineTo, .ref y_codes, .int (nI y_code), .int y_toldLines, .ref y_opened, .ref y_compared, .ref y_kept, .ref y_keptBy, .ref y_ahead, .ref y_against, .ref y_sum, .ref y_sumBy, .ref y_term, .ref y_termBy, .ref y_byNot, .ref y_valueOf, .int y_given, .ref y_lines, .ref y_lineWhat, .ref y_lineA, .ref y_lineB, .ref y_seens, .ref y_seenIn, .ref y_seenYards, .ref y_seenNear, .ref y_s, .ref y_aside, .ref y_before, .ref y_marked, .ref y_undone, .ref y_isLaid, .int (nI y_done), .int y_snowNow, .int y_cameNow, .int y_cookThen, .int y_tasteThen, .ref y_places, .ref y_comesAt, .ref y_yardsIn, .long y_g]), (y_supper, kI k 8 y_supperF)]) [0, 1] (by decide) rfl
    exact W.zret (v := 0) hx hb hr rfl (fun zt ht hW => ⟨⟨0, false, rfl, ⟨rfl, (hZ.trans hE0), (fun h9 => by first | exact absurd h9 (by decide) | exact Bool.noConfusion h9 | omega | (dsimp only; omega))⟩, by rw [ht]; exact hP9, hD9⟩, hS.F ht⟩) hS.2.2 dX9_isGuest_19
  refine lv_if_lt (tgt := 18) hx hb dX9_isGuest_1 (by decide) (fun c_2 => ?_) (fun c_2 => ?_)
  · skip
    have t_2 : (Int32.toInt g) < 0 := tI_lt rfl (by decide) c_2
    have hZ := (if_pos c_2).symm.trans hZ
    exact hj18_1 _ _ _ hZ (hP.sub [0, 1] rfl) (hD.sub [0, 1] (by decide) rfl) hS (lv_sub hl [0, 1] rfl)
  · skip
    have t_2 : (Int32.toInt g) ≥ 0 := tI_nlt rfl (by decide) c_2
    have hZ := (if_neg c_2).symm.trans hZ
    refine lv_iload_n hx hb dX9_isGuest_4 rfl (lv_at hl 1 rfl) ?_
    refine lv_aload_n hx hb dX9_isGuest_5 rfl (lv_at hl 0 rfl) ?_
    refine va_get (D := D) (ci := 9) (v := .ref y_supper) (C := RX9) (T := TX9) (N := 58) hx hb hts hi9 hown hK hP 0 rfl rfl 10 (by decide) lf13 (fun _ h9 => h9) rfl dX9_isGuest_6 ?_
    refine lv_iconst (v := 0) hx hb dX9_isGuest_9 (by decide) ?_
    refine va_iald hx hb hK hP 1 0 rfl rfl (vp_in_iff.mpr (by decide)) dX9_isGuest_10 ?_
    have lf3 : 0 ≤ Int32.toInt (y_supperF (Int32.toNatClampNeg 0)) ∧ Int32.toInt (y_supperF (Int32.toNatClampNeg 0)) ≤ 6 := h_y_supper.1
    refine lv_icmp_ge (tgt := 18) hx hb dX9_isGuest_11 (by decide) (fun c_4 => ?_) (fun c_4 => ?_)
    · skip
      have t_4 : (Int32.toInt (y_supperF (Int32.toNatClampNeg 0))) ≤ (Int32.toInt g) := tI_le rfl rfl c_4
      have hZ := (if_pos c_4).symm.trans hZ
      exact hj18_1 _ _ _ hZ (hP.sub [0, 1] rfl) (hD.sub [0, 1] (by decide) rfl) hS (lv_sub hl [0, 1] rfl)
    · skip
      have t_4 : (Int32.toInt (y_supperF (Int32.toNatClampNeg 0))) > (Int32.toInt g) := tI_nle rfl rfl c_4
      have hZ := (if_neg c_4).symm.trans hZ
      refine lv_iconst (v := 1) hx hb dX9_isGuest_14 (by decide) ?_
      refine lv_goto (tgt := 19) hx hb dX9_isGuest_15 (by decide) ?_
      rw [hQ]
      have hP9 := hP.sub (ws' := [(y, kO 9 [.int y_thrown, .int (nI y_taped), .ref y_tape, .int (nI y_size), .int (nI y_place), .int (nI y_begin), .int (nI y_token), .long y_word, .int y_told, .int y_wrong, .ref y_supper, .ref y_guestName, .ref y_kind, .ref y_offTold, .ref y_pace, .ref y_cooks, .ref y_snow, .ref y_lineFrom, .ref y_lineTo, .ref y_codes, .int (nI y_code), .int y_toldLines, .ref y_opened, .ref y_compared, .ref y_kept, .ref y_keptBy, .ref y_ahead, .ref y_against, .ref y_sum, .ref y_sumBy, .ref y_term, .ref y_termBy, .ref y_byNot, .ref y_valueOf, .int y_given, .ref y_lines, .ref y_lineWhat, .ref y_lineA, .ref y_lineB, .ref y_seens, .ref y_seenIn, .ref y_seenYards, .ref y_seenNear, .ref y_s, .ref y_aside, .ref y_before, .ref y_marked, .ref y_undone, .ref y_isLaid, .int (nI y_done), .int y_snowNow, .int y_cameNow, .int y_cookThen, .int y_tasteThen, .ref y_places, .ref y_comesAt, .ref y_yardsIn, .long y_g]), (y_supper, kI k 8 y_supperF)]) [0, 1] rfl
      have hD9 := hD.sub (ws' := [(y, kO 9 [.int y_thrown, .int (nI y_taped), .ref y_tape, .int (nI y_size), .int (nI y_place), .int (nI y_begin), .int (nI y_token), .long y_word, .int y_told, .int y_wrong, .ref y_supper, .ref y_guestName, .ref y_kind, .ref y_offTold, .ref y_pace, .ref y_cooks, .ref y_snow, .ref y_lineFrom, .ref y_lineTo, .ref y_codes, .int (nI y_code), .int y_toldLines, .ref y_opened, .ref y_compared, .ref y_kept, .ref y_keptBy, .ref y_ahead, .ref y_against, .ref y_sum, .ref y_sumBy, .ref y_term, .ref y_termBy, .ref y_byNot, .ref y_valueOf, .int y_given, .ref y_lines, .ref y_lineWhat, .ref y_lineA, .ref y_lineB, .ref y_seens, .ref y_seenIn, .ref y_seenYards, .ref y_seenNear, .ref y_s, .ref y_aside, .ref y_before, .ref y_marked, .ref y_undone, .ref y_isLaid, .int (nI y_done), .int y_snowNow, .int y_cameNow, .int y_cookThen, .int y_tasteThen, .ref y_places, .ref y_comesAt, .ref y_yardsIn, .long y_g]), (y_supper, kI k 8 y_supperF)]) [0, 1] (by decide) rfl
      exact W.zret (v := 1) hx hb hr rfl (fun zt ht hW => ⟨⟨1, true, rfl, ⟨rfl, (hZ.trans hE0), (fun h9 => by first | exact absurd h9 (by decide) | exact Bool.noConfusion h9 | omega | (dsimp only; omega))⟩, by rw [ht]; exact hP9, hD9⟩, hS.F ht⟩) hS.2.2 dX9_isGuest_19
theorem dX9_isIn_0 : decode cX9_isIn 0 = .ok (.aload_n 0, 1) := by decide +kernel
theorem dX9_isIn_1 : decode cX9_isIn 1 = .ok (.getfield 105, 3) := by decide +kernel
theorem dX9_isIn_4 : decode cX9_isIn 4 = .ok (.iconst 4, 1) := by decide +kernel
theorem dX9_isIn_5 : decode cX9_isIn 5 = .ok (.iload_n 1, 1) := by decide +kernel
theorem dX9_isIn_6 : decode cX9_isIn 6 = .ok (.iadd, 1) := by decide +kernel
theorem dX9_isIn_7 : decode cX9_isIn 7 = .ok (.iaload, 1) := by decide +kernel
theorem dX9_isIn_8 : decode cX9_isIn 8 = .ok (.ifCond .ne 7, 3) := by decide +kernel
theorem dX9_isIn_11 : decode cX9_isIn 11 = .ok (.iconst 1, 1) := by decide +kernel
theorem dX9_isIn_12 : decode cX9_isIn 12 = .ok (.goto 4, 3) := by decide +kernel
theorem dX9_isIn_15 : decode cX9_isIn 15 = .ok (.iconst 0, 1) := by decide +kernel
theorem dX9_isIn_16 : decode cX9_isIn 16 = .ok (.ireturn, 1) := by decide +kernel
set_option maxHeartbeats 4000000 in
set_option maxRecDepth 100000 in
theorem sX9_isIn (l : Launch) (D : va_G) (k : Nat → ClassId) (sz : Nat) (y : Nat) (g : Int32) (y_thrown : Int32) (y_taped : Nat) (y_tape : Nat) (y_size : Nat) (y_place : Nat) (y_begin : Nat) (y_token : Nat) (y_word : Int64) (y_told : Int32) (y_wrong : Int32) (y_supper : Nat) (y_guestName : Nat) (y_kind : Nat) (y_offTold : Nat) (y_pace : Nat) (y_cooks : Nat) (y_snow : Nat) (y_lineFrom : Nat) (y_lineTo : Nat) (y_codes : Nat) (y_code : Nat) (y_toldLines : Int32) (y_opened : Nat) (y_compared : Nat) (y_kept : Nat) (y_keptBy : Nat) (y_ahead : Nat) (y_against : Nat) (y_sum : Nat) (y_sumBy : Nat) (y_term : Nat) (y_termBy : Nat) (y_byNot : Nat) (y_valueOf : Nat) (y_given : Int32) (y_lines : Nat) (y_lineWhat : Nat) (y_lineA : Nat) (y_lineB : Nat) (y_seens : Nat) (y_seenIn : Nat) (y_seenYards : Nat) (y_seenNear : Nat) (y_s : Nat) (y_aside : Nat) (y_before : Nat) (y_marked : Nat) (y_undone : Nat) (y_isLaid : Nat) (y_done : Nat) (y_snowNow : Int32) (y_cameNow : Int32) (y_cookThen : Int32) (y_tasteThen : Int32) (y_places : Nat) (y_comesAt : Nat) (y_yardsIn : Nat) (y_g : Int64) (y_sF : Nat → Int32) (mb : Nat) (hg : 0 ≤ Int32.toInt g ∧ Int32.toInt g ≤ 5) (hmb : mb ≤ 1000000) (h_y_taped : y_taped ≤ 1000) (h_y_size : y_size ≤ 1000) (h_y_place : y_place ≤ 1000) (h_y_begin : y_begin ≤ 1000) (h_y_token : y_token ≤ 4) (h_y_told : 0 ≤ Int32.toInt y_told ∧ Int32.toInt y_told ≤ 9999) (h_y_code : y_code ≤ 2000) (h_y_done : y_done ≤ 16) (h_y_s : I9_min mb y_sF) : Met l yX9_isIn wsX9_isIn ({ frames := 0, cells := 0, slots := 0, locals := 0 }) (va_Pc [.ref y, .int g] (kz_Pre D k [(y, kO 9 [.int y_thrown, .int (nI y_taped), .ref y_tape, .int (nI y_size), .int (nI y_place), .int (nI y_begin), .int (nI y_token), .long y_word, .int y_told, .int y_wrong, .ref y_supper, .ref y_guestName, .ref y_kind, .ref y_offTold, .ref y_pace, .ref y_cooks, .ref y_snow, .ref y_lineFrom, .ref y_lineTo, .ref y_codes, .int (nI y_code), .int y_toldLines, .ref y_opened, .ref y_compared, .ref y_kept, .ref y_keptBy, .ref y_ahead, .ref y_against, .ref y_sum, .ref y_sumBy, .ref y_term, .ref y_termBy, .ref y_byNot, .ref y_valueOf, .int y_given, .ref y_lines, .ref y_lineWhat, .ref y_lineA, .ref y_lineB, .ref y_seens, .ref y_seenIn, .ref y_seenYards, .ref y_seenNear, .ref y_s, .ref y_aside, .ref y_before, .ref y_marked, .ref y_undone, .ref y_isLaid, .int (nI y_done), .int y_snowNow, .int y_cameNow, .int y_cookThen, .int y_tasteThen, .ref y_places, .ref y_comesAt, .ref y_yardsIn, .long y_g]), (y_s, kI k 46 y_sF)] sz)) (va_Qi (fun (rr : Int32) (uu : Bool) => rr = bB uu ∧ ((uu) = (fX9_isIn g y_sF))) (fun uu zt => kz_B D (va_A [(y, kO 9 [.int y_thrown, .int (nI y_taped), .ref y_tape, .int (nI y_size), .int (nI y_place), .int (nI y_begin), .int (nI y_token), .long y_word, .int y_told, .int y_wrong, .ref y_supper, .ref y_guestName, .ref y_kind, .ref y_offTold, .ref y_pace, .ref y_cooks, .ref y_snow, .ref y_lineFrom, .ref y_lineTo, .ref y_codes, .int (nI y_code), .int y_toldLines, .ref y_opened, .ref y_compared, .ref y_kept, .ref y_keptBy, .ref y_ahead, .ref y_against, .ref y_sum, .ref y_sumBy, .ref y_term, .ref y_termBy, .ref y_byNot, .ref y_valueOf, .int y_given, .ref y_lines, .ref y_lineWhat, .ref y_lineA, .ref y_lineB, .ref y_seens, .ref y_seenIn, .ref y_seenYards, .ref y_seenNear, .ref y_s, .ref y_aside, .ref y_before, .ref y_marked, .ref y_undone, .ref y_isLaid, .int (nI y_done), .int y_snowNow, .int y_cameNow, .int y_cookThen, .int y_tasteThen, .ref y_places, .ref y_comesAt, .ref y_yardsIn, .long y_g]), (y_s, kI k 46 y_sF)] sz) [(y, kO 9 [.int y_thrown, .int (nI y_taped), .ref y_tape, .int (nI y_size), .int (nI y_place), .int (nI y_begin), .int (nI y_token), .long y_word, .int y_told, .int y_wrong, .ref y_supper, .ref y_guestName, .ref y_kind, .ref y_offTold, .ref y_pace, .ref y_cooks, .ref y_snow, .ref y_lineFrom, .ref y_lineTo, .ref y_codes, .int (nI y_code), .int y_toldLines, .ref y_opened, .ref y_compared, .ref y_kept, .ref y_keptBy, .ref y_ahead, .ref y_against, .ref y_sum, .ref y_sumBy, .ref y_term, .ref y_termBy, .ref y_byNot, .ref y_valueOf, .int y_given, .ref y_lines, .ref y_lineWhat, .ref y_lineA, .ref y_lineB, .ref y_seens, .ref y_seenIn, .ref y_seenYards, .ref y_seenNear, .ref y_s, .ref y_aside, .ref y_before, .ref y_marked, .ref y_undone, .ref y_isLaid, .int (nI y_done), .int y_snowNow, .int y_cameNow, .int y_cookThen, .int y_tasteThen, .ref y_places, .ref y_comesAt, .ref y_yardsIn, .long y_g]), (y_s, kI k 46 y_sF)] zt) (va_A [(y, kO 9 [.int y_thrown, .int (nI y_taped), .ref y_tape, .int (nI y_size), .int (nI y_place), .int (nI y_begin), .int (nI y_token), .long y_word, .int y_told, .int y_wrong, .ref y_supper, .ref y_guestName, .ref y_kind, .ref y_offTold, .ref y_pace, .ref y_cooks, .ref y_snow, .ref y_lineFrom, .ref y_lineTo, .ref y_codes, .int (nI y_code), .int y_toldLines, .ref y_opened, .ref y_compared, .ref y_kept, .ref y_keptBy, .ref y_ahead, .ref y_against, .ref y_sum, .ref y_sumBy, .ref y_term, .ref y_termBy, .ref y_byNot, .ref y_valueOf, .int y_given, .ref y_lines, .ref y_lineWhat, .ref y_lineA, .ref y_lineB, .ref y_seens, .ref y_seenIn, .ref y_seenYards, .ref y_seenNear, .ref y_s, .ref y_aside, .ref y_before, .ref y_marked, .ref y_undone, .ref y_isLaid, .int (nI y_done), .int y_snowNow, .int y_cameNow, .int y_cookThen, .int y_tasteThen, .ref y_places, .ref y_comesAt, .ref y_yardsIn, .long y_g]), (y_s, kI k 46 y_sF)] sz)) 0 0 (va_A [(y, kO 9 [.int y_thrown, .int (nI y_taped), .ref y_tape, .int (nI y_size), .int (nI y_place), .int (nI y_begin), .int (nI y_token), .long y_word, .int y_told, .int y_wrong, .ref y_supper, .ref y_guestName, .ref y_kind, .ref y_offTold, .ref y_pace, .ref y_cooks, .ref y_snow, .ref y_lineFrom, .ref y_lineTo, .ref y_codes, .int (nI y_code), .int y_toldLines, .ref y_opened, .ref y_compared, .ref y_kept, .ref y_keptBy, .ref y_ahead, .ref y_against, .ref y_sum, .ref y_sumBy, .ref y_term, .ref y_termBy, .ref y_byNot, .ref y_valueOf, .int y_given, .ref y_lines, .ref y_lineWhat, .ref y_lineA, .ref y_lineB, .ref y_seens, .ref y_seenIn, .ref y_seenYards, .ref y_seenNear, .ref y_s, .ref y_aside, .ref y_before, .ref y_marked, .ref y_undone, .ref y_isLaid, .int (nI y_done), .int y_snowNow, .int y_cameNow, .int y_cookThen, .int y_tasteThen, .ref y_places, .ref y_comesAt, .ref y_yardsIn, .long y_g]), (y_s, kI k 46 y_sF)] sz) := by
  refine Met.ofW (cc := cX9_isIn) (maxL := 2) (ret := (some .boolean)) (by decide) rfl ?_
  intro p e s m args below meth c s₁ B hml hv
  obtain ⟨hav, hsz, hP, hK, hD0, hE⟩ := hv
  have hx := B.exec
  have hb := B.bytes
  have hr := B.returns
  have hts := atoms_spec (ws := wsX9_isIn) B.pre
  have hown : s.vm.findClass RX9 = some m.cls := findClass_of_methodNamed B.named
  have hlocks := B.notSynchronized
  have hi9 : ∀ w ∈ u_ws RX9 TX9 58, w ∈ wsX9_isIn := by decide +kernel
  have lf105 := hts (.fieldLink RX9 105 "LastCookModel" "s" "[I") (by decide +kernel)
  subst hsz
  have hD := hD0.self (sz := s.heap.size)
  generalize hAe : va_A [(y, kO 9 [.int y_thrown, .int (nI y_taped), .ref y_tape, .int (nI y_size), .int (nI y_place), .int (nI y_begin), .int (nI y_token), .long y_word, .int y_told, .int y_wrong, .ref y_supper, .ref y_guestName, .ref y_kind, .ref y_offTold, .ref y_pace, .ref y_cooks, .ref y_snow, .ref y_lineFrom, .ref y_lineTo, .ref y_codes, .int (nI y_code), .int y_toldLines, .ref y_opened, .ref y_compared, .ref y_kept, .ref y_keptBy, .ref y_ahead, .ref y_against, .ref y_sum, .ref y_sumBy, .ref y_term, .ref y_termBy, .ref y_byNot, .ref y_valueOf, .int y_given, .ref y_lines, .ref y_lineWhat, .ref y_lineA, .ref y_lineB, .ref y_seens, .ref y_seenIn, .ref y_seenYards, .ref y_seenNear, .ref y_s, .ref y_aside, .ref y_before, .ref y_marked, .ref y_undone, .ref y_isLaid, .int (nI y_done), .int y_snowNow, .int y_cameNow, .int y_cookThen, .int y_tasteThen, .ref y_places, .ref y_comesAt, .ref y_yardsIn, .long y_g]), (y_s, kI k 46 y_sF)] s.heap.size = A at hD ⊢
  have hA : ∀ q : Nat, s.heap.size ≤ q → A q := fun q h => by rw [← hAe]; exact Or.inr h
  have hS : va_S A s.heap s.heap [] := va_S.rf
  have hl := lv_entry ([.ref y, .int g]) (n := 2) (Nat.le_of_ble_eq_true rfl)
  rw [show entryFrame m args 2 = entryFrame m ([.ref y, .int g] : List Value).toArray 2 by rw [hav], lg_entry_eq]
  generalize (lg_sl ([.ref y, .int g]) ++ List.replicate (2 - (lg_sl ([.ref y, .int g])).length) Slot.unset).toArray = ls at hl ⊢
  have hl : lv_has ls 2 [(0, .ref y), (1, .int g)] := hl
  obtain ⟨R, hR⟩ : ∃ R, R = (headSpec wsX9_isIn ({ frames := 0, cells := 0, slots := 0, locals := 0 } : Room)).room := ⟨_, rfl⟩
  rw [← hR]
  generalize hQ : MQ below _ args s 0 0 A = Q
  replace hQ := hQ.symm
  obtain ⟨H, hH⟩ : ∃ H, H = s.heap := ⟨_, rfl⟩
  rw [← hH] at hP ⊢
  have hS : va_S A s.heap H [] := by rw [hH]; exact hS
  obtain ⟨E0, hE0⟩ : ∃ E0 : Bool, E0 = (fX9_isIn g y_sF) := ⟨_, rfl⟩
  have hZ : (fX9_isIn g y_sF) = E0 := hE0.symm
  refine lv_aload_n hx hb dX9_isIn_0 rfl (lv_at hl 0 rfl) ?_
  refine va_get (D := D) (ci := 9) (v := .ref y_s) (C := RX9) (T := TX9) (N := 58) hx hb hts hi9 hown hK hP 0 rfl rfl 43 (by decide) lf105 (fun _ h9 => h9) rfl dX9_isIn_1 ?_
  refine lv_iconst (v := 4) hx hb dX9_isIn_4 (by decide) ?_
  refine lv_iload_n hx hb dX9_isIn_5 rfl (lv_at hl 1 rfl) ?_
  refine lv_iadd hx hb dX9_isIn_6 ?_
  try have ta_1 : Int32.toInt (4 + g) = 4 + (Int32.toInt g) := tI_add (by decide) rfl (by omega) (by omega)
  refine va_iald hx hb hK hP 1 0 rfl rfl (vp_in_iff.mpr (by omega)) dX9_isIn_7 ?_
  have hj16_2 : ∀ (s0_16 : Bool) (H : Heap) (locs : List Loc) (ls : Array Slot), (fX9_isIn_J16a s0_16 = E0) → va_P D vwCl [(y, kO 9 [.int y_thrown, .int (nI y_taped), .ref y_tape, .int (nI y_size), .int (nI y_place), .int (nI y_begin), .int (nI y_token), .long y_word, .int y_told, .int y_wrong, .ref y_supper, .ref y_guestName, .ref y_kind, .ref y_offTold, .ref y_pace, .ref y_cooks, .ref y_snow, .ref y_lineFrom, .ref y_lineTo, .ref y_codes, .int (nI y_code), .int y_toldLines, .ref y_opened, .ref y_compared, .ref y_kept, .ref y_keptBy, .ref y_ahead, .ref y_against, .ref y_sum, .ref y_sumBy, .ref y_term, .ref y_termBy, .ref y_byNot, .ref y_valueOf, .int y_given, .ref y_lines, .ref y_lineWhat, .ref y_lineA, .ref y_lineB, .ref y_seens, .ref y_seenIn, .ref y_seenYards, .ref y_seenNear, .ref y_s, .ref y_aside, .ref y_before, .ref y_marked, .ref y_undone, .ref y_isLaid, .int (nI y_done), .int y_snowNow, .int y_cameNow, .int y_cookThen, .int y_tasteThen, .ref y_places, .ref y_comesAt, .ref y_yardsIn, .long y_g]), (y_s, kI k 46 y_sF)] H → va_D A [(y, kO 9 [.int y_thrown, .int (nI y_taped), .ref y_tape, .int (nI y_size), .int (nI y_place), .int (nI y_begin), .int (nI y_token), .long y_word, .int y_told, .int y_wrong, .ref y_supper, .ref y_guestName, .ref y_kind, .ref y_offTold, .ref y_pace, .ref y_cooks, .ref y_snow, .ref y_lineFrom, .ref y_lineTo, .ref y_codes, .int (nI y_code), .int y_toldLines, .ref y_opened, .ref y_compared, .ref y_kept, .ref y_keptBy, .ref y_ahead, .ref y_against, .ref y_sum, .ref y_sumBy, .ref y_term, .ref y_termBy, .ref y_byNot, .ref y_valueOf, .int y_given, .ref y_lines, .ref y_lineWhat, .ref y_lineA, .ref y_lineB, .ref y_seens, .ref y_seenIn, .ref y_seenYards, .ref y_seenNear, .ref y_s, .ref y_aside, .ref y_before, .ref y_marked, .ref y_undone, .ref y_isLaid, .int (nI y_done), .int y_snowNow, .int y_cameNow, .int y_cookThen, .int y_tasteThen, .ref y_places, .ref y_comesAt, .ref y_yardsIn, .long y_g]), (y_s, kI k 46 y_sF)] → va_S A s.heap H locs → lv_has ls 2 [(0, .ref y), (1, .int g)] → W p l e R s m args below meth c H locs 0 0 Q (F0 m 16 ls [.int (bB s0_16)]) := by
    intro s0_16 H locs ls hZ hP hD hS hl
    rw [hQ]
    have hP9 := hP.sub (ws' := [(y, kO 9 [.int y_thrown, .int (nI y_taped), .ref y_tape, .int (nI y_size), .int (nI y_place), .int (nI y_begin), .int (nI y_token), .long y_word, .int y_told, .int y_wrong, .ref y_supper, .ref y_guestName, .ref y_kind, .ref y_offTold, .ref y_pace, .ref y_cooks, .ref y_snow, .ref y_lineFrom, .ref y_lineTo, .ref y_codes, .int (nI y_code), .int y_toldLines, .ref y_opened, .ref y_compared, .ref y_kept, .ref y_keptBy, .ref y_ahead, .ref y_against, .ref y_sum, .ref y_sumBy, .ref y_term, .ref y_termBy, .ref y_byNot, .ref y_valueOf, .int y_given, .ref y_lines, .ref y_lineWhat, .ref y_lineA, .ref y_lineB, .ref y_seens, .ref y_seenIn, .ref y_seenYards, .ref y_seenNear, .ref y_s, .ref y_aside, .ref y_before, .ref y_marked, .ref y_undone, .ref y_isLaid, .int (nI y_done), .int y_snowNow, .int y_cameNow, .int y_cookThen, .int y_tasteThen, .ref y_places, .ref y_comesAt, .ref y_yardsIn, .long y_g]), (y_s, kI k 46 y_sF)]) [0, 1] rfl
    have hD9 := hD.sub (ws' := [(y, kO 9 [.int y_thrown, .int (nI y_taped), .ref y_tape, .int (nI y_size), .int (nI y_place), .int (nI y_begin), .int (nI y_token), .long y_word, .int y_told, .int y_wrong, .ref y_supper, .ref y_guestName, .ref y_kind, .ref y_offTold, .ref y_pace, .ref y_cooks, .ref y_snow, .ref y_lineFrom, .ref y_lineTo, .ref y_codes, .int (nI y_code), .int y_toldLines, .ref y_opened, .ref y_compared, .ref y_kept, .ref y_keptBy, .ref y_ahead, .ref y_against, .ref y_sum, .ref y_sumBy, .ref y_term, .ref y_termBy, .ref y_byNot, .ref y_valueOf, .int y_given, .ref y_lines, .ref y_lineWhat, .ref y_lineA, .ref y_lineB, .ref y_seens, .ref y_seenIn, .ref y_seenYards, .ref y_seenNear, .ref y_s, .ref y_aside, .ref y_before, .ref y_marked, .ref y_undone, .ref y_isLaid, .int (nI y_done), .int y_snowNow, .int y_cameNow, .int y_cookThen, .int y_tasteThen, .ref y_places, .ref y_comesAt, .ref y_yardsIn, .long y_g]), (y_s, kI k 46 y_sF)]) [0, 1] (by decide) rfl
    exact W.zret (v := (bB s0_16)) hx hb hr (narrow_bB _) (fun zt ht hW => ⟨⟨(bB s0_16), s0_16, rfl, ⟨rfl, (hZ.trans hE0)⟩, by rw [ht]; exact hP9, hD9⟩, hS.F ht⟩) hS.2.2 dX9_isIn_16
  refine lv_if_ne (tgt := 15) hx hb dX9_isIn_8 (by decide) (fun c_3 => ?_) (fun c_3 => ?_)
  · skip
    have t_3 : (Int32.toInt (y_sF (Int32.toNatClampNeg (4 + g)))) ≠ 0 := tI_ne rfl (by decide) c_3
    have hZ := (if_neg c_3).symm.trans hZ
    refine lv_iconst (v := 0) hx hb dX9_isIn_15 (by decide) ?_
    exact hj16_2 false _ _ _ hZ (hP.sub [0, 1] rfl) (hD.sub [0, 1] (by decide) rfl) hS (lv_sub hl [0, 1] rfl)
  · skip
    have t_3 : (Int32.toInt (y_sF (Int32.toNatClampNeg (4 + g)))) = 0 := tI_eq rfl (by decide) c_3
    have hZ := (if_pos c_3).symm.trans hZ
    refine lv_iconst (v := 1) hx hb dX9_isIn_11 (by decide) ?_
    refine lv_goto (tgt := 16) hx hb dX9_isIn_12 (by decide) ?_
    exact hj16_2 true _ _ _ hZ (hP.sub [0, 1] rfl) (hD.sub [0, 1] (by decide) rfl) hS (lv_sub hl [0, 1] rfl)
set_option maxHeartbeats 4000000 in
set_option maxRecDepth 100000 in
theorem sX9_bitsZ (l : Launch) (D : va_G) (k : Nat → ClassId) (sz : Nat) (x_ : Int32) : Met l yX9_bits wsX9_bits ({ frames := 0, cells := 0, slots := 0, locals := 0 }) (va_Pc [.int x_] (kz_Pre D k [] sz)) (va_Qi (fun (rr : Int32) (uu : Unit) => (Int32.toInt x_ = 0 → rr = 0) ∧ ((rr) = (fX9_bitsZ x_))) (fun uu zt => kz_B D (va_A [] sz) [] zt) (va_A [] sz)) 0 0 (va_A [] sz) := by
  refine Met.ofW (cc := cX9_bits) (maxL := 3) (ret := (some .int)) (by decide) rfl ?_
  intro p e s m args below meth c s₁ B hml hv
  obtain ⟨hav, hsz, hP, hK, hD0, hE⟩ := hv
  have hx := B.exec
  have hb := B.bytes
  have hr := B.returns
  have hts := atoms_spec (ws := wsX9_bits) B.pre
  have hown : s.vm.findClass RX9 = some m.cls := findClass_of_methodNamed B.named
  have hlocks := B.notSynchronized
  subst hsz
  have hD := hD0.self (sz := s.heap.size)
  generalize hAe : va_A [] s.heap.size = A at hD ⊢
  have hA : ∀ q : Nat, s.heap.size ≤ q → A q := fun q h => by rw [← hAe]; exact Or.inr h
  have hS : va_S A s.heap s.heap [] := va_S.rf
  have hl := lv_entry ([.int x_]) (n := 3) (Nat.le_of_ble_eq_true rfl)
  rw [show entryFrame m args 3 = entryFrame m ([.int x_] : List Value).toArray 3 by rw [hav], lg_entry_eq]
  generalize (lg_sl ([.int x_]) ++ List.replicate (3 - (lg_sl ([.int x_])).length) Slot.unset).toArray = ls at hl ⊢
  have hl : lv_has ls 3 [(0, .int x_)] := hl
  obtain ⟨R, hR⟩ : ∃ R, R = (headSpec wsX9_bits ({ frames := 0, cells := 0, slots := 0, locals := 0 } : Room)).room := ⟨_, rfl⟩
  rw [← hR]
  generalize hQ : MQ below _ args s 0 0 A = Q
  replace hQ := hQ.symm
  obtain ⟨H, hH⟩ : ∃ H, H = s.heap := ⟨_, rfl⟩
  rw [← hH] at hP ⊢
  have hS : va_S A s.heap H [] := by rw [hH]; exact hS
  obtain ⟨E0, hE0⟩ : ∃ E0 : Int32, E0 = (fX9_bitsZ x_) := ⟨_, rfl⟩
  have hZ : (fX9_bitsZ x_) = E0 := hE0.symm
  refine lv_iconst (v := 0) hx hb dX9_bits_0 (by decide) ?_
  refine lv_istore_n (lv' := [(1, .int 0), (0, .int x_)]) hx hb dX9_bits_1 rfl hl (by decide) rfl (fun ls hl => ?_)
  refine lv_iconst (v := 0) hx hb dX9_bits_2 (by decide) ?_
  refine lv_istore_n (lv' := [(2, .int 0), (1, .int 0), (0, .int x_)]) hx hb dX9_bits_3 rfl hl (by decide) rfl (fun ls hl => ?_)
  have hloop4 : ∀ (nq : Nat) (l1_4 : Int32) (l2_4 : Nat) (H : Heap) (locs : List Loc) (ls : Array Slot), (6 + 1 - l2_4) < nq → (l2_4 ≤ 6) → ((Int32.toInt x_ = 0 → l1_4 = 0)) → (lp (fun _ _ => (0 : Int32)) (fX9_bitsZ_B4a x_) nq l1_4 l2_4 = E0) → va_P D vwCl [] H → va_D A [] → va_S A s.heap H locs → lv_has ls 3 [(0, .int x_), (1, .int l1_4), (2, .int (nI l2_4))] → W p l e R s m args below meth c H locs 0 0 Q (F0 m 4 ls []) := by
    intro n4
    induction n4 with
    | zero => intro l1_4 l2_4 H locs ls hm; exact absurd hm (Nat.not_lt_zero _)
    | succ n4 ih4 =>
      intro l1_4 l2_4 H locs ls hm4 i_l2_4 v4_0 hZ hP hD hS hl
      obtain ⟨rc4_1, hrc4_1⟩ : ∃ r : Int32 → Nat → Int32, r = lp (fun _ _ => (0 : Int32)) (fX9_bitsZ_B4a x_) n4 := ⟨_, rfl⟩
      have hZ : (fX9_bitsZ_B4a x_) rc4_1 l1_4 l2_4 = E0 := by rw [hrc4_1]; exact hZ
      refine lv_iload_n hx hb dX9_bits_4 rfl (lv_at hl 2 rfl) ?_
      refine lv_bipush (v := 6) hx hb dX9_bits_5 (by decide) ?_
      refine lv_icmp_ge (tgt := 24) hx hb dX9_bits_7 (by decide) (fun c_2 => ?_) (fun c_2 => ?_)
      · skip
        have k_2 : 6 ≤ l2_4 := (nI_leI (a := 6) (b := l2_4) (by omega) (by omega)).mp c_2
        have hZ := (if_pos k_2).symm.trans hZ
        refine lv_iload_n hx hb dX9_bits_24 rfl (lv_at hl 1 rfl) ?_
        rw [hQ]
        have hP9 := hP.sub (ws' := []) [] rfl
        have hD9 := hD.sub (ws' := []) [] (by decide) rfl
        exact W.iret (v := l1_4) hx hb hr (fun zt ht hW => ⟨⟨l1_4, (), rfl, ⟨(by assumption), (hZ.trans hE0)⟩, by rw [ht]; exact hP9, hD9⟩, hS.F ht⟩) hS.2.2 dX9_bits_25
      · skip
        have k_2 : ¬ (6 ≤ l2_4) := fun h => c_2 ((nI_leI (a := 6) (b := l2_4) (by omega) (by omega)).mpr h)
        have hZ := (if_neg k_2).symm.trans hZ
        refine lv_iload_n hx hb dX9_bits_10 rfl (lv_at hl 1 rfl) ?_
        refine lv_iload_n hx hb dX9_bits_11 rfl (lv_at hl 0 rfl) ?_
        refine lv_iload_n hx hb dX9_bits_12 rfl (lv_at hl 2 rfl) ?_
        refine lv_ishr hx hb dX9_bits_13 ?_
        refine lv_iconst (v := 1) hx hb dX9_bits_14 (by decide) ?_
        refine lv_iand hx hb dX9_bits_15 ?_
        refine lv_iadd hx hb dX9_bits_16 ?_
        refine lv_istore_n (lv' := [(1, .int (l1_4 + ((x_ >>> ((nI l2_4) &&& 31)) &&& 1))), (0, .int x_), (2, .int (nI l2_4))]) hx hb dX9_bits_17 rfl hl (by decide) rfl (fun ls hl => ?_)
        refine lv_iinc (v := (nI (l2_4 + 1))) (lv' := [(2, .int (nI (l2_4 + 1))), (1, .int (l1_4 + ((x_ >>> ((nI l2_4) &&& 31)) &&& 1))), (0, .int x_)]) hx hb dX9_bits_18 hl (k := 2) rfl (nI_1 _) (by decide) rfl (fun ls hl => ?_)
        refine lv_goto (tgt := 4) hx hb dX9_bits_21 (by decide) ?_
        exact ih4 (l1_4 + ((x_ >>> ((nI l2_4) &&& 31)) &&& 1)) (l2_4 + 1) _ _ _ (by omega) (by first | omega | assumption) (by first | exact fun _ => rfl | exact bits0 (by assumption)) (by rw [← hrc4_1]; exact hZ) (hP.sub [] rfl) (hD.sub [] (by decide) rfl) hS (lv_sub hl [2, 1, 0] rfl)
  exact hloop4 ((6 + 1 - 0) + 1) (0 : Int32) 0 _ _ _ (Nat.lt_succ_self _) (by first | omega | assumption) (by first | exact fun _ => rfl | exact bits0 (by assumption)) hZ (hP.sub [] rfl) (hD.sub [] (by decide) rfl) hS (lv_sub hl [2, 1, 0] rfl)
theorem dX9_onRoad_0 : decode cX9_onRoad 0 = .ok (.iconst 0, 1) := by decide +kernel
theorem dX9_onRoad_1 : decode cX9_onRoad 1 = .ok (.istore_n 1, 1) := by decide +kernel
theorem dX9_onRoad_2 : decode cX9_onRoad 2 = .ok (.iconst 0, 1) := by decide +kernel
theorem dX9_onRoad_3 : decode cX9_onRoad 3 = .ok (.istore_n 2, 1) := by decide +kernel
theorem dX9_onRoad_4 : decode cX9_onRoad 4 = .ok (.iload_n 2, 1) := by decide +kernel
theorem dX9_onRoad_5 : decode cX9_onRoad 5 = .ok (.aload_n 0, 1) := by decide +kernel
theorem dX9_onRoad_6 : decode cX9_onRoad 6 = .ok (.getfield 13, 3) := by decide +kernel
theorem dX9_onRoad_9 : decode cX9_onRoad 9 = .ok (.iconst 0, 1) := by decide +kernel
theorem dX9_onRoad_10 : decode cX9_onRoad 10 = .ok (.iaload, 1) := by decide +kernel
theorem dX9_onRoad_11 : decode cX9_onRoad 11 = .ok (.if_icmp .ge 27, 3) := by decide +kernel
theorem dX9_onRoad_14 : decode cX9_onRoad 14 = .ok (.iload_n 1, 1) := by decide +kernel
theorem dX9_onRoad_15 : decode cX9_onRoad 15 = .ok (.aload_n 0, 1) := by decide +kernel
theorem dX9_onRoad_16 : decode cX9_onRoad 16 = .ok (.iload_n 2, 1) := by decide +kernel
theorem dX9_onRoad_17 : decode cX9_onRoad 17 = .ok (.invokevirtual 332, 3) := by decide +kernel
theorem dX9_onRoad_20 : decode cX9_onRoad 20 = .ok (.ifCond .eq 7, 3) := by decide +kernel
theorem dX9_onRoad_23 : decode cX9_onRoad 23 = .ok (.iconst 0, 1) := by decide +kernel
theorem dX9_onRoad_24 : decode cX9_onRoad 24 = .ok (.goto 6, 3) := by decide +kernel
theorem dX9_onRoad_27 : decode cX9_onRoad 27 = .ok (.iconst 1, 1) := by decide +kernel
theorem dX9_onRoad_28 : decode cX9_onRoad 28 = .ok (.iload_n 2, 1) := by decide +kernel
theorem dX9_onRoad_29 : decode cX9_onRoad 29 = .ok (.ishl, 1) := by decide +kernel
theorem dX9_onRoad_30 : decode cX9_onRoad 30 = .ok (.ior, 1) := by decide +kernel
theorem dX9_onRoad_31 : decode cX9_onRoad 31 = .ok (.istore_n 1, 1) := by decide +kernel
theorem dX9_onRoad_32 : decode cX9_onRoad 32 = .ok (.iinc 2 1, 3) := by decide +kernel
theorem dX9_onRoad_35 : decode cX9_onRoad 35 = .ok (.goto (-31), 3) := by decide +kernel
theorem dX9_onRoad_38 : decode cX9_onRoad 38 = .ok (.iload_n 1, 1) := by decide +kernel
theorem dX9_onRoad_39 : decode cX9_onRoad 39 = .ok (.ireturn, 1) := by decide +kernel
set_option maxRecDepth 20000 in
theorem ggX9_onRoad_X9_isIn : GoodIn wsX9_onRoad wsX9_isIn := goodIn_r _ [6, 7, 8, 9, 10, 11, 12, 13, 14, 15, 16, 17, 18, 19, 20, 21, 22, 23, 24, 25, 26, 27, 28, 29, 30, 31, 32, 33, 34, 35, 36, 37, 38, 39, 40, 41, 42, 43, 44, 45, 46, 47, 48, 49, 50, 51, 52, 53, 54, 55, 56, 57, 58, 59, 60, 61, 62, 63, 64, 65] rfl (by decide +kernel)
set_option maxRecDepth 20000 in
theorem gX9_onRoad_X9_isIn : GoodIn wsX9_onRoad (wsV RX9 332 RX9 yX9_isIn wsX9_isIn) := goodIn_app (goodIn_of _ (by decide +kernel)) ggX9_onRoad_X9_isIn
set_option maxHeartbeats 4000000 in
set_option maxRecDepth 100000 in
theorem sX9_onRoad (l : Launch) (D : va_G) (k : Nat → ClassId) (sz : Nat) (y : Nat) (y_thrown : Int32) (y_taped : Nat) (y_tape : Nat) (y_size : Nat) (y_place : Nat) (y_begin : Nat) (y_token : Nat) (y_word : Int64) (y_told : Int32) (y_wrong : Int32) (y_supper : Nat) (y_guestName : Nat) (y_kind : Nat) (y_offTold : Nat) (y_pace : Nat) (y_cooks : Nat) (y_snow : Nat) (y_lineFrom : Nat) (y_lineTo : Nat) (y_codes : Nat) (y_code : Nat) (y_toldLines : Int32) (y_opened : Nat) (y_compared : Nat) (y_kept : Nat) (y_keptBy : Nat) (y_ahead : Nat) (y_against : Nat) (y_sum : Nat) (y_sumBy : Nat) (y_term : Nat) (y_termBy : Nat) (y_byNot : Nat) (y_valueOf : Nat) (y_given : Int32) (y_lines : Nat) (y_lineWhat : Nat) (y_lineA : Nat) (y_lineB : Nat) (y_seens : Nat) (y_seenIn : Nat) (y_seenYards : Nat) (y_seenNear : Nat) (y_s : Nat) (y_aside : Nat) (y_before : Nat) (y_marked : Nat) (y_undone : Nat) (y_isLaid : Nat) (y_done : Nat) (y_snowNow : Int32) (y_cameNow : Int32) (y_cookThen : Int32) (y_tasteThen : Int32) (y_places : Nat) (y_comesAt : Nat) (y_yardsIn : Nat) (y_g : Int64) (y_supperF : Nat → Int32) (y_sF : Nat → Int32) (mb : Nat) (hmb : mb ≤ 1000000) (h_y_taped : y_taped ≤ 1000) (h_y_size : y_size ≤ 1000) (h_y_place : y_place ≤ 1000) (h_y_begin : y_begin ≤ 1000) (h_y_token : y_token ≤ 4) (h_y_told : 0 ≤ Int32.toInt y_told ∧ Int32.toInt y_told ≤ 9999) (h_y_code : y_code ≤ 2000) (h_y_done : y_done ≤ 16) (h_y_s : I9_min mb y_sF) (h_y_supper : I9_sup y_supperF) : Met l yX9_onRoad wsX9_onRoad ({ frames := 1, cells := 0, slots := 0, locals := 70 }) (va_Pc [.ref y] (kz_Pre D k [(y, kO 9 [.int y_thrown, .int (nI y_taped), .ref y_tape, .int (nI y_size), .int (nI y_place), .int (nI y_begin), .int (nI y_token), .long y_word, .int y_told, .int y_wrong, .ref y_supper, .ref y_guestName, .ref y_kind, .ref y_offTold, .ref y_pace, .ref y_cooks, .ref y_snow, .ref y_lineFrom, .ref y_lineTo, .ref y_codes, .int (nI y_code), .int y_toldLines, .ref y_opened, .ref y_compared, .ref y_kept, .ref y_keptBy, .ref y_ahead, .ref y_against, .ref y_sum, .ref y_sumBy, .ref y_term, .ref y_termBy, .ref y_byNot, .ref y_valueOf, .int y_given, .ref y_lines, .ref y_lineWhat, .ref y_lineA, .ref y_lineB, .ref y_seens, .ref y_seenIn, .ref y_seenYards, .ref y_seenNear, .ref y_s, .ref y_aside, .ref y_before, .ref y_marked, .ref y_undone, .ref y_isLaid, .int (nI y_done), .int y_snowNow, .int y_cameNow, .int y_cookThen, .int y_tasteThen, .ref y_places, .ref y_comesAt, .ref y_yardsIn, .long y_g]), (y_supper, kI k 8 y_supperF), (y_s, kI k 46 y_sF)] sz)) (va_Qi (fun (rr : Int32) (uu : Unit) => (Int32.toInt (y_supperF (Int32.toNatClampNeg 0)) = 0 → Int32.toInt rr = 0) ∧ ((rr) = (fX9_onRoad y_supperF y_sF))) (fun uu zt => kz_B D (va_A [(y, kO 9 [.int y_thrown, .int (nI y_taped), .ref y_tape, .int (nI y_size), .int (nI y_place), .int (nI y_begin), .int (nI y_token), .long y_word, .int y_told, .int y_wrong, .ref y_supper, .ref y_guestName, .ref y_kind, .ref y_offTold, .ref y_pace, .ref y_cooks, .ref y_snow, .ref y_lineFrom, .ref y_lineTo, .ref y_codes, .int (nI y_code), .int y_toldLines, .ref y_opened, .ref y_compared, .ref y_kept, .ref y_keptBy, .ref y_ahead, .ref y_against, .ref y_sum, .ref y_sumBy, .ref y_term, .ref y_termBy, .ref y_byNot, .ref y_valueOf, .int y_given, .ref y_lines, .ref y_lineWhat, .ref y_lineA, .ref y_lineB, .ref y_seens, .ref y_seenIn, .ref y_seenYards, .ref y_seenNear, .ref y_s, .ref y_aside, .ref y_before, .ref y_marked, .ref y_undone, .ref y_isLaid, .int (nI y_done), .int y_snowNow, .int y_cameNow, .int y_cookThen, .int y_tasteThen, .ref y_places, .ref y_comesAt, .ref y_yardsIn, .long y_g]), (y_supper, kI k 8 y_supperF), (y_s, kI k 46 y_sF)] sz) [(y, kO 9 [.int y_thrown, .int (nI y_taped), .ref y_tape, .int (nI y_size), .int (nI y_place), .int (nI y_begin), .int (nI y_token), .long y_word, .int y_told, .int y_wrong, .ref y_supper, .ref y_guestName, .ref y_kind, .ref y_offTold, .ref y_pace, .ref y_cooks, .ref y_snow, .ref y_lineFrom, .ref y_lineTo, .ref y_codes, .int (nI y_code), .int y_toldLines, .ref y_opened, .ref y_compared, .ref y_kept, .ref y_keptBy, .ref y_ahead, .ref y_against, .ref y_sum, .ref y_sumBy, .ref y_term, .ref y_termBy, .ref y_byNot, .ref y_valueOf, .int y_given, .ref y_lines, .ref y_lineWhat, .ref y_lineA, .ref y_lineB, .ref y_seens, .ref y_seenIn, .ref y_seenYards, .ref y_seenNear, .ref y_s, .ref y_aside, .ref y_before, .ref y_marked, .ref y_undone, .ref y_isLaid, .int (nI y_done), .int y_snowNow, .int y_cameNow, .int y_cookThen, .int y_tasteThen, .ref y_places, .ref y_comesAt, .ref y_yardsIn, .long y_g]), (y_supper, kI k 8 y_supperF), (y_s, kI k 46 y_sF)] zt) (va_A [(y, kO 9 [.int y_thrown, .int (nI y_taped), .ref y_tape, .int (nI y_size), .int (nI y_place), .int (nI y_begin), .int (nI y_token), .long y_word, .int y_told, .int y_wrong, .ref y_supper, .ref y_guestName, .ref y_kind, .ref y_offTold, .ref y_pace, .ref y_cooks, .ref y_snow, .ref y_lineFrom, .ref y_lineTo, .ref y_codes, .int (nI y_code), .int y_toldLines, .ref y_opened, .ref y_compared, .ref y_kept, .ref y_keptBy, .ref y_ahead, .ref y_against, .ref y_sum, .ref y_sumBy, .ref y_term, .ref y_termBy, .ref y_byNot, .ref y_valueOf, .int y_given, .ref y_lines, .ref y_lineWhat, .ref y_lineA, .ref y_lineB, .ref y_seens, .ref y_seenIn, .ref y_seenYards, .ref y_seenNear, .ref y_s, .ref y_aside, .ref y_before, .ref y_marked, .ref y_undone, .ref y_isLaid, .int (nI y_done), .int y_snowNow, .int y_cameNow, .int y_cookThen, .int y_tasteThen, .ref y_places, .ref y_comesAt, .ref y_yardsIn, .long y_g]), (y_supper, kI k 8 y_supperF), (y_s, kI k 46 y_sF)] sz)) 0 0 (va_A [(y, kO 9 [.int y_thrown, .int (nI y_taped), .ref y_tape, .int (nI y_size), .int (nI y_place), .int (nI y_begin), .int (nI y_token), .long y_word, .int y_told, .int y_wrong, .ref y_supper, .ref y_guestName, .ref y_kind, .ref y_offTold, .ref y_pace, .ref y_cooks, .ref y_snow, .ref y_lineFrom, .ref y_lineTo, .ref y_codes, .int (nI y_code), .int y_toldLines, .ref y_opened, .ref y_compared, .ref y_kept, .ref y_keptBy, .ref y_ahead, .ref y_against, .ref y_sum, .ref y_sumBy, .ref y_term, .ref y_termBy, .ref y_byNot, .ref y_valueOf, .int y_given, .ref y_lines, .ref y_lineWhat, .ref y_lineA, .ref y_lineB, .ref y_seens, .ref y_seenIn, .ref y_seenYards, .ref y_seenNear, .ref y_s, .ref y_aside, .ref y_before, .ref y_marked, .ref y_undone, .ref y_isLaid, .int (nI y_done), .int y_snowNow, .int y_cameNow, .int y_cookThen, .int y_tasteThen, .ref y_places, .ref y_comesAt, .ref y_yardsIn, .long y_g]), (y_supper, kI k 8 y_supperF), (y_s, kI k 46 y_sF)] sz) := by
  refine Met.ofW (cc := cX9_onRoad) (maxL := 3) (ret := (some .int)) (by decide) rfl ?_
  intro p e s m args below meth c s₁ B hml hv
  obtain ⟨hav, hsz, hP, hK, hD0, hE⟩ := hv
  have hx := B.exec
  have hb := B.bytes
  have hr := B.returns
  have hts := atoms_spec (ws := wsX9_onRoad) B.pre
  have hown : s.vm.findClass RX9 = some m.cls := findClass_of_methodNamed B.named
  have hlocks := B.notSynchronized
  have hi9 : ∀ w ∈ u_ws RX9 TX9 58, w ∈ wsX9_onRoad := by decide +kernel
  have lf13 := hts (.fieldLink RX9 13 "LastCookModel" "supper" "[I") (by decide +kernel)
  subst hsz
  have hD := hD0.self (sz := s.heap.size)
  generalize hAe : va_A [(y, kO 9 [.int y_thrown, .int (nI y_taped), .ref y_tape, .int (nI y_size), .int (nI y_place), .int (nI y_begin), .int (nI y_token), .long y_word, .int y_told, .int y_wrong, .ref y_supper, .ref y_guestName, .ref y_kind, .ref y_offTold, .ref y_pace, .ref y_cooks, .ref y_snow, .ref y_lineFrom, .ref y_lineTo, .ref y_codes, .int (nI y_code), .int y_toldLines, .ref y_opened, .ref y_compared, .ref y_kept, .ref y_keptBy, .ref y_ahead, .ref y_against, .ref y_sum, .ref y_sumBy, .ref y_term, .ref y_termBy, .ref y_byNot, .ref y_valueOf, .int y_given, .ref y_lines, .ref y_lineWhat, .ref y_lineA, .ref y_lineB, .ref y_seens, .ref y_seenIn, .ref y_seenYards, .ref y_seenNear, .ref y_s, .ref y_aside, .ref y_before, .ref y_marked, .ref y_undone, .ref y_isLaid, .int (nI y_done), .int y_snowNow, .int y_cameNow, .int y_cookThen, .int y_tasteThen, .ref y_places, .ref y_comesAt, .ref y_yardsIn, .long y_g]), (y_supper, kI k 8 y_supperF), (y_s, kI k 46 y_sF)] s.heap.size = A at hD ⊢
  have hA : ∀ q : Nat, s.heap.size ≤ q → A q := fun q h => by rw [← hAe]; exact Or.inr h
  have hS : va_S A s.heap s.heap [] := va_S.rf
  have hl := lv_entry ([.ref y]) (n := 3) (Nat.le_of_ble_eq_true rfl)
  rw [show entryFrame m args 3 = entryFrame m ([.ref y] : List Value).toArray 3 by rw [hav], lg_entry_eq]
  generalize (lg_sl ([.ref y]) ++ List.replicate (3 - (lg_sl ([.ref y])).length) Slot.unset).toArray = ls at hl ⊢
  have hl : lv_has ls 3 [(0, .ref y)] := hl
  obtain ⟨R, hR⟩ : ∃ R, R = (headSpec wsX9_onRoad ({ frames := 1, cells := 0, slots := 0, locals := 70 } : Room)).room := ⟨_, rfl⟩
  rw [← hR]
  generalize hQ : MQ below _ args s 0 0 A = Q
  replace hQ := hQ.symm
  obtain ⟨H, hH⟩ : ∃ H, H = s.heap := ⟨_, rfl⟩
  rw [← hH] at hP ⊢
  have hS : va_S A s.heap H [] := by rw [hH]; exact hS
  obtain ⟨E0, hE0⟩ : ∃ E0 : Int32, E0 = (fX9_onRoad y_supperF y_sF) := ⟨_, rfl⟩
  have hZ : (fX9_onRoad y_supperF y_sF) = E0 := hE0.symm
  refine lv_iconst (v := 0) hx hb dX9_onRoad_0 (by decide) ?_
  refine lv_istore_n (lv' := [(1, .int 0), (0, .ref y)]) hx hb dX9_onRoad_1 rfl hl (by decide) rfl (fun ls hl => ?_)
  refine lv_iconst (v := 0) hx hb dX9_onRoad_2 (by decide) ?_
  refine lv_istore_n (lv' := [(2, .int 0), (1, .int 0), (0, .ref y)]) hx hb dX9_onRoad_3 rfl hl (by decide) rfl (fun ls hl => ?_)
  have hloop4 : ∀ (nq : Nat) (l1_4 : Int32) (l2_4 : Nat) (H : Heap) (locs : List Loc) (ls : Array Slot), (6 + 1 - l2_4) < nq → (l2_4 ≤ 6) → ((Int32.toInt (y_supperF (Int32.toNatClampNeg 0)) = 0 → Int32.toInt l1_4 = 0)) → (lp (fun _ _ => (0 : Int32)) (fX9_onRoad_B4a y_supperF y_sF) nq l1_4 l2_4 = E0) → va_P D vwCl [(y, kO 9 [.int y_thrown, .int (nI y_taped), .ref y_tape, .int (nI y_size), .int (nI y_place), .int (nI y_begin), .int (nI y_token), .long y_word, .int y_told, .int y_wrong, .ref y_supper, .ref y_guestName, .ref y_kind, .ref y_offTold, .ref y_pace, .ref y_cooks, .ref y_snow, .ref y_lineFrom, .ref y_lineTo, .ref y_codes, .int (nI y_code), .int y_toldLines, .ref y_opened, .ref y_compared, .ref y_kept, .ref y_keptBy, .ref y_ahead, .ref y_against, .ref y_sum, .ref y_sumBy, .ref y_term, .ref y_termBy, .ref y_byNot, .ref y_valueOf, .int y_given, .ref y_lines, .ref y_lineWhat, .ref y_lineA, .ref y_lineB, .ref y_seens, .ref y_seenIn, .ref y_seenYards, .ref y_seenNear, .ref y_s, .ref y_aside, .ref y_before, .ref y_marked, .ref y_undone, .ref y_isLaid, .int (nI y_done), .int y_snowNow, .int y_cameNow, .int y_cookThen, .int y_tasteThen, .ref y_places, .ref y_comesAt, .ref y_yardsIn, .long y_g]), (y_supper, kI k 8 y_supperF), (y_s, kI k 46 y_sF)] H → va_D A [(y, kO 9 [.int y_thrown, .int (nI y_taped), .ref y_tape, .int (nI y_size), .int (nI y_place), .int (nI y_begin), .int (nI y_token), .long y_word, .int y_told, .int y_wrong, .ref y_supper, .ref y_guestName, .ref y_kind, .ref y_offTold, .ref y_pace, .ref y_cooks, .ref y_snow, .ref y_lineFrom, .ref y_lineTo, .ref y_codes, .int (nI y_code), .int y_toldLines, .ref y_opened, .ref y_compared, .ref y_kept, .ref y_keptBy, .ref y_ahead, .ref y_against, .ref y_sum, .ref y_sumBy, .ref y_term, .ref y_termBy, .ref y_byNot, .ref y_valueOf, .int y_given, .ref y_lines, .ref y_lineWhat, .ref y_lineA, .ref y_lineB, .ref y_seens, .ref y_seenIn, .ref y_seenYards, .ref y_seenNear, .ref y_s, .ref y_aside, .ref y_before, .ref y_marked, .ref y_undone, .ref y_isLaid, .int (nI y_done), .int y_snowNow, .int y_cameNow, .int y_cookThen, .int y_tasteThen, .ref y_places, .ref y_comesAt, .ref y_yardsIn, .long y_g]), (y_supper, kI k 8 y_supperF), (y_s, kI k 46 y_sF)] → va_S A s.heap H locs → lv_has ls 3 [(0, .ref y), (1, .int l1_4), (2, .int (nI l2_4))] → W p l e R s m args below meth c H locs 0 0 Q (F0 m 4 ls []) := by
    intro n4
    induction n4 with
    | zero => intro l1_4 l2_4 H locs ls hm; exact absurd hm (Nat.not_lt_zero _)
    | succ n4 ih4 =>
      intro l1_4 l2_4 H locs ls hm4 i_l2_4 v4_0 hZ hP hD hS hl
      obtain ⟨rc4_1, hrc4_1⟩ : ∃ r : Int32 → Nat → Int32, r = lp (fun _ _ => (0 : Int32)) (fX9_onRoad_B4a y_supperF y_sF) n4 := ⟨_, rfl⟩
      have hZ : (fX9_onRoad_B4a y_supperF y_sF) rc4_1 l1_4 l2_4 = E0 := by rw [hrc4_1]; exact hZ
      refine lv_iload_n hx hb dX9_onRoad_4 rfl (lv_at hl 2 rfl) ?_
      refine lv_aload_n hx hb dX9_onRoad_5 rfl (lv_at hl 0 rfl) ?_
      refine va_get (D := D) (ci := 9) (v := .ref y_supper) (C := RX9) (T := TX9) (N := 58) hx hb hts hi9 hown hK hP 0 rfl rfl 10 (by decide) lf13 (fun _ h9 => h9) rfl dX9_onRoad_6 ?_
      refine lv_iconst (v := 0) hx hb dX9_onRoad_9 (by decide) ?_
      refine va_iald hx hb hK hP 1 0 rfl rfl (vp_in_iff.mpr (by decide)) dX9_onRoad_10 ?_
      have lf2 : 0 ≤ Int32.toInt (y_supperF (Int32.toNatClampNeg 0)) ∧ Int32.toInt (y_supperF (Int32.toNatClampNeg 0)) ≤ 6 := h_y_supper.1
      refine lv_icmp_ge (tgt := 38) hx hb dX9_onRoad_11 (by decide) (fun c_3 => ?_) (fun c_3 => ?_)
      · skip
        have t_3 : (Int32.toInt (y_supperF (Int32.toNatClampNeg 0))) ≤ ((l2_4 : Nat) : Int) := tI_le rfl (nI_toInt (by omega)) c_3
        have hZ := (if_pos c_3).symm.trans hZ
        refine lv_iload_n hx hb dX9_onRoad_38 rfl (lv_at hl 1 rfl) ?_
        rw [hQ]
        have hP9 := hP.sub (ws' := [(y, kO 9 [.int y_thrown, .int (nI y_taped), .ref y_tape, .int (nI y_size), .int (nI y_place), .int (nI y_begin), .int (nI y_token), .long y_word, .int y_told, .int y_wrong, .ref y_supper, .ref y_guestName, .ref y_kind, .ref y_offTold, .ref y_pace, .ref y_cooks, .ref y_snow, .ref y_lineFrom, .ref y_lineTo, .ref y_codes, .int (nI y_code), .int y_toldLines, .ref y_opened, .ref y_compared, .ref y_kept, .ref y_keptBy, .ref y_ahead, .ref y_against, .ref y_sum, .ref y_sumBy, .ref y_term, .ref y_termBy, .ref y_byNot, .ref y_valueOf, .int y_given, .ref y_lines, .ref y_lineWhat, .ref y_lineA, .ref y_lineB, .ref y_seens, .ref y_seenIn, .ref y_seenYards, .ref y_seenNear, .ref y_s, .ref y_aside, .ref y_before, .ref y_marked, .ref y_undone, .ref y_isLaid, .int (nI y_done), .int y_snowNow, .int y_cameNow, .int y_cookThen, .int y_tasteThen, .ref y_places, .ref y_comesAt, .ref y_yardsIn, .long y_g]), (y_supper, kI k 8 y_supperF), (y_s, kI k 46 y_sF)]) [0, 1, 2] rfl
        have hD9 := hD.sub (ws' := [(y, kO 9 [.int y_thrown, .int (nI y_taped), .ref y_tape, .int (nI y_size), .int (nI y_place), .int (nI y_begin), .int (nI y_token), .long y_word, .int y_told, .int y_wrong, .ref y_supper, .ref y_guestName, .ref y_kind, .ref y_offTold, .ref y_pace, .ref y_cooks, .ref y_snow, .ref y_lineFrom, .ref y_lineTo, .ref y_codes, .int (nI y_code), .int y_toldLines, .ref y_opened, .ref y_compared, .ref y_kept, .ref y_keptBy, .ref y_ahead, .ref y_against, .ref y_sum, .ref y_sumBy, .ref y_term, .ref y_termBy, .ref y_byNot, .ref y_valueOf, .int y_given, .ref y_lines, .ref y_lineWhat, .ref y_lineA, .ref y_lineB, .ref y_seens, .ref y_seenIn, .ref y_seenYards, .ref y_seenNear, .ref y_s, .ref y_aside, .ref y_before, .ref y_marked, .ref y_undone, .ref y_isLaid, .int (nI y_done), .int y_snowNow, .int y_cameNow, .int y_cookThen, .int y_tasteThen, .ref y_places, .ref y_comesAt, .ref y_yardsIn, .long y_g]), (y_supper, kI k 8 y_supperF), (y_s, kI k 46 y_sF)]) [0, 1, 2] (by decide) rfl
        exact W.iret (v := l1_4) hx hb hr (fun zt ht hW => ⟨⟨l1_4, (), rfl, ⟨(by assumption), (hZ.trans hE0)⟩, by rw [ht]; exact hP9, hD9⟩, hS.F ht⟩) hS.2.2 dX9_onRoad_39
      · skip
        have t_3 : (Int32.toInt (y_supperF (Int32.toNatClampNeg 0))) > ((l2_4 : Nat) : Int) := tI_nle rfl (nI_toInt (by omega)) c_3
        have hZ := (if_neg c_3).symm.trans hZ
        refine lv_iload_n hx hb dX9_onRoad_14 rfl (lv_at hl 1 rfl) ?_
        refine lv_aload_n hx hb dX9_onRoad_15 rfl (lv_at hl 0 rfl) ?_
        refine lv_iload_n hx hb dX9_onRoad_16 rfl (lv_at hl 2 rfl) ?_
        have tq4 : Int32.toInt (nI l2_4) = ((l2_4 : Nat) : Int) := nI_toInt (by omega)
        refine kz_Vi (As := [.int (nI l2_4)]) (rest := [.int l1_4]) (wc := [(y, kO 9 [.int y_thrown, .int (nI y_taped), .ref y_tape, .int (nI y_size), .int (nI y_place), .int (nI y_begin), .int (nI y_token), .long y_word, .int y_told, .int y_wrong, .ref y_supper, .ref y_guestName, .ref y_kind, .ref y_offTold, .ref y_pace, .ref y_cooks, .ref y_snow, .ref y_lineFrom, .ref y_lineTo, .ref y_codes, .int (nI y_code), .int y_toldLines, .ref y_opened, .ref y_compared, .ref y_kept, .ref y_keptBy, .ref y_ahead, .ref y_against, .ref y_sum, .ref y_sumBy, .ref y_term, .ref y_termBy, .ref y_byNot, .ref y_valueOf, .int y_given, .ref y_lines, .ref y_lineWhat, .ref y_lineA, .ref y_lineB, .ref y_seens, .ref y_seenIn, .ref y_seenYards, .ref y_seenNear, .ref y_s, .ref y_aside, .ref y_before, .ref y_marked, .ref y_undone, .ref y_isLaid, .int (nI y_done), .int y_snowNow, .int y_cameNow, .int y_cookThen, .int y_tasteThen, .ref y_places, .ref y_comesAt, .ref y_yardsIn, .long y_g]), (y_s, kI k 46 y_sF)]) (wr := [(y_supper, kI k 8 y_supperF)]) ⟨hx, hb, hml, hown, hts⟩ hK hE hP hD hS hA (sX9_isIn l D k H.size y (nI l2_4) y_thrown y_taped y_tape y_size y_place y_begin y_token y_word y_told y_wrong y_supper y_guestName y_kind y_offTold y_pace y_cooks y_snow y_lineFrom y_lineTo y_codes y_code y_toldLines y_opened y_compared y_kept y_keptBy y_ahead y_against y_sum y_sumBy y_term y_termBy y_byNot y_valueOf y_given y_lines y_lineWhat y_lineA y_lineB y_seens y_seenIn y_seenYards y_seenNear y_s y_aside y_before y_marked y_undone y_isLaid y_done y_snowNow y_cameNow y_cookThen y_tasteThen y_places y_comesAt y_yardsIn y_g y_sF mb (by first | omega | assumption | decide) (by first | omega | assumption | decide) (by first | omega | assumption | decide) (by first | omega | assumption | decide) (by first | omega | assumption | decide) (by first | omega | assumption | decide) (by first | omega | assumption | decide) (by first | omega | assumption | decide) (by first | omega | assumption | decide) (by first | omega | assumption | decide) (by first | assumption | exact I9_minM (by assumption) (by omega))) (cwV 1 hts gX9_onRoad_X9_isIn rfl rfl rfl (by decide +kernel) (by rw [hR]; exact ⟨Nat.le_of_ble_eq_true rfl, Nat.le_of_ble_eq_true rfl⟩)) [0, 2] [1] rfl rfl (by decide) (by decide) (by decide) 0 rfl rfl rfl hl.1 rfl (Nat.le_of_ble_eq_true rfl) dX9_onRoad_17 (by rw [hR]; exact ⟨Nat.le_of_ble_eq_true rfl, Nat.le_of_ble_eq_true rfl⟩) (fun r5 u5 H locs hw5 hP hD hS => ?_)
        try dsimp only at hw5
        obtain ⟨rfl, hw5⟩ := hw5
        have hP : va_P D vwCl [(y_supper, kI k 8 y_supperF), (y, kO 9 [.int y_thrown, .int (nI y_taped), .ref y_tape, .int (nI y_size), .int (nI y_place), .int (nI y_begin), .int (nI y_token), .long y_word, .int y_told, .int y_wrong, .ref y_supper, .ref y_guestName, .ref y_kind, .ref y_offTold, .ref y_pace, .ref y_cooks, .ref y_snow, .ref y_lineFrom, .ref y_lineTo, .ref y_codes, .int (nI y_code), .int y_toldLines, .ref y_opened, .ref y_compared, .ref y_kept, .ref y_keptBy, .ref y_ahead, .ref y_against, .ref y_sum, .ref y_sumBy, .ref y_term, .ref y_termBy, .ref y_byNot, .ref y_valueOf, .int y_given, .ref y_lines, .ref y_lineWhat, .ref y_lineA, .ref y_lineB, .ref y_seens, .ref y_seenIn, .ref y_seenYards, .ref y_seenNear, .ref y_s, .ref y_aside, .ref y_before, .ref y_marked, .ref y_undone, .ref y_isLaid, .int (nI y_done), .int y_snowNow, .int y_cameNow, .int y_cookThen, .int y_tasteThen, .ref y_places, .ref y_comesAt, .ref y_yardsIn, .long y_g]), (y_s, kI k 46 y_sF)] H := hP
        have hD : va_D A [(y_supper, kI k 8 y_supperF), (y, kO 9 [.int y_thrown, .int (nI y_taped), .ref y_tape, .int (nI y_size), .int (nI y_place), .int (nI y_begin), .int (nI y_token), .long y_word, .int y_told, .int y_wrong, .ref y_supper, .ref y_guestName, .ref y_kind, .ref y_offTold, .ref y_pace, .ref y_cooks, .ref y_snow, .ref y_lineFrom, .ref y_lineTo, .ref y_codes, .int (nI y_code), .int y_toldLines, .ref y_opened, .ref y_compared, .ref y_kept, .ref y_keptBy, .ref y_ahead, .ref y_against, .ref y_sum, .ref y_sumBy, .ref y_term, .ref y_termBy, .ref y_byNot, .ref y_valueOf, .int y_given, .ref y_lines, .ref y_lineWhat, .ref y_lineA, .ref y_lineB, .ref y_seens, .ref y_seenIn, .ref y_seenYards, .ref y_seenNear, .ref y_s, .ref y_aside, .ref y_before, .ref y_marked, .ref y_undone, .ref y_isLaid, .int (nI y_done), .int y_snowNow, .int y_cameNow, .int y_cookThen, .int y_tasteThen, .ref y_places, .ref y_comesAt, .ref y_yardsIn, .long y_g]), (y_s, kI k 46 y_sF)] := hD
        have hw5_0 := hw5
        have hZ := bn1_e hw5_0 hZ
        have hj30_6 : ∀ (s1_30 : Int32) (H : Heap) (locs : List Loc) (ls : Array Slot), ((fX9_onRoad_J30a l1_4 l2_4 rc4_1) s1_30 = E0) → va_P D vwCl [(y_supper, kI k 8 y_supperF), (y, kO 9 [.int y_thrown, .int (nI y_taped), .ref y_tape, .int (nI y_size), .int (nI y_place), .int (nI y_begin), .int (nI y_token), .long y_word, .int y_told, .int y_wrong, .ref y_supper, .ref y_guestName, .ref y_kind, .ref y_offTold, .ref y_pace, .ref y_cooks, .ref y_snow, .ref y_lineFrom, .ref y_lineTo, .ref y_codes, .int (nI y_code), .int y_toldLines, .ref y_opened, .ref y_compared, .ref y_kept, .ref y_keptBy, .ref y_ahead, .ref y_against, .ref y_sum, .ref y_sumBy, .ref y_term, .ref y_termBy, .ref y_byNot, .ref y_valueOf, .int y_given, .ref y_lines, .ref y_lineWhat, .ref y_lineA, .ref y_lineB, .ref y_seens, .ref y_seenIn, .ref y_seenYards, .ref y_seenNear, .ref y_s, .ref y_aside, .ref y_before, .ref y_marked, .ref y_undone, .ref y_isLaid, .int (nI y_done), .int y_snowNow, .int y_cameNow, .int y_cookThen, .int y_tasteThen, .ref y_places, .ref y_comesAt, .ref y_yardsIn, .long y_g]), (y_s, kI k 46 y_sF)] H → va_D A [(y_supper, kI k 8 y_supperF), (y, kO 9 [.int y_thrown, .int (nI y_taped), .ref y_tape, .int (nI y_size), .int (nI y_place), .int (nI y_begin), .int (nI y_token), .long y_word, .int y_told, .int y_wrong, .ref y_supper, .ref y_guestName, .ref y_kind, .ref y_offTold, .ref y_pace, .ref y_cooks, .ref y_snow, .ref y_lineFrom, .ref y_lineTo, .ref y_codes, .int (nI y_code), .int y_toldLines, .ref y_opened, .ref y_compared, .ref y_kept, .ref y_keptBy, .ref y_ahead, .ref y_against, .ref y_sum, .ref y_sumBy, .ref y_term, .ref y_termBy, .ref y_byNot, .ref y_valueOf, .int y_given, .ref y_lines, .ref y_lineWhat, .ref y_lineA, .ref y_lineB, .ref y_seens, .ref y_seenIn, .ref y_seenYards, .ref y_seenNear, .ref y_s, .ref y_aside, .ref y_before, .ref y_marked, .ref y_undone, .ref y_isLaid, .int (nI y_done), .int y_snowNow, .int y_cameNow, .int y_cookThen, .int y_tasteThen, .ref y_places, .ref y_comesAt, .ref y_yardsIn, .long y_g]), (y_s, kI k 46 y_sF)] → va_S A s.heap H locs → lv_has ls 3 [(0, .ref y), (1, .int l1_4), (2, .int (nI l2_4))] → W p l e R s m args below meth c H locs 0 0 Q (F0 m 30 ls [.int s1_30, .int l1_4]) := by
          intro s1_30 H locs ls hZ hP hD hS hl
          refine lv_ior hx hb dX9_onRoad_30 ?_
          refine lv_istore_n (lv' := [(1, .int (l1_4 ||| s1_30)), (0, .ref y), (2, .int (nI l2_4))]) hx hb dX9_onRoad_31 rfl hl (by decide) rfl (fun ls hl => ?_)
          refine lv_iinc (v := (nI (l2_4 + 1))) (lv' := [(2, .int (nI (l2_4 + 1))), (1, .int (l1_4 ||| s1_30)), (0, .ref y)]) hx hb dX9_onRoad_32 hl (k := 2) rfl (nI_1 _) (by decide) rfl (fun ls hl => ?_)
          refine lv_goto (tgt := 4) hx hb dX9_onRoad_35 (by decide) ?_
          exact ih4 (l1_4 ||| s1_30) (l2_4 + 1) _ _ _ (by omega) (by first | omega | assumption) (by first | omega | exact fun _ => by decide) (by rw [← hrc4_1]; exact hZ) (hP.sub [1, 0, 2] rfl) (hD.sub [1, 0, 2] (by decide) rfl) hS (lv_sub hl [2, 1, 0] rfl)
        refine lv_if_eq (tgt := 27) hx hb dX9_onRoad_20 (by decide) (fun c_7 => ?_) (fun c_7 => ?_)
        · skip
          have b_7 : u5 = false := bB_0 c_7
          have hZ := (if_neg (bF b_7)).symm.trans hZ
          refine lv_iconst (v := 1) hx hb dX9_onRoad_27 (by decide) ?_
          refine lv_iload_n hx hb dX9_onRoad_28 rfl (lv_at hl 2 rfl) ?_
          refine lv_ishl hx hb dX9_onRoad_29 ?_
          exact hj30_6 (1 <<< ((nI l2_4) &&& 31)) _ _ _ hZ (hP.sub [0, 1, 2] rfl) (hD.sub [0, 1, 2] (by decide) rfl) hS (lv_sub hl [0, 1, 2] rfl)
        · skip
          have b_7 : u5 = true := bB_1 c_7
          have hZ := (if_pos b_7).symm.trans hZ
          refine lv_iconst (v := 0) hx hb dX9_onRoad_23 (by decide) ?_
          refine lv_goto (tgt := 30) hx hb dX9_onRoad_24 (by decide) ?_
          exact hj30_6 (0 : Int32) _ _ _ hZ (hP.sub [0, 1, 2] rfl) (hD.sub [0, 1, 2] (by decide) rfl) hS (lv_sub hl [0, 1, 2] rfl)
  exact hloop4 ((6 + 1 - 0) + 1) (0 : Int32) 0 _ _ _ (Nat.lt_succ_self _) (by first | omega | assumption) (by first | omega | exact fun _ => by decide) hZ (hP.sub [0, 1, 2] rfl) (hD.sub [0, 1, 2] (by decide) rfl) hS (lv_sub hl [2, 1, 0] rfl)
theorem dX9_greats_0 : decode cX9_greats 0 = .ok (.iconst 0, 1) := by decide +kernel
theorem dX9_greats_1 : decode cX9_greats 1 = .ok (.istore_n 1, 1) := by decide +kernel
theorem dX9_greats_2 : decode cX9_greats 2 = .ok (.iconst 0, 1) := by decide +kernel
theorem dX9_greats_3 : decode cX9_greats 3 = .ok (.istore_n 2, 1) := by decide +kernel
theorem dX9_greats_4 : decode cX9_greats 4 = .ok (.iload_n 2, 1) := by decide +kernel
theorem dX9_greats_5 : decode cX9_greats 5 = .ok (.aload_n 0, 1) := by decide +kernel
theorem dX9_greats_6 : decode cX9_greats 6 = .ok (.getfield 13, 3) := by decide +kernel
theorem dX9_greats_9 : decode cX9_greats 9 = .ok (.iconst 0, 1) := by decide +kernel
theorem dX9_greats_10 : decode cX9_greats 10 = .ok (.iaload, 1) := by decide +kernel
theorem dX9_greats_11 : decode cX9_greats 11 = .ok (.if_icmp .ge 29, 3) := by decide +kernel
theorem dX9_greats_14 : decode cX9_greats 14 = .ok (.iload_n 1, 1) := by decide +kernel
theorem dX9_greats_15 : decode cX9_greats 15 = .ok (.aload_n 0, 1) := by decide +kernel
theorem dX9_greats_16 : decode cX9_greats 16 = .ok (.getfield 20, 3) := by decide +kernel
theorem dX9_greats_19 : decode cX9_greats 19 = .ok (.iload_n 2, 1) := by decide +kernel
theorem dX9_greats_20 : decode cX9_greats 20 = .ok (.iaload, 1) := by decide +kernel
theorem dX9_greats_21 : decode cX9_greats 21 = .ok (.iconst 3, 1) := by decide +kernel
theorem dX9_greats_22 : decode cX9_greats 22 = .ok (.if_icmp .ne 9, 3) := by decide +kernel
theorem dX9_greats_25 : decode cX9_greats 25 = .ok (.iconst 1, 1) := by decide +kernel
theorem dX9_greats_26 : decode cX9_greats 26 = .ok (.iload_n 2, 1) := by decide +kernel
theorem dX9_greats_27 : decode cX9_greats 27 = .ok (.ishl, 1) := by decide +kernel
theorem dX9_greats_28 : decode cX9_greats 28 = .ok (.goto 4, 3) := by decide +kernel
theorem dX9_greats_31 : decode cX9_greats 31 = .ok (.iconst 0, 1) := by decide +kernel
theorem dX9_greats_32 : decode cX9_greats 32 = .ok (.ior, 1) := by decide +kernel
theorem dX9_greats_33 : decode cX9_greats 33 = .ok (.istore_n 1, 1) := by decide +kernel
theorem dX9_greats_34 : decode cX9_greats 34 = .ok (.iinc 2 1, 3) := by decide +kernel
theorem dX9_greats_37 : decode cX9_greats 37 = .ok (.goto (-33), 3) := by decide +kernel
theorem dX9_greats_40 : decode cX9_greats 40 = .ok (.iload_n 1, 1) := by decide +kernel
theorem dX9_greats_41 : decode cX9_greats 41 = .ok (.ireturn, 1) := by decide +kernel
set_option maxHeartbeats 4000000 in
set_option maxRecDepth 100000 in
theorem sX9_greats (l : Launch) (D : va_G) (k : Nat → ClassId) (sz : Nat) (y : Nat) (y_thrown : Int32) (y_taped : Nat) (y_tape : Nat) (y_size : Nat) (y_place : Nat) (y_begin : Nat) (y_token : Nat) (y_word : Int64) (y_told : Int32) (y_wrong : Int32) (y_supper : Nat) (y_guestName : Nat) (y_kind : Nat) (y_offTold : Nat) (y_pace : Nat) (y_cooks : Nat) (y_snow : Nat) (y_lineFrom : Nat) (y_lineTo : Nat) (y_codes : Nat) (y_code : Nat) (y_toldLines : Int32) (y_opened : Nat) (y_compared : Nat) (y_kept : Nat) (y_keptBy : Nat) (y_ahead : Nat) (y_against : Nat) (y_sum : Nat) (y_sumBy : Nat) (y_term : Nat) (y_termBy : Nat) (y_byNot : Nat) (y_valueOf : Nat) (y_given : Int32) (y_lines : Nat) (y_lineWhat : Nat) (y_lineA : Nat) (y_lineB : Nat) (y_seens : Nat) (y_seenIn : Nat) (y_seenYards : Nat) (y_seenNear : Nat) (y_s : Nat) (y_aside : Nat) (y_before : Nat) (y_marked : Nat) (y_undone : Nat) (y_isLaid : Nat) (y_done : Nat) (y_snowNow : Int32) (y_cameNow : Int32) (y_cookThen : Int32) (y_tasteThen : Int32) (y_places : Nat) (y_comesAt : Nat) (y_yardsIn : Nat) (y_g : Int64) (y_supperF : Nat → Int32) (y_kindF : Nat → Int32) (h_y_taped : y_taped ≤ 1000) (h_y_size : y_size ≤ 1000) (h_y_place : y_place ≤ 1000) (h_y_begin : y_begin ≤ 1000) (h_y_token : y_token ≤ 4) (h_y_told : 0 ≤ Int32.toInt y_told ∧ Int32.toInt y_told ≤ 9999) (h_y_code : y_code ≤ 2000) (h_y_done : y_done ≤ 16) (h_y_supper : I9_sup y_supperF) : Met l yX9_greats wsX9_greats ({ frames := 0, cells := 0, slots := 0, locals := 0 }) (va_Pc [.ref y] (kz_Pre D k [(y, kO 9 [.int y_thrown, .int (nI y_taped), .ref y_tape, .int (nI y_size), .int (nI y_place), .int (nI y_begin), .int (nI y_token), .long y_word, .int y_told, .int y_wrong, .ref y_supper, .ref y_guestName, .ref y_kind, .ref y_offTold, .ref y_pace, .ref y_cooks, .ref y_snow, .ref y_lineFrom, .ref y_lineTo, .ref y_codes, .int (nI y_code), .int y_toldLines, .ref y_opened, .ref y_compared, .ref y_kept, .ref y_keptBy, .ref y_ahead, .ref y_against, .ref y_sum, .ref y_sumBy, .ref y_term, .ref y_termBy, .ref y_byNot, .ref y_valueOf, .int y_given, .ref y_lines, .ref y_lineWhat, .ref y_lineA, .ref y_lineB, .ref y_seens, .ref y_seenIn, .ref y_seenYards, .ref y_seenNear, .ref y_s, .ref y_aside, .ref y_before, .ref y_marked, .ref y_undone, .ref y_isLaid, .int (nI y_done), .int y_snowNow, .int y_cameNow, .int y_cookThen, .int y_tasteThen, .ref y_places, .ref y_comesAt, .ref y_yardsIn, .long y_g]), (y_supper, kI k 8 y_supperF), (y_kind, kI k 12 y_kindF)] sz)) (va_Qi (fun (rr : Int32) (uu : Unit) => ((rr) = (fX9_greats y_supperF y_kindF))) (fun uu zt => kz_B D (va_A [(y, kO 9 [.int y_thrown, .int (nI y_taped), .ref y_tape, .int (nI y_size), .int (nI y_place), .int (nI y_begin), .int (nI y_token), .long y_word, .int y_told, .int y_wrong, .ref y_supper, .ref y_guestName, .ref y_kind, .ref y_offTold, .ref y_pace, .ref y_cooks, .ref y_snow, .ref y_lineFrom, .ref y_lineTo, .ref y_codes, .int (nI y_code), .int y_toldLines, .ref y_opened, .ref y_compared, .ref y_kept, .ref y_keptBy, .ref y_ahead, .ref y_against, .ref y_sum, .ref y_sumBy, .ref y_term, .ref y_termBy, .ref y_byNot, .ref y_valueOf, .int y_given, .ref y_lines, .ref y_lineWhat, .ref y_lineA, .ref y_lineB, .ref y_seens, .ref y_seenIn, .ref y_seenYards, .ref y_seenNear, .ref y_s, .ref y_aside, .ref y_before, .ref y_marked, .ref y_undone, .ref y_isLaid, .int (nI y_done), .int y_snowNow, .int y_cameNow, .int y_cookThen, .int y_tasteThen, .ref y_places, .ref y_comesAt, .ref y_yardsIn, .long y_g]), (y_supper, kI k 8 y_supperF), (y_kind, kI k 12 y_kindF)] sz) [(y, kO 9 [.int y_thrown, .int (nI y_taped), .ref y_tape, .int (nI y_size), .int (nI y_place), .int (nI y_begin), .int (nI y_token), .long y_word, .int y_told, .int y_wrong, .ref y_supper, .ref y_guestName, .ref y_kind, .ref y_offTold, .ref y_pace, .ref y_cooks, .ref y_snow, .ref y_lineFrom, .ref y_lineTo, .ref y_codes, .int (nI y_code), .int y_toldLines, .ref y_opened, .ref y_compared, .ref y_kept, .ref y_keptBy, .ref y_ahead, .ref y_against, .ref y_sum, .ref y_sumBy, .ref y_term, .ref y_termBy, .ref y_byNot, .ref y_valueOf, .int y_given, .ref y_lines, .ref y_lineWhat, .ref y_lineA, .ref y_lineB, .ref y_seens, .ref y_seenIn, .ref y_seenYards, .ref y_seenNear, .ref y_s, .ref y_aside, .ref y_before, .ref y_marked, .ref y_undone, .ref y_isLaid, .int (nI y_done), .int y_snowNow, .int y_cameNow, .int y_cookThen, .int y_tasteThen, .ref y_places, .ref y_comesAt, .ref y_yardsIn, .long y_g]), (y_supper, kI k 8 y_supperF), (y_kind, kI k 12 y_kindF)] zt) (va_A [(y, kO 9 [.int y_thrown, .int (nI y_taped), .ref y_tape, .int (nI y_size), .int (nI y_place), .int (nI y_begin), .int (nI y_token), .long y_word, .int y_told, .int y_wrong, .ref y_supper, .ref y_guestName, .ref y_kind, .ref y_offTold, .ref y_pace, .ref y_cooks, .ref y_snow, .ref y_lineFrom, .ref y_lineTo, .ref y_codes, .int (nI y_code), .int y_toldLines, .ref y_opened, .ref y_compared, .ref y_kept, .ref y_keptBy, .ref y_ahead, .ref y_against, .ref y_sum, .ref y_sumBy, .ref y_term, .ref y_termBy, .ref y_byNot, .ref y_valueOf, .int y_given, .ref y_lines, .ref y_lineWhat, .ref y_lineA, .ref y_lineB, .ref y_seens, .ref y_seenIn, .ref y_seenYards, .ref y_seenNear, .ref y_s, .ref y_aside, .ref y_before, .ref y_marked, .ref y_undone, .ref y_isLaid, .int (nI y_done), .int y_snowNow, .int y_cameNow, .int y_cookThen, .int y_tasteThen, .ref y_places, .ref y_comesAt, .ref y_yardsIn, .long y_g]), (y_supper, kI k 8 y_supperF), (y_kind, kI k 12 y_kindF)] sz)) 0 0 (va_A [(y, kO 9 [.int y_thrown, .int (nI y_taped), .ref y_tape, .int (nI y_size), .int (nI y_place), .int (nI y_begin), .int (nI y_token), .long y_word, .int y_told, .int y_wrong, .ref y_supper, .ref y_guestName, .ref y_kind, .ref y_offTold, .ref y_pace, .ref y_cooks, .ref y_snow, .ref y_lineFrom, .ref y_lineTo, .ref y_codes, .int (nI y_code), .int y_toldLines, .ref y_opened, .ref y_compared, .ref y_kept, .ref y_keptBy, .ref y_ahead, .ref y_against, .ref y_sum, .ref y_sumBy, .ref y_term, .ref y_termBy, .ref y_byNot, .ref y_valueOf, .int y_given, .ref y_lines, .ref y_lineWhat, .ref y_lineA, .ref y_lineB, .ref y_seens, .ref y_seenIn, .ref y_seenYards, .ref y_seenNear, .ref y_s, .ref y_aside, .ref y_before, .ref y_marked, .ref y_undone, .ref y_isLaid, .int (nI y_done), .int y_snowNow, .int y_cameNow, .int y_cookThen, .int y_tasteThen, .ref y_places, .ref y_comesAt, .ref y_yardsIn, .long y_g]), (y_supper, kI k 8 y_supperF), (y_kind, kI k 12 y_kindF)] sz) := by
  refine Met.ofW (cc := cX9_greats) (maxL := 3) (ret := (some .int)) (by decide) rfl ?_
  intro p e s m args below meth c s₁ B hml hv
  obtain ⟨hav, hsz, hP, hK, hD0, hE⟩ := hv
  have hx := B.exec
  have hb := B.bytes
  have hr := B.returns
  have hts := atoms_spec (ws := wsX9_greats) B.pre
  have hown : s.vm.findClass RX9 = some m.cls := findClass_of_methodNamed B.named
  have hlocks := B.notSynchronized
  have hi9 : ∀ w ∈ u_ws RX9 TX9 58, w ∈ wsX9_greats := by decide +kernel
  have lf13 := hts (.fieldLink RX9 13 "LastCookModel" "supper" "[I") (by decide +kernel)
  have lf20 := hts (.fieldLink RX9 20 "LastCookModel" "kind" "[I") (by decide +kernel)
  subst hsz
  have hD := hD0.self (sz := s.heap.size)
  generalize hAe : va_A [(y, kO 9 [.int y_thrown, .int (nI y_taped), .ref y_tape, .int (nI y_size), .int (nI y_place), .int (nI y_begin), .int (nI y_token), .long y_word, .int y_told, .int y_wrong, .ref y_supper, .ref y_guestName, .ref y_kind, .ref y_offTold, .ref y_pace, .ref y_cooks, .ref y_snow, .ref y_lineFrom, .ref y_lineTo, .ref y_codes, .int (nI y_code), .int y_toldLines, .ref y_opened, .ref y_compared, .ref y_kept, .ref y_keptBy, .ref y_ahead, .ref y_against, .ref y_sum, .ref y_sumBy, .ref y_term, .ref y_termBy, .ref y_byNot, .ref y_valueOf, .int y_given, .ref y_lines, .ref y_lineWhat, .ref y_lineA, .ref y_lineB, .ref y_seens, .ref y_seenIn, .ref y_seenYards, .ref y_seenNear, .ref y_s, .ref y_aside, .ref y_before, .ref y_marked, .ref y_undone, .ref y_isLaid, .int (nI y_done), .int y_snowNow, .int y_cameNow, .int y_cookThen, .int y_tasteThen, .ref y_places, .ref y_comesAt, .ref y_yardsIn, .long y_g]), (y_supper, kI k 8 y_supperF), (y_kind, kI k 12 y_kindF)] s.heap.size = A at hD ⊢
  have hA : ∀ q : Nat, s.heap.size ≤ q → A q := fun q h => by rw [← hAe]; exact Or.inr h
  have hS : va_S A s.heap s.heap [] := va_S.rf
  have hl := lv_entry ([.ref y]) (n := 3) (Nat.le_of_ble_eq_true rfl)
  rw [show entryFrame m args 3 = entryFrame m ([.ref y] : List Value).toArray 3 by rw [hav], lg_entry_eq]
  generalize (lg_sl ([.ref y]) ++ List.replicate (3 - (lg_sl ([.ref y])).length) Slot.unset).toArray = ls at hl ⊢
  have hl : lv_has ls 3 [(0, .ref y)] := hl
  obtain ⟨R, hR⟩ : ∃ R, R = (headSpec wsX9_greats ({ frames := 0, cells := 0, slots := 0, locals := 0 } : Room)).room := ⟨_, rfl⟩
  rw [← hR]
  generalize hQ : MQ below _ args s 0 0 A = Q
  replace hQ := hQ.symm
  obtain ⟨H, hH⟩ : ∃ H, H = s.heap := ⟨_, rfl⟩
  rw [← hH] at hP ⊢
  have hS : va_S A s.heap H [] := by rw [hH]; exact hS
  obtain ⟨E0, hE0⟩ : ∃ E0 : Int32, E0 = (fX9_greats y_supperF y_kindF) := ⟨_, rfl⟩
  have hZ : (fX9_greats y_supperF y_kindF) = E0 := hE0.symm
  refine lv_iconst (v := 0) hx hb dX9_greats_0 (by decide) ?_
  refine lv_istore_n (lv' := [(1, .int 0), (0, .ref y)]) hx hb dX9_greats_1 rfl hl (by decide) rfl (fun ls hl => ?_)
  refine lv_iconst (v := 0) hx hb dX9_greats_2 (by decide) ?_
  refine lv_istore_n (lv' := [(2, .int 0), (1, .int 0), (0, .ref y)]) hx hb dX9_greats_3 rfl hl (by decide) rfl (fun ls hl => ?_)
  have hloop4 : ∀ (nq : Nat) (l1_4 : Int32) (l2_4 : Nat) (H : Heap) (locs : List Loc) (ls : Array Slot), (6 + 1 - l2_4) < nq → (l2_4 ≤ 6) → (lp (fun _ _ => (0 : Int32)) (fX9_greats_B4a y_supperF y_kindF) nq l1_4 l2_4 = E0) → va_P D vwCl [(y, kO 9 [.int y_thrown, .int (nI y_taped), .ref y_tape, .int (nI y_size), .int (nI y_place), .int (nI y_begin), .int (nI y_token), .long y_word, .int y_told, .int y_wrong, .ref y_supper, .ref y_guestName, .ref y_kind, .ref y_offTold, .ref y_pace, .ref y_cooks, .ref y_snow, .ref y_lineFrom, .ref y_lineTo, .ref y_codes, .int (nI y_code), .int y_toldLines, .ref y_opened, .ref y_compared, .ref y_kept, .ref y_keptBy, .ref y_ahead, .ref y_against, .ref y_sum, .ref y_sumBy, .ref y_term, .ref y_termBy, .ref y_byNot, .ref y_valueOf, .int y_given, .ref y_lines, .ref y_lineWhat, .ref y_lineA, .ref y_lineB, .ref y_seens, .ref y_seenIn, .ref y_seenYards, .ref y_seenNear, .ref y_s, .ref y_aside, .ref y_before, .ref y_marked, .ref y_undone, .ref y_isLaid, .int (nI y_done), .int y_snowNow, .int y_cameNow, .int y_cookThen, .int y_tasteThen, .ref y_places, .ref y_comesAt, .ref y_yardsIn, .long y_g]), (y_supper, kI k 8 y_supperF), (y_kind, kI k 12 y_kindF)] H → va_D A [(y, kO 9 [.int y_thrown, .int (nI y_taped), .ref y_tape, .int (nI y_size), .int (nI y_place), .int (nI y_begin), .int (nI y_token), .long y_word, .int y_told, .int y_wrong, .ref y_supper, .ref y_guestName, .ref y_kind, .ref y_offTold, .ref y_pace, .ref y_cooks, .ref y_snow, .ref y_lineFrom, .ref y_lineTo, .ref y_codes, .int (nI y_code), .int y_toldLines, .ref y_opened, .ref y_compared, .ref y_kept, .ref y_keptBy, .ref y_ahead, .ref y_against, .ref y_sum, .ref y_sumBy, .ref y_term, .ref y_termBy, .ref y_byNot, .ref y_valueOf, .int y_given, .ref y_lines, .ref y_lineWhat, .ref y_lineA, .ref y_lineB, .ref y_seens, .ref y_seenIn, .ref y_seenYards, .ref y_seenNear, .ref y_s, .ref y_aside, .ref y_before, .ref y_marked, .ref y_undone, .ref y_isLaid, .int (nI y_done), .int y_snowNow, .int y_cameNow, .int y_cookThen, .int y_tasteThen, .ref y_places, .ref y_comesAt, .ref y_yardsIn, .long y_g]), (y_supper, kI k 8 y_supperF), (y_kind, kI k 12 y_kindF)] → va_S A s.heap H locs → lv_has ls 3 [(0, .ref y), (1, .int l1_4), (2, .int (nI l2_4))] → W p l e R s m args below meth c H locs 0 0 Q (F0 m 4 ls []) := by
    intro n4
    induction n4 with
    | zero => intro l1_4 l2_4 H locs ls hm; exact absurd hm (Nat.not_lt_zero _)
    | succ n4 ih4 =>
      intro l1_4 l2_4 H locs ls hm4 i_l2_4 hZ hP hD hS hl
      obtain ⟨rc4_1, hrc4_1⟩ : ∃ r : Int32 → Nat → Int32, r = lp (fun _ _ => (0 : Int32)) (fX9_greats_B4a y_supperF y_kindF) n4 := ⟨_, rfl⟩
      have hZ : (fX9_greats_B4a y_supperF y_kindF) rc4_1 l1_4 l2_4 = E0 := by rw [hrc4_1]; exact hZ
      refine lv_iload_n hx hb dX9_greats_4 rfl (lv_at hl 2 rfl) ?_
      refine lv_aload_n hx hb dX9_greats_5 rfl (lv_at hl 0 rfl) ?_
      refine va_get (D := D) (ci := 9) (v := .ref y_supper) (C := RX9) (T := TX9) (N := 58) hx hb hts hi9 hown hK hP 0 rfl rfl 10 (by decide) lf13 (fun _ h9 => h9) rfl dX9_greats_6 ?_
      refine lv_iconst (v := 0) hx hb dX9_greats_9 (by decide) ?_
      refine va_iald hx hb hK hP 1 0 rfl rfl (vp_in_iff.mpr (by decide)) dX9_greats_10 ?_
      have lf2 : 0 ≤ Int32.toInt (y_supperF (Int32.toNatClampNeg 0)) ∧ Int32.toInt (y_supperF (Int32.toNatClampNeg 0)) ≤ 6 := h_y_supper.1
      refine lv_icmp_ge (tgt := 40) hx hb dX9_greats_11 (by decide) (fun c_3 => ?_) (fun c_3 => ?_)
      · skip
        have t_3 : (Int32.toInt (y_supperF (Int32.toNatClampNeg 0))) ≤ ((l2_4 : Nat) : Int) := tI_le rfl (nI_toInt (by omega)) c_3
        have hZ := (if_pos c_3).symm.trans hZ
        refine lv_iload_n hx hb dX9_greats_40 rfl (lv_at hl 1 rfl) ?_
        rw [hQ]
        have hP9 := hP.sub (ws' := [(y, kO 9 [.int y_thrown, .int (nI y_taped), .ref y_tape, .int (nI y_size), .int (nI y_place), .int (nI y_begin), .int (nI y_token), .long y_word, .int y_told, .int y_wrong, .ref y_supper, .ref y_guestName, .ref y_kind, .ref y_offTold, .ref y_pace, .ref y_cooks, .ref y_snow, .ref y_lineFrom, .ref y_lineTo, .ref y_codes, .int (nI y_code), .int y_toldLines, .ref y_opened, .ref y_compared, .ref y_kept, .ref y_keptBy, .ref y_ahead, .ref y_against, .ref y_sum, .ref y_sumBy, .ref y_term, .ref y_termBy, .ref y_byNot, .ref y_valueOf, .int y_given, .ref y_lines, .ref y_lineWhat, .ref y_lineA, .ref y_lineB, .ref y_seens, .ref y_seenIn, .ref y_seenYards, .ref y_seenNear, .ref y_s, .ref y_aside, .ref y_before, .ref y_marked, .ref y_undone, .ref y_isLaid, .int (nI y_done), .int y_snowNow, .int y_cameNow, .int y_cookThen, .int y_tasteThen, .ref y_places, .ref y_comesAt, .ref y_yardsIn, .long y_g]), (y_supper, kI k 8 y_supperF), (y_kind, kI k 12 y_kindF)]) [0, 1, 2] rfl
        have hD9 := hD.sub (ws' := [(y, kO 9 [.int y_thrown, .int (nI y_taped), .ref y_tape, .int (nI y_size), .int (nI y_place), .int (nI y_begin), .int (nI y_token), .long y_word, .int y_told, .int y_wrong, .ref y_supper, .ref y_guestName, .ref y_kind, .ref y_offTold, .ref y_pace, .ref y_cooks, .ref y_snow, .ref y_lineFrom, .ref y_lineTo, .ref y_codes, .int (nI y_code), .int y_toldLines, .ref y_opened, .ref y_compared, .ref y_kept, .ref y_keptBy, .ref y_ahead, .ref y_against, .ref y_sum, .ref y_sumBy, .ref y_term, .ref y_termBy, .ref y_byNot, .ref y_valueOf, .int y_given, .ref y_lines, .ref y_lineWhat, .ref y_lineA, .ref y_lineB, .ref y_seens, .ref y_seenIn, .ref y_seenYards, .ref y_seenNear, .ref y_s, .ref y_aside, .ref y_before, .ref y_marked, .ref y_undone, .ref y_isLaid, .int (nI y_done), .int y_snowNow, .int y_cameNow, .int y_cookThen, .int y_tasteThen, .ref y_places, .ref y_comesAt, .ref y_yardsIn, .long y_g]), (y_supper, kI k 8 y_supperF), (y_kind, kI k 12 y_kindF)]) [0, 1, 2] (by decide) rfl
        exact W.iret (v := l1_4) hx hb hr (fun zt ht hW => ⟨⟨l1_4, (), rfl, (hZ.trans hE0), by rw [ht]; exact hP9, hD9⟩, hS.F ht⟩) hS.2.2 dX9_greats_41
      · skip
        have t_3 : (Int32.toInt (y_supperF (Int32.toNatClampNeg 0))) > ((l2_4 : Nat) : Int) := tI_nle rfl (nI_toInt (by omega)) c_3
        have hZ := (if_neg c_3).symm.trans hZ
        refine lv_iload_n hx hb dX9_greats_14 rfl (lv_at hl 1 rfl) ?_
        refine lv_aload_n hx hb dX9_greats_15 rfl (lv_at hl 0 rfl) ?_
        refine va_get (D := D) (ci := 9) (v := .ref y_kind) (C := RX9) (T := TX9) (N := 58) hx hb hts hi9 hown hK hP 0 rfl rfl 12 (by decide) lf20 (fun _ h9 => h9) rfl dX9_greats_16 ?_
        refine lv_iload_n hx hb dX9_greats_19 rfl (lv_at hl 2 rfl) ?_
        refine va_iald hx hb hK hP 2 0 rfl rfl (vp_in_nI (n := l2_4) (by omega) (by omega)) dX9_greats_20 ?_
        refine lv_iconst (v := 3) hx hb dX9_greats_21 (by decide) ?_
        have hj32_4 : ∀ (s1_32 : Int32) (H : Heap) (locs : List Loc) (ls : Array Slot), ((fX9_greats_J32a l1_4 l2_4 rc4_1) s1_32 = E0) → va_P D vwCl [(y, kO 9 [.int y_thrown, .int (nI y_taped), .ref y_tape, .int (nI y_size), .int (nI y_place), .int (nI y_begin), .int (nI y_token), .long y_word, .int y_told, .int y_wrong, .ref y_supper, .ref y_guestName, .ref y_kind, .ref y_offTold, .ref y_pace, .ref y_cooks, .ref y_snow, .ref y_lineFrom, .ref y_lineTo, .ref y_codes, .int (nI y_code), .int y_toldLines, .ref y_opened, .ref y_compared, .ref y_kept, .ref y_keptBy, .ref y_ahead, .ref y_against, .ref y_sum, .ref y_sumBy, .ref y_term, .ref y_termBy, .ref y_byNot, .ref y_valueOf, .int y_given, .ref y_lines, .ref y_lineWhat, .ref y_lineA, .ref y_lineB, .ref y_seens, .ref y_seenIn, .ref y_seenYards, .ref y_seenNear, .ref y_s, .ref y_aside, .ref y_before, .ref y_marked, .ref y_undone, .ref y_isLaid, .int (nI y_done), .int y_snowNow, .int y_cameNow, .int y_cookThen, .int y_tasteThen, .ref y_places, .ref y_comesAt, .ref y_yardsIn, .long y_g]), (y_supper, kI k 8 y_supperF), (y_kind, kI k 12 y_kindF)] H → va_D A [(y, kO 9 [.int y_thrown, .int (nI y_taped), .ref y_tape, .int (nI y_size), .int (nI y_place), .int (nI y_begin), .int (nI y_token), .long y_word, .int y_told, .int y_wrong, .ref y_supper, .ref y_guestName, .ref y_kind, .ref y_offTold, .ref y_pace, .ref y_cooks, .ref y_snow, .ref y_lineFrom, .ref y_lineTo, .ref y_codes, .int (nI y_code), .int y_toldLines, .ref y_opened, .ref y_compared, .ref y_kept, .ref y_keptBy, .ref y_ahead, .ref y_against, .ref y_sum, .ref y_sumBy, .ref y_term, .ref y_termBy, .ref y_byNot, .ref y_valueOf, .int y_given, .ref y_lines, .ref y_lineWhat, .ref y_lineA, .ref y_lineB, .ref y_seens, .ref y_seenIn, .ref y_seenYards, .ref y_seenNear, .ref y_s, .ref y_aside, .ref y_before, .ref y_marked, .ref y_undone, .ref y_isLaid, .int (nI y_done), .int y_snowNow, .int y_cameNow, .int y_cookThen, .int y_tasteThen, .ref y_places, .ref y_comesAt, .ref y_yardsIn, .long y_g]), (y_supper, kI k 8 y_supperF), (y_kind, kI k 12 y_kindF)] → va_S A s.heap H locs → lv_has ls 3 [(0, .ref y), (1, .int l1_4), (2, .int (nI l2_4))] → W p l e R s m args below meth c H locs 0 0 Q (F0 m 32 ls [.int s1_32, .int l1_4]) := by
          intro s1_32 H locs ls hZ hP hD hS hl
          refine lv_ior hx hb dX9_greats_32 ?_
          refine lv_istore_n (lv' := [(1, .int (l1_4 ||| s1_32)), (0, .ref y), (2, .int (nI l2_4))]) hx hb dX9_greats_33 rfl hl (by decide) rfl (fun ls hl => ?_)
          refine lv_iinc (v := (nI (l2_4 + 1))) (lv' := [(2, .int (nI (l2_4 + 1))), (1, .int (l1_4 ||| s1_32)), (0, .ref y)]) hx hb dX9_greats_34 hl (k := 2) rfl (nI_1 _) (by decide) rfl (fun ls hl => ?_)
          refine lv_goto (tgt := 4) hx hb dX9_greats_37 (by decide) ?_
          exact ih4 (l1_4 ||| s1_32) (l2_4 + 1) _ _ _ (by omega) (by first | omega | assumption) (by rw [← hrc4_1]; exact hZ) (hP.sub [0, 1, 2] rfl) (hD.sub [0, 1, 2] (by decide) rfl) hS (lv_sub hl [2, 1, 0] rfl)
        refine lv_icmp_ne (tgt := 31) hx hb dX9_greats_22 (by decide) (fun c_5 => ?_) (fun c_5 => ?_)
        · skip
          have t_5 : (Int32.toInt (y_kindF (Int32.toNatClampNeg (nI l2_4)))) ≠ 3 := tI_ne rfl (by decide) c_5
          have hZ := (if_neg c_5).symm.trans hZ
          refine lv_iconst (v := 0) hx hb dX9_greats_31 (by decide) ?_
          exact hj32_4 (0 : Int32) _ _ _ hZ (hP.sub [0, 1, 2] rfl) (hD.sub [0, 1, 2] (by decide) rfl) hS (lv_sub hl [0, 1, 2] rfl)
        · skip
          have t_5 : (Int32.toInt (y_kindF (Int32.toNatClampNeg (nI l2_4)))) = 3 := tI_eq rfl (by decide) c_5
          have hZ := (if_pos c_5).symm.trans hZ
          refine lv_iconst (v := 1) hx hb dX9_greats_25 (by decide) ?_
          refine lv_iload_n hx hb dX9_greats_26 rfl (lv_at hl 2 rfl) ?_
          refine lv_ishl hx hb dX9_greats_27 ?_
          refine lv_goto (tgt := 32) hx hb dX9_greats_28 (by decide) ?_
          exact hj32_4 (1 <<< ((nI l2_4) &&& 31)) _ _ _ hZ (hP.sub [0, 1, 2] rfl) (hD.sub [0, 1, 2] (by decide) rfl) hS (lv_sub hl [0, 1, 2] rfl)
  exact hloop4 ((6 + 1 - 0) + 1) (0 : Int32) 0 _ _ _ (Nat.lt_succ_self _) (by first | omega | assumption) hZ (hP.sub [0, 1, 2] rfl) (hD.sub [0, 1, 2] (by decide) rfl) hS (lv_sub hl [2, 1, 0] rfl)
theorem dX9_paceOf_0 : decode cX9_paceOf 0 = .ok (.bipush 40, 2) := by decide +kernel
theorem dX9_paceOf_2 : decode cX9_paceOf 2 = .ok (.aload_n 0, 1) := by decide +kernel
theorem dX9_paceOf_3 : decode cX9_paceOf 3 = .ok (.getfield 26, 3) := by decide +kernel
theorem dX9_paceOf_6 : decode cX9_paceOf 6 = .ok (.iload_n 1, 1) := by decide +kernel
theorem dX9_paceOf_7 : decode cX9_paceOf 7 = .ok (.iaload, 1) := by decide +kernel
theorem dX9_paceOf_8 : decode cX9_paceOf 8 = .ok (.aload_n 0, 1) := by decide +kernel
theorem dX9_paceOf_9 : decode cX9_paceOf 9 = .ok (.getfield 105, 3) := by decide +kernel
theorem dX9_paceOf_12 : decode cX9_paceOf 12 = .ok (.bipush 28, 2) := by decide +kernel
theorem dX9_paceOf_14 : decode cX9_paceOf 14 = .ok (.iload_n 1, 1) := by decide +kernel
theorem dX9_paceOf_15 : decode cX9_paceOf 15 = .ok (.iadd, 1) := by decide +kernel
theorem dX9_paceOf_16 : decode cX9_paceOf 16 = .ok (.iaload, 1) := by decide +kernel
theorem dX9_paceOf_17 : decode cX9_paceOf 17 = .ok (.iadd, 1) := by decide +kernel
theorem dX9_paceOf_18 : decode cX9_paceOf 18 = .ok (.invokestatic 335, 3) := by decide +kernel
theorem dX9_paceOf_21 : decode cX9_paceOf 21 = .ok (.ireturn, 1) := by decide +kernel
set_option maxHeartbeats 4000000 in
set_option maxRecDepth 100000 in
theorem sX9_paceOf (l : Launch) (D : va_G) (k : Nat → ClassId) (sz : Nat) (y : Nat) (g : Int32) (y_thrown : Int32) (y_taped : Nat) (y_tape : Nat) (y_size : Nat) (y_place : Nat) (y_begin : Nat) (y_token : Nat) (y_word : Int64) (y_told : Int32) (y_wrong : Int32) (y_supper : Nat) (y_guestName : Nat) (y_kind : Nat) (y_offTold : Nat) (y_pace : Nat) (y_cooks : Nat) (y_snow : Nat) (y_lineFrom : Nat) (y_lineTo : Nat) (y_codes : Nat) (y_code : Nat) (y_toldLines : Int32) (y_opened : Nat) (y_compared : Nat) (y_kept : Nat) (y_keptBy : Nat) (y_ahead : Nat) (y_against : Nat) (y_sum : Nat) (y_sumBy : Nat) (y_term : Nat) (y_termBy : Nat) (y_byNot : Nat) (y_valueOf : Nat) (y_given : Int32) (y_lines : Nat) (y_lineWhat : Nat) (y_lineA : Nat) (y_lineB : Nat) (y_seens : Nat) (y_seenIn : Nat) (y_seenYards : Nat) (y_seenNear : Nat) (y_s : Nat) (y_aside : Nat) (y_before : Nat) (y_marked : Nat) (y_undone : Nat) (y_isLaid : Nat) (y_done : Nat) (y_snowNow : Int32) (y_cameNow : Int32) (y_cookThen : Int32) (y_tasteThen : Int32) (y_places : Nat) (y_comesAt : Nat) (y_yardsIn : Nat) (y_g : Int64) (y_paceF : Nat → Int32) (y_sF : Nat → Int32) (mb : Nat) (hg : 0 ≤ Int32.toInt g ∧ Int32.toInt g ≤ 5) (hmb : mb ≤ 1000000) (h_y_taped : y_taped ≤ 1000) (h_y_size : y_size ≤ 1000) (h_y_place : y_place ≤ 1000) (h_y_begin : y_begin ≤ 1000) (h_y_token : y_token ≤ 4) (h_y_told : 0 ≤ Int32.toInt y_told ∧ Int32.toInt y_told ≤ 9999) (h_y_code : y_code ≤ 2000) (h_y_done : y_done ≤ 16) (h_y_s : I9_min mb y_sF) : Met l yX9_paceOf wsX9_paceOf ({ frames := 1, cells := 0, slots := 0, locals := 70 }) (va_Pc [.ref y, .int g] (kz_Pre D k [(y, kO 9 [.int y_thrown, .int (nI y_taped), .ref y_tape, .int (nI y_size), .int (nI y_place), .int (nI y_begin), .int (nI y_token), .long y_word, .int y_told, .int y_wrong, .ref y_supper, .ref y_guestName, .ref y_kind, .ref y_offTold, .ref y_pace, .ref y_cooks, .ref y_snow, .ref y_lineFrom, .ref y_lineTo, .ref y_codes, .int (nI y_code), .int y_toldLines, .ref y_opened, .ref y_compared, .ref y_kept, .ref y_keptBy, .ref y_ahead, .ref y_against, .ref y_sum, .ref y_sumBy, .ref y_term, .ref y_termBy, .ref y_byNot, .ref y_valueOf, .int y_given, .ref y_lines, .ref y_lineWhat, .ref y_lineA, .ref y_lineB, .ref y_seens, .ref y_seenIn, .ref y_seenYards, .ref y_seenNear, .ref y_s, .ref y_aside, .ref y_before, .ref y_marked, .ref y_undone, .ref y_isLaid, .int (nI y_done), .int y_snowNow, .int y_cameNow, .int y_cookThen, .int y_tasteThen, .ref y_places, .ref y_comesAt, .ref y_yardsIn, .long y_g]), (y_pace, kI k 12 y_paceF), (y_s, kI k 46 y_sF)] sz)) (va_Qi (fun (rr : Int32) (uu : Unit) => ((rr) = (fX9_paceOf g y_paceF y_sF))) (fun uu zt => kz_B D (va_A [(y, kO 9 [.int y_thrown, .int (nI y_taped), .ref y_tape, .int (nI y_size), .int (nI y_place), .int (nI y_begin), .int (nI y_token), .long y_word, .int y_told, .int y_wrong, .ref y_supper, .ref y_guestName, .ref y_kind, .ref y_offTold, .ref y_pace, .ref y_cooks, .ref y_snow, .ref y_lineFrom, .ref y_lineTo, .ref y_codes, .int (nI y_code), .int y_toldLines, .ref y_opened, .ref y_compared, .ref y_kept, .ref y_keptBy, .ref y_ahead, .ref y_against, .ref y_sum, .ref y_sumBy, .ref y_term, .ref y_termBy, .ref y_byNot, .ref y_valueOf, .int y_given, .ref y_lines, .ref y_lineWhat, .ref y_lineA, .ref y_lineB, .ref y_seens, .ref y_seenIn, .ref y_seenYards, .ref y_seenNear, .ref y_s, .ref y_aside, .ref y_before, .ref y_marked, .ref y_undone, .ref y_isLaid, .int (nI y_done), .int y_snowNow, .int y_cameNow, .int y_cookThen, .int y_tasteThen, .ref y_places, .ref y_comesAt, .ref y_yardsIn, .long y_g]), (y_pace, kI k 12 y_paceF), (y_s, kI k 46 y_sF)] sz) [(y, kO 9 [.int y_thrown, .int (nI y_taped), .ref y_tape, .int (nI y_size), .int (nI y_place), .int (nI y_begin), .int (nI y_token), .long y_word, .int y_told, .int y_wrong, .ref y_supper, .ref y_guestName, .ref y_kind, .ref y_offTold, .ref y_pace, .ref y_cooks, .ref y_snow, .ref y_lineFrom, .ref y_lineTo, .ref y_codes, .int (nI y_code), .int y_toldLines, .ref y_opened, .ref y_compared, .ref y_kept, .ref y_keptBy, .ref y_ahead, .ref y_against, .ref y_sum, .ref y_sumBy, .ref y_term, .ref y_termBy, .ref y_byNot, .ref y_valueOf, .int y_given, .ref y_lines, .ref y_lineWhat, .ref y_lineA, .ref y_lineB, .ref y_seens, .ref y_seenIn, .ref y_seenYards, .ref y_seenNear, .ref y_s, .ref y_aside, .ref y_before, .ref y_marked, .ref y_undone, .ref y_isLaid, .int (nI y_done), .int y_snowNow, .int y_cameNow, .int y_cookThen, .int y_tasteThen, .ref y_places, .ref y_comesAt, .ref y_yardsIn, .long y_g]), (y_pace, kI k 12 y_paceF), (y_s, kI k 46 y_sF)] zt) (va_A [(y, kO 9 [.int y_thrown, .int (nI y_taped), .ref y_tape, .int (nI y_size), .int (nI y_place), .int (nI y_begin), .int (nI y_token), .long y_word, .int y_told, .int y_wrong, .ref y_supper, .ref y_guestName, .ref y_kind, .ref y_offTold, .ref y_pace, .ref y_cooks, .ref y_snow, .ref y_lineFrom, .ref y_lineTo, .ref y_codes, .int (nI y_code), .int y_toldLines, .ref y_opened, .ref y_compared, .ref y_kept, .ref y_keptBy, .ref y_ahead, .ref y_against, .ref y_sum, .ref y_sumBy, .ref y_term, .ref y_termBy, .ref y_byNot, .ref y_valueOf, .int y_given, .ref y_lines, .ref y_lineWhat, .ref y_lineA, .ref y_lineB, .ref y_seens, .ref y_seenIn, .ref y_seenYards, .ref y_seenNear, .ref y_s, .ref y_aside, .ref y_before, .ref y_marked, .ref y_undone, .ref y_isLaid, .int (nI y_done), .int y_snowNow, .int y_cameNow, .int y_cookThen, .int y_tasteThen, .ref y_places, .ref y_comesAt, .ref y_yardsIn, .long y_g]), (y_pace, kI k 12 y_paceF), (y_s, kI k 46 y_sF)] sz)) 0 0 (va_A [(y, kO 9 [.int y_thrown, .int (nI y_taped), .ref y_tape, .int (nI y_size), .int (nI y_place), .int (nI y_begin), .int (nI y_token), .long y_word, .int y_told, .int y_wrong, .ref y_supper, .ref y_guestName, .ref y_kind, .ref y_offTold, .ref y_pace, .ref y_cooks, .ref y_snow, .ref y_lineFrom, .ref y_lineTo, .ref y_codes, .int (nI y_code), .int y_toldLines, .ref y_opened, .ref y_compared, .ref y_kept, .ref y_keptBy, .ref y_ahead, .ref y_against, .ref y_sum, .ref y_sumBy, .ref y_term, .ref y_termBy, .ref y_byNot, .ref y_valueOf, .int y_given, .ref y_lines, .ref y_lineWhat, .ref y_lineA, .ref y_lineB, .ref y_seens, .ref y_seenIn, .ref y_seenYards, .ref y_seenNear, .ref y_s, .ref y_aside, .ref y_before, .ref y_marked, .ref y_undone, .ref y_isLaid, .int (nI y_done), .int y_snowNow, .int y_cameNow, .int y_cookThen, .int y_tasteThen, .ref y_places, .ref y_comesAt, .ref y_yardsIn, .long y_g]), (y_pace, kI k 12 y_paceF), (y_s, kI k 46 y_sF)] sz) := by
  refine Met.ofW (cc := cX9_paceOf) (maxL := 2) (ret := (some .int)) (by decide) rfl ?_
  intro p e s m args below meth c s₁ B hml hv
  obtain ⟨hav, hsz, hP, hK, hD0, hE⟩ := hv
  have hx := B.exec
  have hb := B.bytes
  have hr := B.returns
  have hts := atoms_spec (ws := wsX9_paceOf) B.pre
  have hown : s.vm.findClass RX9 = some m.cls := findClass_of_methodNamed B.named
  have hlocks := B.notSynchronized
  have hi9 : ∀ w ∈ u_ws RX9 TX9 58, w ∈ wsX9_paceOf := by decide +kernel
  have lf26 := hts (.fieldLink RX9 26 "LastCookModel" "pace" "[I") (by decide +kernel)
  have lf105 := hts (.fieldLink RX9 105 "LastCookModel" "s" "[I") (by decide +kernel)
  have lm335 := hts (.methodLink RX9 335 Lib.Math.min.name) (by decide +kernel)
  have lmtmin := hts (.static Lib.Math.min.name) (by decide +kernel)
  have lim := hts (.initialized "java/lang/Math") (by decide +kernel)
  have lmcmin := hts (.code Lib.Math.min.name Lib.Math.min.code 2 (some .int)) (by decide +kernel)
  subst hsz
  have hD := hD0.self (sz := s.heap.size)
  generalize hAe : va_A [(y, kO 9 [.int y_thrown, .int (nI y_taped), .ref y_tape, .int (nI y_size), .int (nI y_place), .int (nI y_begin), .int (nI y_token), .long y_word, .int y_told, .int y_wrong, .ref y_supper, .ref y_guestName, .ref y_kind, .ref y_offTold, .ref y_pace, .ref y_cooks, .ref y_snow, .ref y_lineFrom, .ref y_lineTo, .ref y_codes, .int (nI y_code), .int y_toldLines, .ref y_opened, .ref y_compared, .ref y_kept, .ref y_keptBy, .ref y_ahead, .ref y_against, .ref y_sum, .ref y_sumBy, .ref y_term, .ref y_termBy, .ref y_byNot, .ref y_valueOf, .int y_given, .ref y_lines, .ref y_lineWhat, .ref y_lineA, .ref y_lineB, .ref y_seens, .ref y_seenIn, .ref y_seenYards, .ref y_seenNear, .ref y_s, .ref y_aside, .ref y_before, .ref y_marked, .ref y_undone, .ref y_isLaid, .int (nI y_done), .int y_snowNow, .int y_cameNow, .int y_cookThen, .int y_tasteThen, .ref y_places, .ref y_comesAt, .ref y_yardsIn, .long y_g]), (y_pace, kI k 12 y_paceF), (y_s, kI k 46 y_sF)] s.heap.size = A at hD ⊢
  have hA : ∀ q : Nat, s.heap.size ≤ q → A q := fun q h => by rw [← hAe]; exact Or.inr h
  have hS : va_S A s.heap s.heap [] := va_S.rf
  have hl := lv_entry ([.ref y, .int g]) (n := 2) (Nat.le_of_ble_eq_true rfl)
  rw [show entryFrame m args 2 = entryFrame m ([.ref y, .int g] : List Value).toArray 2 by rw [hav], lg_entry_eq]
  generalize (lg_sl ([.ref y, .int g]) ++ List.replicate (2 - (lg_sl ([.ref y, .int g])).length) Slot.unset).toArray = ls at hl ⊢
  have hl : lv_has ls 2 [(0, .ref y), (1, .int g)] := hl
  obtain ⟨R, hR⟩ : ∃ R, R = (headSpec wsX9_paceOf ({ frames := 1, cells := 0, slots := 0, locals := 70 } : Room)).room := ⟨_, rfl⟩
  rw [← hR]
  generalize hQ : MQ below _ args s 0 0 A = Q
  replace hQ := hQ.symm
  obtain ⟨H, hH⟩ : ∃ H, H = s.heap := ⟨_, rfl⟩
  rw [← hH] at hP ⊢
  have hS : va_S A s.heap H [] := by rw [hH]; exact hS
  obtain ⟨E0, hE0⟩ : ∃ E0 : Int32, E0 = (fX9_paceOf g y_paceF y_sF) := ⟨_, rfl⟩
  have hZ : (fX9_paceOf g y_paceF y_sF) = E0 := hE0.symm
  refine lv_bipush (v := 40) hx hb dX9_paceOf_0 (by decide) ?_
  refine lv_aload_n hx hb dX9_paceOf_2 rfl (lv_at hl 0 rfl) ?_
  refine va_get (D := D) (ci := 9) (v := .ref y_pace) (C := RX9) (T := TX9) (N := 58) hx hb hts hi9 hown hK hP 0 rfl rfl 14 (by decide) lf26 (fun _ h9 => h9) rfl dX9_paceOf_3 ?_
  refine lv_iload_n hx hb dX9_paceOf_6 rfl (lv_at hl 1 rfl) ?_
  refine va_iald hx hb hK hP 1 0 rfl rfl (vp_in_iff.mpr (by omega)) dX9_paceOf_7 ?_
  refine lv_aload_n hx hb dX9_paceOf_8 rfl (lv_at hl 0 rfl) ?_
  refine va_get (D := D) (ci := 9) (v := .ref y_s) (C := RX9) (T := TX9) (N := 58) hx hb hts hi9 hown hK hP 0 rfl rfl 43 (by decide) lf105 (fun _ h9 => h9) rfl dX9_paceOf_9 ?_
  refine lv_bipush (v := 28) hx hb dX9_paceOf_12 (by decide) ?_
  refine lv_iload_n hx hb dX9_paceOf_14 rfl (lv_at hl 1 rfl) ?_
  refine lv_iadd hx hb dX9_paceOf_15 ?_
  try have ta_1 : Int32.toInt (28 + g) = 28 + (Int32.toInt g) := tI_add (by decide) rfl (by omega) (by omega)
  refine va_iald hx hb hK hP 2 0 rfl rfl (vp_in_iff.mpr (by omega)) dX9_paceOf_16 ?_
  refine lv_iadd hx hb dX9_paceOf_17 ?_
  refine va_mmin hx hb (hml.trans hl.1.symm) hown lm335 lmtmin lim lmcmin (by rw [hR]; exact Nat.le_of_ble_eq_true rfl) (by rw [hR]; exact Nat.le_of_ble_eq_true rfl) (by first | omega | (rw [hR]; exact Nat.le_of_ble_eq_true rfl)) (by first | omega | (rw [hR]; exact Nat.le_of_ble_eq_true rfl)) dX9_paceOf_18 ?_
  rw [hQ]
  have hP9 := hP.sub (ws' := [(y, kO 9 [.int y_thrown, .int (nI y_taped), .ref y_tape, .int (nI y_size), .int (nI y_place), .int (nI y_begin), .int (nI y_token), .long y_word, .int y_told, .int y_wrong, .ref y_supper, .ref y_guestName, .ref y_kind, .ref y_offTold, .ref y_pace, .ref y_cooks, .ref y_snow, .ref y_lineFrom, .ref y_lineTo, .ref y_codes, .int (nI y_code), .int y_toldLines, .ref y_opened, .ref y_compared, .ref y_kept, .ref y_keptBy, .ref y_ahead, .ref y_against, .ref y_sum, .ref y_sumBy, .ref y_term, .ref y_termBy, .ref y_byNot, .ref y_valueOf, .int y_given, .ref y_lines, .ref y_lineWhat, .ref y_lineA, .ref y_lineB, .ref y_seens, .ref y_seenIn, .ref y_seenYards, .ref y_seenNear, .ref y_s, .ref y_aside, .ref y_before, .ref y_marked, .ref y_undone, .ref y_isLaid, .int (nI y_done), .int y_snowNow, .int y_cameNow, .int y_cookThen, .int y_tasteThen, .ref y_places, .ref y_comesAt, .ref y_yardsIn, .long y_g]), (y_pace, kI k 12 y_paceF), (y_s, kI k 46 y_sF)]) [0, 1, 2] rfl
  have hD9 := hD.sub (ws' := [(y, kO 9 [.int y_thrown, .int (nI y_taped), .ref y_tape, .int (nI y_size), .int (nI y_place), .int (nI y_begin), .int (nI y_token), .long y_word, .int y_told, .int y_wrong, .ref y_supper, .ref y_guestName, .ref y_kind, .ref y_offTold, .ref y_pace, .ref y_cooks, .ref y_snow, .ref y_lineFrom, .ref y_lineTo, .ref y_codes, .int (nI y_code), .int y_toldLines, .ref y_opened, .ref y_compared, .ref y_kept, .ref y_keptBy, .ref y_ahead, .ref y_against, .ref y_sum, .ref y_sumBy, .ref y_term, .ref y_termBy, .ref y_byNot, .ref y_valueOf, .int y_given, .ref y_lines, .ref y_lineWhat, .ref y_lineA, .ref y_lineB, .ref y_seens, .ref y_seenIn, .ref y_seenYards, .ref y_seenNear, .ref y_s, .ref y_aside, .ref y_before, .ref y_marked, .ref y_undone, .ref y_isLaid, .int (nI y_done), .int y_snowNow, .int y_cameNow, .int y_cookThen, .int y_tasteThen, .ref y_places, .ref y_comesAt, .ref y_yardsIn, .long y_g]), (y_pace, kI k 12 y_paceF), (y_s, kI k 46 y_sF)]) [0, 1, 2] (by decide) rfl
  exact W.iret (v := (if ((y_paceF (Int32.toNatClampNeg g)) + (y_sF (Int32.toNatClampNeg (28 + g)))) < 40 then ((y_paceF (Int32.toNatClampNeg g)) + (y_sF (Int32.toNatClampNeg (28 + g)))) else 40)) hx hb hr (fun zt ht hW => ⟨⟨(if ((y_paceF (Int32.toNatClampNeg g)) + (y_sF (Int32.toNatClampNeg (28 + g)))) < 40 then ((y_paceF (Int32.toNatClampNeg g)) + (y_sF (Int32.toNatClampNeg (28 + g)))) else 40), (), rfl, (hZ.trans hE0), by rw [ht]; exact hP9, hD9⟩, hS.F ht⟩) hS.2.2 dX9_paceOf_21
theorem dX9_snowOf_0 : decode cX9_snowOf 0 = .ok (.aload_n 0, 1) := by decide +kernel
theorem dX9_snowOf_1 : decode cX9_snowOf 1 = .ok (.getfield 13, 3) := by decide +kernel
theorem dX9_snowOf_4 : decode cX9_snowOf 4 = .ok (.iconst 3, 1) := by decide +kernel
theorem dX9_snowOf_5 : decode cX9_snowOf 5 = .ok (.iaload, 1) := by decide +kernel
theorem dX9_snowOf_6 : decode cX9_snowOf 6 = .ok (.ifCond .ne 7, 3) := by decide +kernel
theorem dX9_snowOf_9 : decode cX9_snowOf 9 = .ok (.iconst 0, 1) := by decide +kernel
theorem dX9_snowOf_10 : decode cX9_snowOf 10 = .ok (.goto 16, 3) := by decide +kernel
theorem dX9_snowOf_13 : decode cX9_snowOf 13 = .ok (.aload_n 0, 1) := by decide +kernel
theorem dX9_snowOf_14 : decode cX9_snowOf 14 = .ok (.getfield 32, 3) := by decide +kernel
theorem dX9_snowOf_17 : decode cX9_snowOf 17 = .ok (.iload_n 1, 1) := by decide +kernel
theorem dX9_snowOf_18 : decode cX9_snowOf 18 = .ok (.aload_n 0, 1) := by decide +kernel
theorem dX9_snowOf_19 : decode cX9_snowOf 19 = .ok (.getfield 13, 3) := by decide +kernel
theorem dX9_snowOf_22 : decode cX9_snowOf 22 = .ok (.iconst 3, 1) := by decide +kernel
theorem dX9_snowOf_23 : decode cX9_snowOf 23 = .ok (.iaload, 1) := by decide +kernel
theorem dX9_snowOf_24 : decode cX9_snowOf 24 = .ok (.irem, 1) := by decide +kernel
theorem dX9_snowOf_25 : decode cX9_snowOf 25 = .ok (.iaload, 1) := by decide +kernel
theorem dX9_snowOf_26 : decode cX9_snowOf 26 = .ok (.ireturn, 1) := by decide +kernel
set_option maxHeartbeats 4000000 in
set_option maxRecDepth 100000 in
theorem sX9_snowOf (l : Launch) (D : va_G) (k : Nat → ClassId) (sz : Nat) (y : Nat) (mi : Int32) (y_thrown : Int32) (y_taped : Nat) (y_tape : Nat) (y_size : Nat) (y_place : Nat) (y_begin : Nat) (y_token : Nat) (y_word : Int64) (y_told : Int32) (y_wrong : Int32) (y_supper : Nat) (y_guestName : Nat) (y_kind : Nat) (y_offTold : Nat) (y_pace : Nat) (y_cooks : Nat) (y_snow : Nat) (y_lineFrom : Nat) (y_lineTo : Nat) (y_codes : Nat) (y_code : Nat) (y_toldLines : Int32) (y_opened : Nat) (y_compared : Nat) (y_kept : Nat) (y_keptBy : Nat) (y_ahead : Nat) (y_against : Nat) (y_sum : Nat) (y_sumBy : Nat) (y_term : Nat) (y_termBy : Nat) (y_byNot : Nat) (y_valueOf : Nat) (y_given : Int32) (y_lines : Nat) (y_lineWhat : Nat) (y_lineA : Nat) (y_lineB : Nat) (y_seens : Nat) (y_seenIn : Nat) (y_seenYards : Nat) (y_seenNear : Nat) (y_s : Nat) (y_aside : Nat) (y_before : Nat) (y_marked : Nat) (y_undone : Nat) (y_isLaid : Nat) (y_done : Nat) (y_snowNow : Int32) (y_cameNow : Int32) (y_cookThen : Int32) (y_tasteThen : Int32) (y_places : Nat) (y_comesAt : Nat) (y_yardsIn : Nat) (y_g : Int64) (y_supperF : Nat → Int32) (y_snowF : Nat → Int32) (hmi : 0 ≤ Int32.toInt mi) (h_y_taped : y_taped ≤ 1000) (h_y_size : y_size ≤ 1000) (h_y_place : y_place ≤ 1000) (h_y_begin : y_begin ≤ 1000) (h_y_token : y_token ≤ 4) (h_y_told : 0 ≤ Int32.toInt y_told ∧ Int32.toInt y_told ≤ 9999) (h_y_code : y_code ≤ 2000) (h_y_done : y_done ≤ 16) (h_y_supper : I9_sup y_supperF) : Met l yX9_snowOf wsX9_snowOf ({ frames := 0, cells := 0, slots := 0, locals := 0 }) (va_Pc [.ref y, .int mi] (kz_Pre D k [(y, kO 9 [.int y_thrown, .int (nI y_taped), .ref y_tape, .int (nI y_size), .int (nI y_place), .int (nI y_begin), .int (nI y_token), .long y_word, .int y_told, .int y_wrong, .ref y_supper, .ref y_guestName, .ref y_kind, .ref y_offTold, .ref y_pace, .ref y_cooks, .ref y_snow, .ref y_lineFrom, .ref y_lineTo, .ref y_codes, .int (nI y_code), .int y_toldLines, .ref y_opened, .ref y_compared, .ref y_kept, .ref y_keptBy, .ref y_ahead, .ref y_against, .ref y_sum, .ref y_sumBy, .ref y_term, .ref y_termBy, .ref y_byNot, .ref y_valueOf, .int y_given, .ref y_lines, .ref y_lineWhat, .ref y_lineA, .ref y_lineB, .ref y_seens, .ref y_seenIn, .ref y_seenYards, .ref y_seenNear, .ref y_s, .ref y_aside, .ref y_before, .ref y_marked, .ref y_undone, .ref y_isLaid, .int (nI y_done), .int y_snowNow, .int y_cameNow, .int y_cookThen, .int y_tasteThen, .ref y_places, .ref y_comesAt, .ref y_yardsIn, .long y_g]), (y_supper, kI k 8 y_supperF), (y_snow, kI k 24 y_snowF)] sz)) (va_Qi (fun (rr : Int32) (uu : Unit) => ((rr) = (fX9_snowOf mi y_supperF y_snowF))) (fun uu zt => kz_B D (va_A [(y, kO 9 [.int y_thrown, .int (nI y_taped), .ref y_tape, .int (nI y_size), .int (nI y_place), .int (nI y_begin), .int (nI y_token), .long y_word, .int y_told, .int y_wrong, .ref y_supper, .ref y_guestName, .ref y_kind, .ref y_offTold, .ref y_pace, .ref y_cooks, .ref y_snow, .ref y_lineFrom, .ref y_lineTo, .ref y_codes, .int (nI y_code), .int y_toldLines, .ref y_opened, .ref y_compared, .ref y_kept, .ref y_keptBy, .ref y_ahead, .ref y_against, .ref y_sum, .ref y_sumBy, .ref y_term, .ref y_termBy, .ref y_byNot, .ref y_valueOf, .int y_given, .ref y_lines, .ref y_lineWhat, .ref y_lineA, .ref y_lineB, .ref y_seens, .ref y_seenIn, .ref y_seenYards, .ref y_seenNear, .ref y_s, .ref y_aside, .ref y_before, .ref y_marked, .ref y_undone, .ref y_isLaid, .int (nI y_done), .int y_snowNow, .int y_cameNow, .int y_cookThen, .int y_tasteThen, .ref y_places, .ref y_comesAt, .ref y_yardsIn, .long y_g]), (y_supper, kI k 8 y_supperF), (y_snow, kI k 24 y_snowF)] sz) [(y, kO 9 [.int y_thrown, .int (nI y_taped), .ref y_tape, .int (nI y_size), .int (nI y_place), .int (nI y_begin), .int (nI y_token), .long y_word, .int y_told, .int y_wrong, .ref y_supper, .ref y_guestName, .ref y_kind, .ref y_offTold, .ref y_pace, .ref y_cooks, .ref y_snow, .ref y_lineFrom, .ref y_lineTo, .ref y_codes, .int (nI y_code), .int y_toldLines, .ref y_opened, .ref y_compared, .ref y_kept, .ref y_keptBy, .ref y_ahead, .ref y_against, .ref y_sum, .ref y_sumBy, .ref y_term, .ref y_termBy, .ref y_byNot, .ref y_valueOf, .int y_given, .ref y_lines, .ref y_lineWhat, .ref y_lineA, .ref y_lineB, .ref y_seens, .ref y_seenIn, .ref y_seenYards, .ref y_seenNear, .ref y_s, .ref y_aside, .ref y_before, .ref y_marked, .ref y_undone, .ref y_isLaid, .int (nI y_done), .int y_snowNow, .int y_cameNow, .int y_cookThen, .int y_tasteThen, .ref y_places, .ref y_comesAt, .ref y_yardsIn, .long y_g]), (y_supper, kI k 8 y_supperF), (y_snow, kI k 24 y_snowF)] zt) (va_A [(y, kO 9 [.int y_thrown, .int (nI y_taped), .ref y_tape, .int (nI y_size), .int (nI y_place), .int (nI y_begin), .int (nI y_token), .long y_word, .int y_told, .int y_wrong, .ref y_supper, .ref y_guestName, .ref y_kind, .ref y_offTold, .ref y_pace, .ref y_cooks, .ref y_snow, .ref y_lineFrom, .ref y_lineTo, .ref y_codes, .int (nI y_code), .int y_toldLines, .ref y_opened, .ref y_compared, .ref y_kept, .ref y_keptBy, .ref y_ahead, .ref y_against, .ref y_sum, .ref y_sumBy, .ref y_term, .ref y_termBy, .ref y_byNot, .ref y_valueOf, .int y_given, .ref y_lines, .ref y_lineWhat, .ref y_lineA, .ref y_lineB, .ref y_seens, .ref y_seenIn, .ref y_seenYards, .ref y_seenNear, .ref y_s, .ref y_aside, .ref y_before, .ref y_marked, .ref y_undone, .ref y_isLaid, .int (nI y_done), .int y_snowNow, .int y_cameNow, .int y_cookThen, .int y_tasteThen, .ref y_places, .ref y_comesAt, .ref y_yardsIn, .long y_g]), (y_supper, kI k 8 y_supperF), (y_snow, kI k 24 y_snowF)] sz)) 0 0 (va_A [(y, kO 9 [.int y_thrown, .int (nI y_taped), .ref y_tape, .int (nI y_size), .int (nI y_place), .int (nI y_begin), .int (nI y_token), .long y_word, .int y_told, .int y_wrong, .ref y_supper, .ref y_guestName, .ref y_kind, .ref y_offTold, .ref y_pace, .ref y_cooks, .ref y_snow, .ref y_lineFrom, .ref y_lineTo, .ref y_codes, .int (nI y_code), .int y_toldLines, .ref y_opened, .ref y_compared, .ref y_kept, .ref y_keptBy, .ref y_ahead, .ref y_against, .ref y_sum, .ref y_sumBy, .ref y_term, .ref y_termBy, .ref y_byNot, .ref y_valueOf, .int y_given, .ref y_lines, .ref y_lineWhat, .ref y_lineA, .ref y_lineB, .ref y_seens, .ref y_seenIn, .ref y_seenYards, .ref y_seenNear, .ref y_s, .ref y_aside, .ref y_before, .ref y_marked, .ref y_undone, .ref y_isLaid, .int (nI y_done), .int y_snowNow, .int y_cameNow, .int y_cookThen, .int y_tasteThen, .ref y_places, .ref y_comesAt, .ref y_yardsIn, .long y_g]), (y_supper, kI k 8 y_supperF), (y_snow, kI k 24 y_snowF)] sz) := by
  refine Met.ofW (cc := cX9_snowOf) (maxL := 2) (ret := (some .int)) (by decide) rfl ?_
  intro p e s m args below meth c s₁ B hml hv
  obtain ⟨hav, hsz, hP, hK, hD0, hE⟩ := hv
  have hx := B.exec
  have hb := B.bytes
  have hr := B.returns
  have hts := atoms_spec (ws := wsX9_snowOf) B.pre
  have hown : s.vm.findClass RX9 = some m.cls := findClass_of_methodNamed B.named
  have hlocks := B.notSynchronized
  have hi9 : ∀ w ∈ u_ws RX9 TX9 58, w ∈ wsX9_snowOf := by decide +kernel
  have lf13 := hts (.fieldLink RX9 13 "LastCookModel" "supper" "[I") (by decide +kernel)
  have lf32 := hts (.fieldLink RX9 32 "LastCookModel" "snow" "[I") (by decide +kernel)
  subst hsz
  have hD := hD0.self (sz := s.heap.size)
  generalize hAe : va_A [(y, kO 9 [.int y_thrown, .int (nI y_taped), .ref y_tape, .int (nI y_size), .int (nI y_place), .int (nI y_begin), .int (nI y_token), .long y_word, .int y_told, .int y_wrong, .ref y_supper, .ref y_guestName, .ref y_kind, .ref y_offTold, .ref y_pace, .ref y_cooks, .ref y_snow, .ref y_lineFrom, .ref y_lineTo, .ref y_codes, .int (nI y_code), .int y_toldLines, .ref y_opened, .ref y_compared, .ref y_kept, .ref y_keptBy, .ref y_ahead, .ref y_against, .ref y_sum, .ref y_sumBy, .ref y_term, .ref y_termBy, .ref y_byNot, .ref y_valueOf, .int y_given, .ref y_lines, .ref y_lineWhat, .ref y_lineA, .ref y_lineB, .ref y_seens, .ref y_seenIn, .ref y_seenYards, .ref y_seenNear, .ref y_s, .ref y_aside, .ref y_before, .ref y_marked, .ref y_undone, .ref y_isLaid, .int (nI y_done), .int y_snowNow, .int y_cameNow, .int y_cookThen, .int y_tasteThen, .ref y_places, .ref y_comesAt, .ref y_yardsIn, .long y_g]), (y_supper, kI k 8 y_supperF), (y_snow, kI k 24 y_snowF)] s.heap.size = A at hD ⊢
  have hA : ∀ q : Nat, s.heap.size ≤ q → A q := fun q h => by rw [← hAe]; exact Or.inr h
  have hS : va_S A s.heap s.heap [] := va_S.rf
  have hl := lv_entry ([.ref y, .int mi]) (n := 2) (Nat.le_of_ble_eq_true rfl)
  rw [show entryFrame m args 2 = entryFrame m ([.ref y, .int mi] : List Value).toArray 2 by rw [hav], lg_entry_eq]
  generalize (lg_sl ([.ref y, .int mi]) ++ List.replicate (2 - (lg_sl ([.ref y, .int mi])).length) Slot.unset).toArray = ls at hl ⊢
  have hl : lv_has ls 2 [(0, .ref y), (1, .int mi)] := hl
  obtain ⟨R, hR⟩ : ∃ R, R = (headSpec wsX9_snowOf ({ frames := 0, cells := 0, slots := 0, locals := 0 } : Room)).room := ⟨_, rfl⟩
  rw [← hR]
  generalize hQ : MQ below _ args s 0 0 A = Q
  replace hQ := hQ.symm
  obtain ⟨H, hH⟩ : ∃ H, H = s.heap := ⟨_, rfl⟩
  rw [← hH] at hP ⊢
  have hS : va_S A s.heap H [] := by rw [hH]; exact hS
  obtain ⟨E0, hE0⟩ : ∃ E0 : Int32, E0 = (fX9_snowOf mi y_supperF y_snowF) := ⟨_, rfl⟩
  have hZ : (fX9_snowOf mi y_supperF y_snowF) = E0 := hE0.symm
  refine lv_aload_n hx hb dX9_snowOf_0 rfl (lv_at hl 0 rfl) ?_
  refine va_get (D := D) (ci := 9) (v := .ref y_supper) (C := RX9) (T := TX9) (N := 58) hx hb hts hi9 hown hK hP 0 rfl rfl 10 (by decide) lf13 (fun _ h9 => h9) rfl dX9_snowOf_1 ?_
  refine lv_iconst (v := 3) hx hb dX9_snowOf_4 (by decide) ?_
  refine va_iald hx hb hK hP 1 0 rfl rfl (vp_in_iff.mpr (by decide)) dX9_snowOf_5 ?_
  have lf1 : 0 ≤ Int32.toInt (y_supperF (Int32.toNatClampNeg 3)) ∧ Int32.toInt (y_supperF (Int32.toNatClampNeg 3)) ≤ 12 := h_y_supper.2.1
  have hj26_2 : ∀ (s0_26 : Int32) (H : Heap) (locs : List Loc) (ls : Array Slot), (fX9_snowOf_J26a s0_26 = E0) → va_P D vwCl [(y, kO 9 [.int y_thrown, .int (nI y_taped), .ref y_tape, .int (nI y_size), .int (nI y_place), .int (nI y_begin), .int (nI y_token), .long y_word, .int y_told, .int y_wrong, .ref y_supper, .ref y_guestName, .ref y_kind, .ref y_offTold, .ref y_pace, .ref y_cooks, .ref y_snow, .ref y_lineFrom, .ref y_lineTo, .ref y_codes, .int (nI y_code), .int y_toldLines, .ref y_opened, .ref y_compared, .ref y_kept, .ref y_keptBy, .ref y_ahead, .ref y_against, .ref y_sum, .ref y_sumBy, .ref y_term, .ref y_termBy, .ref y_byNot, .ref y_valueOf, .int y_given, .ref y_lines, .ref y_lineWhat, .ref y_lineA, .ref y_lineB, .ref y_seens, .ref y_seenIn, .ref y_seenYards, .ref y_seenNear, .ref y_s, .ref y_aside, .ref y_before, .ref y_marked, .ref y_undone, .ref y_isLaid, .int (nI y_done), .int y_snowNow, .int y_cameNow, .int y_cookThen, .int y_tasteThen, .ref y_places, .ref y_comesAt, .ref y_yardsIn, .long y_g]), (y_supper, kI k 8 y_supperF), (y_snow, kI k 24 y_snowF)] H → va_D A [(y, kO 9 [.int y_thrown, .int (nI y_taped), .ref y_tape, .int (nI y_size), .int (nI y_place), .int (nI y_begin), .int (nI y_token), .long y_word, .int y_told, .int y_wrong, .ref y_supper, .ref y_guestName, .ref y_kind, .ref y_offTold, .ref y_pace, .ref y_cooks, .ref y_snow, .ref y_lineFrom, .ref y_lineTo, .ref y_codes, .int (nI y_code), .int y_toldLines, .ref y_opened, .ref y_compared, .ref y_kept, .ref y_keptBy, .ref y_ahead, .ref y_against, .ref y_sum, .ref y_sumBy, .ref y_term, .ref y_termBy, .ref y_byNot, .ref y_valueOf, .int y_given, .ref y_lines, .ref y_lineWhat, .ref y_lineA, .ref y_lineB, .ref y_seens, .ref y_seenIn, .ref y_seenYards, .ref y_seenNear, .ref y_s, .ref y_aside, .ref y_before, .ref y_marked, .ref y_undone, .ref y_isLaid, .int (nI y_done), .int y_snowNow, .int y_cameNow, .int y_cookThen, .int y_tasteThen, .ref y_places, .ref y_comesAt, .ref y_yardsIn, .long y_g]), (y_supper, kI k 8 y_supperF), (y_snow, kI k 24 y_snowF)] → va_S A s.heap H locs → lv_has ls 2 [(0, .ref y), (1, .int mi)] → W p l e R s m args below meth c H locs 0 0 Q (F0 m 26 ls [.int s0_26]) := by
    intro s0_26 H locs ls hZ hP hD hS hl
    rw [hQ]
    have hP9 := hP.sub (ws' := [(y, kO 9 [.int y_thrown, .int (nI y_taped), .ref y_tape, .int (nI y_size), .int (nI y_place), .int (nI y_begin), .int (nI y_token), .long y_word, .int y_told, .int y_wrong, .ref y_supper, .ref y_guestName, .ref y_kind, .ref y_offTold, .ref y_pace, .ref y_cooks, .ref y_snow, .ref y_lineFrom, .ref y_lineTo, .ref y_codes, .int (nI y_code), .int y_toldLines, .ref y_opened, .ref y_compared, .ref y_kept, .ref y_keptBy, .ref y_ahead, .ref y_against, .ref y_sum, .ref y_sumBy, .ref y_term, .ref y_termBy, .ref y_byNot, .ref y_valueOf, .int y_given, .ref y_lines, .ref y_lineWhat, .ref y_lineA, .ref y_lineB, .ref y_seens, .ref y_seenIn, .ref y_seenYards, .ref y_seenNear, .ref y_s, .ref y_aside, .ref y_before, .ref y_marked, .ref y_undone, .ref y_isLaid, .int (nI y_done), .int y_snowNow, .int y_cameNow, .int y_cookThen, .int y_tasteThen, .ref y_places, .ref y_comesAt, .ref y_yardsIn, .long y_g]), (y_supper, kI k 8 y_supperF), (y_snow, kI k 24 y_snowF)]) [0, 1, 2] rfl
    have hD9 := hD.sub (ws' := [(y, kO 9 [.int y_thrown, .int (nI y_taped), .ref y_tape, .int (nI y_size), .int (nI y_place), .int (nI y_begin), .int (nI y_token), .long y_word, .int y_told, .int y_wrong, .ref y_supper, .ref y_guestName, .ref y_kind, .ref y_offTold, .ref y_pace, .ref y_cooks, .ref y_snow, .ref y_lineFrom, .ref y_lineTo, .ref y_codes, .int (nI y_code), .int y_toldLines, .ref y_opened, .ref y_compared, .ref y_kept, .ref y_keptBy, .ref y_ahead, .ref y_against, .ref y_sum, .ref y_sumBy, .ref y_term, .ref y_termBy, .ref y_byNot, .ref y_valueOf, .int y_given, .ref y_lines, .ref y_lineWhat, .ref y_lineA, .ref y_lineB, .ref y_seens, .ref y_seenIn, .ref y_seenYards, .ref y_seenNear, .ref y_s, .ref y_aside, .ref y_before, .ref y_marked, .ref y_undone, .ref y_isLaid, .int (nI y_done), .int y_snowNow, .int y_cameNow, .int y_cookThen, .int y_tasteThen, .ref y_places, .ref y_comesAt, .ref y_yardsIn, .long y_g]), (y_supper, kI k 8 y_supperF), (y_snow, kI k 24 y_snowF)]) [0, 1, 2] (by decide) rfl
    exact W.iret (v := s0_26) hx hb hr (fun zt ht hW => ⟨⟨s0_26, (), rfl, (hZ.trans hE0), by rw [ht]; exact hP9, hD9⟩, hS.F ht⟩) hS.2.2 dX9_snowOf_26
  refine lv_if_ne (tgt := 13) hx hb dX9_snowOf_6 (by decide) (fun c_3 => ?_) (fun c_3 => ?_)
  · skip
    have t_3 : (Int32.toInt (y_supperF (Int32.toNatClampNeg 3))) ≠ 0 := tI_ne rfl (by decide) c_3
    have hZ := (if_neg c_3).symm.trans hZ
    refine lv_aload_n hx hb dX9_snowOf_13 rfl (lv_at hl 0 rfl) ?_
    refine va_get (D := D) (ci := 9) (v := .ref y_snow) (C := RX9) (T := TX9) (N := 58) hx hb hts hi9 hown hK hP 0 rfl rfl 16 (by decide) lf32 (fun _ h9 => h9) rfl dX9_snowOf_14 ?_
    refine lv_iload_n hx hb dX9_snowOf_17 rfl (lv_at hl 1 rfl) ?_
    refine lv_aload_n hx hb dX9_snowOf_18 rfl (lv_at hl 0 rfl) ?_
    refine va_get (D := D) (ci := 9) (v := .ref y_supper) (C := RX9) (T := TX9) (N := 58) hx hb hts hi9 hown hK hP 0 rfl rfl 10 (by decide) lf13 (fun _ h9 => h9) rfl dX9_snowOf_19 ?_
    refine lv_iconst (v := 3) hx hb dX9_snowOf_22 (by decide) ?_
    refine va_iald hx hb hK hP 1 0 rfl rfl (vp_in_iff.mpr (by decide)) dX9_snowOf_23 ?_
    have lf4 : 0 ≤ Int32.toInt (y_supperF (Int32.toNatClampNeg 3)) ∧ Int32.toInt (y_supperF (Int32.toNatClampNeg 3)) ≤ 12 := h_y_supper.2.1
    refine lv_irem hx hb dX9_snowOf_24 (by assumption) ?_
    have ta_5 : 0 ≤ Int32.toInt (mi - mi / (y_supperF (Int32.toNatClampNeg 3)) * (y_supperF (Int32.toNatClampNeg 3))) ∧ Int32.toInt (mi - mi / (y_supperF (Int32.toNatClampNeg 3)) * (y_supperF (Int32.toNatClampNeg 3))) < (Int32.toInt (y_supperF (Int32.toNatClampNeg 3))) := tI_rem2 rfl rfl (by omega) (by omega)
    refine va_iald hx hb hK hP 2 0 rfl rfl (vp_in_iff.mpr (by omega)) dX9_snowOf_25 ?_
    exact hj26_2 (y_snowF (Int32.toNatClampNeg (mi - mi / (y_supperF (Int32.toNatClampNeg 3)) * (y_supperF (Int32.toNatClampNeg 3))))) _ _ _ hZ (hP.sub [0, 1, 2] rfl) (hD.sub [0, 1, 2] (by decide) rfl) hS (lv_sub hl [0, 1] rfl)
  · skip
    have t_3 : (Int32.toInt (y_supperF (Int32.toNatClampNeg 3))) = 0 := tI_eq rfl (by decide) c_3
    have hZ := (if_pos c_3).symm.trans hZ
    refine lv_iconst (v := 0) hx hb dX9_snowOf_9 (by decide) ?_
    refine lv_goto (tgt := 26) hx hb dX9_snowOf_10 (by decide) ?_
    exact hj26_2 (0 : Int32) _ _ _ hZ (hP.sub [0, 1, 2] rfl) (hD.sub [0, 1, 2] (by decide) rfl) hS (lv_sub hl [0, 1] rfl)
theorem dX9_holds_0 : decode cX9_holds 0 = .ok (.iconst 1, 1) := by decide +kernel
theorem dX9_holds_1 : decode cX9_holds 1 = .ok (.aload_n 0, 1) := by decide +kernel
theorem dX9_holds_2 : decode cX9_holds 2 = .ok (.getfield 13, 3) := by decide +kernel
theorem dX9_holds_5 : decode cX9_holds 5 = .ok (.iconst 0, 1) := by decide +kernel
theorem dX9_holds_6 : decode cX9_holds 6 = .ok (.iaload, 1) := by decide +kernel
theorem dX9_holds_7 : decode cX9_holds 7 = .ok (.ishl, 1) := by decide +kernel
theorem dX9_holds_8 : decode cX9_holds 8 = .ok (.iconst 1, 1) := by decide +kernel
theorem dX9_holds_9 : decode cX9_holds 9 = .ok (.isub, 1) := by decide +kernel
theorem dX9_holds_10 : decode cX9_holds 10 = .ok (.istore_n 3, 1) := by decide +kernel
theorem dX9_holds_11 : decode cX9_holds 11 = .ok (.aload_n 0, 1) := by decide +kernel
theorem dX9_holds_12 : decode cX9_holds 12 = .ok (.getfield 20, 3) := by decide +kernel
theorem dX9_holds_15 : decode cX9_holds 15 = .ok (.iload_n 1, 1) := by decide +kernel
theorem dX9_holds_16 : decode cX9_holds 16 = .ok (.iaload, 1) := by decide +kernel
theorem dX9_holds_17 : decode cX9_holds 17 = .ok (.iconst 2, 1) := by decide +kernel
theorem dX9_holds_18 : decode cX9_holds 18 = .ok (.if_icmp .ne 20, 3) := by decide +kernel
theorem dX9_holds_21 : decode cX9_holds 21 = .ok (.iload_n 2, 1) := by decide +kernel
theorem dX9_holds_22 : decode cX9_holds 22 = .ok (.iload_n 3, 1) := by decide +kernel
theorem dX9_holds_23 : decode cX9_holds 23 = .ok (.if_icmp .ne 15, 3) := by decide +kernel
theorem dX9_holds_26 : decode cX9_holds 26 = .ok (.aload_n 0, 1) := by decide +kernel
theorem dX9_holds_27 : decode cX9_holds 27 = .ok (.getfield 13, 3) := by decide +kernel
theorem dX9_holds_30 : decode cX9_holds 30 = .ok (.iconst 0, 1) := by decide +kernel
theorem dX9_holds_31 : decode cX9_holds 31 = .ok (.iaload, 1) := by decide +kernel
theorem dX9_holds_32 : decode cX9_holds 32 = .ok (.iconst 1, 1) := by decide +kernel
theorem dX9_holds_33 : decode cX9_holds 33 = .ok (.if_icmp .le 5, 3) := by decide +kernel
theorem dX9_holds_36 : decode cX9_holds 36 = .ok (.iconst 1, 1) := by decide +kernel
theorem dX9_holds_37 : decode cX9_holds 37 = .ok (.ireturn, 1) := by decide +kernel
theorem dX9_holds_38 : decode cX9_holds 38 = .ok (.aload_n 0, 1) := by decide +kernel
theorem dX9_holds_39 : decode cX9_holds 39 = .ok (.getfield 20, 3) := by decide +kernel
theorem dX9_holds_42 : decode cX9_holds 42 = .ok (.iload_n 1, 1) := by decide +kernel
theorem dX9_holds_43 : decode cX9_holds 43 = .ok (.iaload, 1) := by decide +kernel
theorem dX9_holds_44 : decode cX9_holds 44 = .ok (.iconst 3, 1) := by decide +kernel
theorem dX9_holds_45 : decode cX9_holds 45 = .ok (.if_icmp .ne 16, 3) := by decide +kernel
theorem dX9_holds_48 : decode cX9_holds 48 = .ok (.iload_n 2, 1) := by decide +kernel
theorem dX9_holds_49 : decode cX9_holds 49 = .ok (.aload_n 0, 1) := by decide +kernel
theorem dX9_holds_50 : decode cX9_holds 50 = .ok (.invokevirtual 341, 3) := by decide +kernel
theorem dX9_holds_53 : decode cX9_holds 53 = .ok (.iconst (-1), 1) := by decide +kernel
theorem dX9_holds_54 : decode cX9_holds 54 = .ok (.ixor, 1) := by decide +kernel
theorem dX9_holds_55 : decode cX9_holds 55 = .ok (.iand, 1) := by decide +kernel
theorem dX9_holds_56 : decode cX9_holds 56 = .ok (.ifCond .eq 5, 3) := by decide +kernel
theorem dX9_holds_59 : decode cX9_holds 59 = .ok (.iconst 1, 1) := by decide +kernel
theorem dX9_holds_60 : decode cX9_holds 60 = .ok (.ireturn, 1) := by decide +kernel
theorem dX9_holds_61 : decode cX9_holds 61 = .ok (.aload_n 0, 1) := by decide +kernel
theorem dX9_holds_62 : decode cX9_holds 62 = .ok (.getfield 105, 3) := by decide +kernel
theorem dX9_holds_65 : decode cX9_holds 65 = .ok (.bipush 34, 2) := by decide +kernel
theorem dX9_holds_67 : decode cX9_holds 67 = .ok (.iload_n 1, 1) := by decide +kernel
theorem dX9_holds_68 : decode cX9_holds 68 = .ok (.iadd, 1) := by decide +kernel
theorem dX9_holds_69 : decode cX9_holds 69 = .ok (.iaload, 1) := by decide +kernel
theorem dX9_holds_70 : decode cX9_holds 70 = .ok (.ifCond .le 26, 3) := by decide +kernel
theorem dX9_holds_73 : decode cX9_holds 73 = .ok (.iload_n 2, 1) := by decide +kernel
theorem dX9_holds_74 : decode cX9_holds 74 = .ok (.aload_n 0, 1) := by decide +kernel
theorem dX9_holds_75 : decode cX9_holds 75 = .ok (.getfield 105, 3) := by decide +kernel
theorem dX9_holds_78 : decode cX9_holds 78 = .ok (.bipush 34, 2) := by decide +kernel
theorem dX9_holds_80 : decode cX9_holds 80 = .ok (.iload_n 1, 1) := by decide +kernel
theorem dX9_holds_81 : decode cX9_holds 81 = .ok (.iadd, 1) := by decide +kernel
theorem dX9_holds_82 : decode cX9_holds 82 = .ok (.iaload, 1) := by decide +kernel
theorem dX9_holds_83 : decode cX9_holds 83 = .ok (.iconst 1, 1) := by decide +kernel
theorem dX9_holds_84 : decode cX9_holds 84 = .ok (.isub, 1) := by decide +kernel
theorem dX9_holds_85 : decode cX9_holds 85 = .ok (.ishr, 1) := by decide +kernel
theorem dX9_holds_86 : decode cX9_holds 86 = .ok (.iconst 1, 1) := by decide +kernel
theorem dX9_holds_87 : decode cX9_holds 87 = .ok (.iand, 1) := by decide +kernel
theorem dX9_holds_88 : decode cX9_holds 88 = .ok (.iconst 1, 1) := by decide +kernel
theorem dX9_holds_89 : decode cX9_holds 89 = .ok (.if_icmp .ne 7, 3) := by decide +kernel
theorem dX9_holds_92 : decode cX9_holds 92 = .ok (.iconst 1, 1) := by decide +kernel
theorem dX9_holds_93 : decode cX9_holds 93 = .ok (.goto 4, 3) := by decide +kernel
theorem dX9_holds_96 : decode cX9_holds 96 = .ok (.iconst 0, 1) := by decide +kernel
theorem dX9_holds_97 : decode cX9_holds 97 = .ok (.ireturn, 1) := by decide +kernel
set_option maxRecDepth 20000 in
theorem ggX9_holds_X9_greats : GoodIn wsX9_holds wsX9_greats := goodIn_r _ [8, 1, 2, 9, 10, 11, 12, 13, 14, 15, 16, 17, 18, 19, 20, 21, 22, 23, 24, 25, 26, 27, 28, 29, 30, 31, 32, 33, 34, 35, 36, 37, 38, 39, 40, 41, 42, 43, 44, 45, 46, 47, 48, 49, 50, 51, 52, 53, 54, 55, 56, 57, 58, 59, 60, 61, 62, 63, 64, 65, 66] rfl (by decide +kernel)
set_option maxRecDepth 20000 in
theorem gX9_holds_X9_greats : GoodIn wsX9_holds (wsV RX9 341 RX9 yX9_greats wsX9_greats) := goodIn_app (goodIn_of _ (by decide +kernel)) ggX9_holds_X9_greats
set_option maxHeartbeats 4000000 in
set_option maxRecDepth 100000 in
theorem sX9_holds (l : Launch) (D : va_G) (k : Nat → ClassId) (sz : Nat) (y : Nat) (g : Int32) (ro : Int32) (y_thrown : Int32) (y_taped : Nat) (y_tape : Nat) (y_size : Nat) (y_place : Nat) (y_begin : Nat) (y_token : Nat) (y_word : Int64) (y_told : Int32) (y_wrong : Int32) (y_supper : Nat) (y_guestName : Nat) (y_kind : Nat) (y_offTold : Nat) (y_pace : Nat) (y_cooks : Nat) (y_snow : Nat) (y_lineFrom : Nat) (y_lineTo : Nat) (y_codes : Nat) (y_code : Nat) (y_toldLines : Int32) (y_opened : Nat) (y_compared : Nat) (y_kept : Nat) (y_keptBy : Nat) (y_ahead : Nat) (y_against : Nat) (y_sum : Nat) (y_sumBy : Nat) (y_term : Nat) (y_termBy : Nat) (y_byNot : Nat) (y_valueOf : Nat) (y_given : Int32) (y_lines : Nat) (y_lineWhat : Nat) (y_lineA : Nat) (y_lineB : Nat) (y_seens : Nat) (y_seenIn : Nat) (y_seenYards : Nat) (y_seenNear : Nat) (y_s : Nat) (y_aside : Nat) (y_before : Nat) (y_marked : Nat) (y_undone : Nat) (y_isLaid : Nat) (y_done : Nat) (y_snowNow : Int32) (y_cameNow : Int32) (y_cookThen : Int32) (y_tasteThen : Int32) (y_places : Nat) (y_comesAt : Nat) (y_yardsIn : Nat) (y_g : Int64) (y_supperF : Nat → Int32) (y_kindF : Nat → Int32) (y_sF : Nat → Int32) (mb : Nat) (hg : 0 ≤ Int32.toInt g ∧ Int32.toInt g ≤ 5) (hmb : mb ≤ 1000000) (h_y_taped : y_taped ≤ 1000) (h_y_size : y_size ≤ 1000) (h_y_place : y_place ≤ 1000) (h_y_begin : y_begin ≤ 1000) (h_y_token : y_token ≤ 4) (h_y_told : 0 ≤ Int32.toInt y_told ∧ Int32.toInt y_told ≤ 9999) (h_y_code : y_code ≤ 2000) (h_y_done : y_done ≤ 16) (h_y_s : I9_min mb y_sF) (h_y_supper : I9_sup y_supperF) : Met l yX9_holds wsX9_holds ({ frames := 1, cells := 0, slots := 0, locals := 70 }) (va_Pc [.ref y, .int g, .int ro] (kz_Pre D k [(y, kO 9 [.int y_thrown, .int (nI y_taped), .ref y_tape, .int (nI y_size), .int (nI y_place), .int (nI y_begin), .int (nI y_token), .long y_word, .int y_told, .int y_wrong, .ref y_supper, .ref y_guestName, .ref y_kind, .ref y_offTold, .ref y_pace, .ref y_cooks, .ref y_snow, .ref y_lineFrom, .ref y_lineTo, .ref y_codes, .int (nI y_code), .int y_toldLines, .ref y_opened, .ref y_compared, .ref y_kept, .ref y_keptBy, .ref y_ahead, .ref y_against, .ref y_sum, .ref y_sumBy, .ref y_term, .ref y_termBy, .ref y_byNot, .ref y_valueOf, .int y_given, .ref y_lines, .ref y_lineWhat, .ref y_lineA, .ref y_lineB, .ref y_seens, .ref y_seenIn, .ref y_seenYards, .ref y_seenNear, .ref y_s, .ref y_aside, .ref y_before, .ref y_marked, .ref y_undone, .ref y_isLaid, .int (nI y_done), .int y_snowNow, .int y_cameNow, .int y_cookThen, .int y_tasteThen, .ref y_places, .ref y_comesAt, .ref y_yardsIn, .long y_g]), (y_supper, kI k 8 y_supperF), (y_kind, kI k 12 y_kindF), (y_s, kI k 46 y_sF)] sz)) (va_Qi (fun (rr : Int32) (uu : Bool) => rr = bB uu ∧ ((uu) = (fX9_holds g ro y_supperF y_kindF y_sF))) (fun uu zt => kz_B D (va_A [(y, kO 9 [.int y_thrown, .int (nI y_taped), .ref y_tape, .int (nI y_size), .int (nI y_place), .int (nI y_begin), .int (nI y_token), .long y_word, .int y_told, .int y_wrong, .ref y_supper, .ref y_guestName, .ref y_kind, .ref y_offTold, .ref y_pace, .ref y_cooks, .ref y_snow, .ref y_lineFrom, .ref y_lineTo, .ref y_codes, .int (nI y_code), .int y_toldLines, .ref y_opened, .ref y_compared, .ref y_kept, .ref y_keptBy, .ref y_ahead, .ref y_against, .ref y_sum, .ref y_sumBy, .ref y_term, .ref y_termBy, .ref y_byNot, .ref y_valueOf, .int y_given, .ref y_lines, .ref y_lineWhat, .ref y_lineA, .ref y_lineB, .ref y_seens, .ref y_seenIn, .ref y_seenYards, .ref y_seenNear, .ref y_s, .ref y_aside, .ref y_before, .ref y_marked, .ref y_undone, .ref y_isLaid, .int (nI y_done), .int y_snowNow, .int y_cameNow, .int y_cookThen, .int y_tasteThen, .ref y_places, .ref y_comesAt, .ref y_yardsIn, .long y_g]), (y_supper, kI k 8 y_supperF), (y_kind, kI k 12 y_kindF), (y_s, kI k 46 y_sF)] sz) [(y, kO 9 [.int y_thrown, .int (nI y_taped), .ref y_tape, .int (nI y_size), .int (nI y_place), .int (nI y_begin), .int (nI y_token), .long y_word, .int y_told, .int y_wrong, .ref y_supper, .ref y_guestName, .ref y_kind, .ref y_offTold, .ref y_pace, .ref y_cooks, .ref y_snow, .ref y_lineFrom, .ref y_lineTo, .ref y_codes, .int (nI y_code), .int y_toldLines, .ref y_opened, .ref y_compared, .ref y_kept, .ref y_keptBy, .ref y_ahead, .ref y_against, .ref y_sum, .ref y_sumBy, .ref y_term, .ref y_termBy, .ref y_byNot, .ref y_valueOf, .int y_given, .ref y_lines, .ref y_lineWhat, .ref y_lineA, .ref y_lineB, .ref y_seens, .ref y_seenIn, .ref y_seenYards, .ref y_seenNear, .ref y_s, .ref y_aside, .ref y_before, .ref y_marked, .ref y_undone, .ref y_isLaid, .int (nI y_done), .int y_snowNow, .int y_cameNow, .int y_cookThen, .int y_tasteThen, .ref y_places, .ref y_comesAt, .ref y_yardsIn, .long y_g]), (y_supper, kI k 8 y_supperF), (y_kind, kI k 12 y_kindF), (y_s, kI k 46 y_sF)] zt) (va_A [(y, kO 9 [.int y_thrown, .int (nI y_taped), .ref y_tape, .int (nI y_size), .int (nI y_place), .int (nI y_begin), .int (nI y_token), .long y_word, .int y_told, .int y_wrong, .ref y_supper, .ref y_guestName, .ref y_kind, .ref y_offTold, .ref y_pace, .ref y_cooks, .ref y_snow, .ref y_lineFrom, .ref y_lineTo, .ref y_codes, .int (nI y_code), .int y_toldLines, .ref y_opened, .ref y_compared, .ref y_kept, .ref y_keptBy, .ref y_ahead, .ref y_against, .ref y_sum, .ref y_sumBy, .ref y_term, .ref y_termBy, .ref y_byNot, .ref y_valueOf, .int y_given, .ref y_lines, .ref y_lineWhat, .ref y_lineA, .ref y_lineB, .ref y_seens, .ref y_seenIn, .ref y_seenYards, .ref y_seenNear, .ref y_s, .ref y_aside, .ref y_before, .ref y_marked, .ref y_undone, .ref y_isLaid, .int (nI y_done), .int y_snowNow, .int y_cameNow, .int y_cookThen, .int y_tasteThen, .ref y_places, .ref y_comesAt, .ref y_yardsIn, .long y_g]), (y_supper, kI k 8 y_supperF), (y_kind, kI k 12 y_kindF), (y_s, kI k 46 y_sF)] sz)) 0 0 (va_A [(y, kO 9 [.int y_thrown, .int (nI y_taped), .ref y_tape, .int (nI y_size), .int (nI y_place), .int (nI y_begin), .int (nI y_token), .long y_word, .int y_told, .int y_wrong, .ref y_supper, .ref y_guestName, .ref y_kind, .ref y_offTold, .ref y_pace, .ref y_cooks, .ref y_snow, .ref y_lineFrom, .ref y_lineTo, .ref y_codes, .int (nI y_code), .int y_toldLines, .ref y_opened, .ref y_compared, .ref y_kept, .ref y_keptBy, .ref y_ahead, .ref y_against, .ref y_sum, .ref y_sumBy, .ref y_term, .ref y_termBy, .ref y_byNot, .ref y_valueOf, .int y_given, .ref y_lines, .ref y_lineWhat, .ref y_lineA, .ref y_lineB, .ref y_seens, .ref y_seenIn, .ref y_seenYards, .ref y_seenNear, .ref y_s, .ref y_aside, .ref y_before, .ref y_marked, .ref y_undone, .ref y_isLaid, .int (nI y_done), .int y_snowNow, .int y_cameNow, .int y_cookThen, .int y_tasteThen, .ref y_places, .ref y_comesAt, .ref y_yardsIn, .long y_g]), (y_supper, kI k 8 y_supperF), (y_kind, kI k 12 y_kindF), (y_s, kI k 46 y_sF)] sz) := by
  refine Met.ofW (cc := cX9_holds) (maxL := 4) (ret := (some .boolean)) (by decide) rfl ?_
  intro p e s m args below meth c s₁ B hml hv
  obtain ⟨hav, hsz, hP, hK, hD0, hE⟩ := hv
  have hx := B.exec
  have hb := B.bytes
  have hr := B.returns
  have hts := atoms_spec (ws := wsX9_holds) B.pre
  have hown : s.vm.findClass RX9 = some m.cls := findClass_of_methodNamed B.named
  have hlocks := B.notSynchronized
  have hi9 : ∀ w ∈ u_ws RX9 TX9 58, w ∈ wsX9_holds := by decide +kernel
  have lf13 := hts (.fieldLink RX9 13 "LastCookModel" "supper" "[I") (by decide +kernel)
  have lf20 := hts (.fieldLink RX9 20 "LastCookModel" "kind" "[I") (by decide +kernel)
  have lf105 := hts (.fieldLink RX9 105 "LastCookModel" "s" "[I") (by decide +kernel)
  subst hsz
  have hD := hD0.self (sz := s.heap.size)
  generalize hAe : va_A [(y, kO 9 [.int y_thrown, .int (nI y_taped), .ref y_tape, .int (nI y_size), .int (nI y_place), .int (nI y_begin), .int (nI y_token), .long y_word, .int y_told, .int y_wrong, .ref y_supper, .ref y_guestName, .ref y_kind, .ref y_offTold, .ref y_pace, .ref y_cooks, .ref y_snow, .ref y_lineFrom, .ref y_lineTo, .ref y_codes, .int (nI y_code), .int y_toldLines, .ref y_opened, .ref y_compared, .ref y_kept, .ref y_keptBy, .ref y_ahead, .ref y_against, .ref y_sum, .ref y_sumBy, .ref y_term, .ref y_termBy, .ref y_byNot, .ref y_valueOf, .int y_given, .ref y_lines, .ref y_lineWhat, .ref y_lineA, .ref y_lineB, .ref y_seens, .ref y_seenIn, .ref y_seenYards, .ref y_seenNear, .ref y_s, .ref y_aside, .ref y_before, .ref y_marked, .ref y_undone, .ref y_isLaid, .int (nI y_done), .int y_snowNow, .int y_cameNow, .int y_cookThen, .int y_tasteThen, .ref y_places, .ref y_comesAt, .ref y_yardsIn, .long y_g]), (y_supper, kI k 8 y_supperF), (y_kind, kI k 12 y_kindF), (y_s, kI k 46 y_sF)] s.heap.size = A at hD ⊢
  have hA : ∀ q : Nat, s.heap.size ≤ q → A q := fun q h => by rw [← hAe]; exact Or.inr h
  have hS : va_S A s.heap s.heap [] := va_S.rf
  have hl := lv_entry ([.ref y, .int g, .int ro]) (n := 4) (Nat.le_of_ble_eq_true rfl)
  rw [show entryFrame m args 4 = entryFrame m ([.ref y, .int g, .int ro] : List Value).toArray 4 by rw [hav], lg_entry_eq]
  generalize (lg_sl ([.ref y, .int g, .int ro]) ++ List.replicate (4 - (lg_sl ([.ref y, .int g, .int ro])).length) Slot.unset).toArray = ls at hl ⊢
  have hl : lv_has ls 4 [(0, .ref y), (1, .int g), (2, .int ro)] := hl
  obtain ⟨R, hR⟩ : ∃ R, R = (headSpec wsX9_holds ({ frames := 1, cells := 0, slots := 0, locals := 70 } : Room)).room := ⟨_, rfl⟩
  rw [← hR]
  generalize hQ : MQ below _ args s 0 0 A = Q
  replace hQ := hQ.symm
  obtain ⟨H, hH⟩ : ∃ H, H = s.heap := ⟨_, rfl⟩
  rw [← hH] at hP ⊢
  have hS : va_S A s.heap H [] := by rw [hH]; exact hS
  obtain ⟨E0, hE0⟩ : ∃ E0 : Bool, E0 = (fX9_holds g ro y_supperF y_kindF y_sF) := ⟨_, rfl⟩
  have hZ : (fX9_holds g ro y_supperF y_kindF y_sF) = E0 := hE0.symm
  refine lv_iconst (v := 1) hx hb dX9_holds_0 (by decide) ?_
  refine lv_aload_n hx hb dX9_holds_1 rfl (lv_at hl 0 rfl) ?_
  refine va_get (D := D) (ci := 9) (v := .ref y_supper) (C := RX9) (T := TX9) (N := 58) hx hb hts hi9 hown hK hP 0 rfl rfl 10 (by decide) lf13 (fun _ h9 => h9) rfl dX9_holds_2 ?_
  refine lv_iconst (v := 0) hx hb dX9_holds_5 (by decide) ?_
  refine va_iald hx hb hK hP 1 0 rfl rfl (vp_in_iff.mpr (by decide)) dX9_holds_6 ?_
  have lf1 : 0 ≤ Int32.toInt (y_supperF (Int32.toNatClampNeg 0)) ∧ Int32.toInt (y_supperF (Int32.toNatClampNeg 0)) ≤ 6 := h_y_supper.1
  refine lv_ishl hx hb dX9_holds_7 ?_
  refine lv_iconst (v := 1) hx hb dX9_holds_8 (by decide) ?_
  refine lv_isub hx hb dX9_holds_9 ?_
  try have ta_2 : Int32.toInt ((1 <<< ((y_supperF (Int32.toNatClampNeg 0)) &&& 31)) - 1) = (Int32.toInt (1 <<< ((y_supperF (Int32.toNatClampNeg 0)) &&& 31))) - 1 := tI_sub rfl (by decide) (by omega) (by omega)
  refine lv_istore_n (lv' := [(3, .int ((1 <<< ((y_supperF (Int32.toNatClampNeg 0)) &&& 31)) - 1)), (0, .ref y), (1, .int g), (2, .int ro)]) hx hb dX9_holds_10 rfl hl (by decide) rfl (fun ls hl => ?_)
  refine lv_aload_n hx hb dX9_holds_11 rfl (lv_at hl 1 rfl) ?_
  refine va_get (D := D) (ci := 9) (v := .ref y_kind) (C := RX9) (T := TX9) (N := 58) hx hb hts hi9 hown hK hP 0 rfl rfl 12 (by decide) lf20 (fun _ h9 => h9) rfl dX9_holds_12 ?_
  refine lv_iload_n hx hb dX9_holds_15 rfl (lv_at hl 2 rfl) ?_
  refine va_iald hx hb hK hP 2 0 rfl rfl (vp_in_iff.mpr (by omega)) dX9_holds_16 ?_
  refine lv_iconst (v := 2) hx hb dX9_holds_17 (by decide) ?_
  have hj38_3 : ∀ (H : Heap) (locs : List Loc) (ls : Array Slot), ((fX9_holds_J38a g ro y_supperF y_kindF y_sF) = E0) → va_P D vwCl [(y, kO 9 [.int y_thrown, .int (nI y_taped), .ref y_tape, .int (nI y_size), .int (nI y_place), .int (nI y_begin), .int (nI y_token), .long y_word, .int y_told, .int y_wrong, .ref y_supper, .ref y_guestName, .ref y_kind, .ref y_offTold, .ref y_pace, .ref y_cooks, .ref y_snow, .ref y_lineFrom, .ref y_lineTo, .ref y_codes, .int (nI y_code), .int y_toldLines, .ref y_opened, .ref y_compared, .ref y_kept, .ref y_keptBy, .ref y_ahead, .ref y_against, .ref y_sum, .ref y_sumBy, .ref y_term, .ref y_termBy, .ref y_byNot, .ref y_valueOf, .int y_given, .ref y_lines, .ref y_lineWhat, .ref y_lineA, .ref y_lineB, .ref y_seens, .ref y_seenIn, .ref y_seenYards, .ref y_seenNear, .ref y_s, .ref y_aside, .ref y_before, .ref y_marked, .ref y_undone, .ref y_isLaid, .int (nI y_done), .int y_snowNow, .int y_cameNow, .int y_cookThen, .int y_tasteThen, .ref y_places, .ref y_comesAt, .ref y_yardsIn, .long y_g]), (y_supper, kI k 8 y_supperF), (y_kind, kI k 12 y_kindF), (y_s, kI k 46 y_sF)] H → va_D A [(y, kO 9 [.int y_thrown, .int (nI y_taped), .ref y_tape, .int (nI y_size), .int (nI y_place), .int (nI y_begin), .int (nI y_token), .long y_word, .int y_told, .int y_wrong, .ref y_supper, .ref y_guestName, .ref y_kind, .ref y_offTold, .ref y_pace, .ref y_cooks, .ref y_snow, .ref y_lineFrom, .ref y_lineTo, .ref y_codes, .int (nI y_code), .int y_toldLines, .ref y_opened, .ref y_compared, .ref y_kept, .ref y_keptBy, .ref y_ahead, .ref y_against, .ref y_sum, .ref y_sumBy, .ref y_term, .ref y_termBy, .ref y_byNot, .ref y_valueOf, .int y_given, .ref y_lines, .ref y_lineWhat, .ref y_lineA, .ref y_lineB, .ref y_seens, .ref y_seenIn, .ref y_seenYards, .ref y_seenNear, .ref y_s, .ref y_aside, .ref y_before, .ref y_marked, .ref y_undone, .ref y_isLaid, .int (nI y_done), .int y_snowNow, .int y_cameNow, .int y_cookThen, .int y_tasteThen, .ref y_places, .ref y_comesAt, .ref y_yardsIn, .long y_g]), (y_supper, kI k 8 y_supperF), (y_kind, kI k 12 y_kindF), (y_s, kI k 46 y_sF)] → va_S A s.heap H locs → lv_has ls 4 [(0, .ref y), (1, .int g), (2, .int ro), (3, .int ((1 <<< ((y_supperF (Int32.toNatClampNeg 0)) &&& 31)) - 1))] → W p l e R s m args below meth c H locs 0 0 Q (F0 m 38 ls []) := by
    intro H locs ls hZ hP hD hS hl
    refine lv_aload_n hx hb dX9_holds_38 rfl (lv_at hl 0 rfl) ?_
    refine va_get (D := D) (ci := 9) (v := .ref y_kind) (C := RX9) (T := TX9) (N := 58) hx hb hts hi9 hown hK hP 0 rfl rfl 12 (by decide) lf20 (fun _ h9 => h9) rfl dX9_holds_39 ?_
    refine lv_iload_n hx hb dX9_holds_42 rfl (lv_at hl 1 rfl) ?_
    refine va_iald hx hb hK hP 2 0 rfl rfl (vp_in_iff.mpr (by omega)) dX9_holds_43 ?_
    refine lv_iconst (v := 3) hx hb dX9_holds_44 (by decide) ?_
    have hj61_4 : ∀ (H : Heap) (locs : List Loc) (ls : Array Slot), ((fX9_holds_J61a g ro y_sF) = E0) → va_P D vwCl [(y, kO 9 [.int y_thrown, .int (nI y_taped), .ref y_tape, .int (nI y_size), .int (nI y_place), .int (nI y_begin), .int (nI y_token), .long y_word, .int y_told, .int y_wrong, .ref y_supper, .ref y_guestName, .ref y_kind, .ref y_offTold, .ref y_pace, .ref y_cooks, .ref y_snow, .ref y_lineFrom, .ref y_lineTo, .ref y_codes, .int (nI y_code), .int y_toldLines, .ref y_opened, .ref y_compared, .ref y_kept, .ref y_keptBy, .ref y_ahead, .ref y_against, .ref y_sum, .ref y_sumBy, .ref y_term, .ref y_termBy, .ref y_byNot, .ref y_valueOf, .int y_given, .ref y_lines, .ref y_lineWhat, .ref y_lineA, .ref y_lineB, .ref y_seens, .ref y_seenIn, .ref y_seenYards, .ref y_seenNear, .ref y_s, .ref y_aside, .ref y_before, .ref y_marked, .ref y_undone, .ref y_isLaid, .int (nI y_done), .int y_snowNow, .int y_cameNow, .int y_cookThen, .int y_tasteThen, .ref y_places, .ref y_comesAt, .ref y_yardsIn, .long y_g]), (y_supper, kI k 8 y_supperF), (y_kind, kI k 12 y_kindF), (y_s, kI k 46 y_sF)] H → va_D A [(y, kO 9 [.int y_thrown, .int (nI y_taped), .ref y_tape, .int (nI y_size), .int (nI y_place), .int (nI y_begin), .int (nI y_token), .long y_word, .int y_told, .int y_wrong, .ref y_supper, .ref y_guestName, .ref y_kind, .ref y_offTold, .ref y_pace, .ref y_cooks, .ref y_snow, .ref y_lineFrom, .ref y_lineTo, .ref y_codes, .int (nI y_code), .int y_toldLines, .ref y_opened, .ref y_compared, .ref y_kept, .ref y_keptBy, .ref y_ahead, .ref y_against, .ref y_sum, .ref y_sumBy, .ref y_term, .ref y_termBy, .ref y_byNot, .ref y_valueOf, .int y_given, .ref y_lines, .ref y_lineWhat, .ref y_lineA, .ref y_lineB, .ref y_seens, .ref y_seenIn, .ref y_seenYards, .ref y_seenNear, .ref y_s, .ref y_aside, .ref y_before, .ref y_marked, .ref y_undone, .ref y_isLaid, .int (nI y_done), .int y_snowNow, .int y_cameNow, .int y_cookThen, .int y_tasteThen, .ref y_places, .ref y_comesAt, .ref y_yardsIn, .long y_g]), (y_supper, kI k 8 y_supperF), (y_kind, kI k 12 y_kindF), (y_s, kI k 46 y_sF)] → va_S A s.heap H locs → lv_has ls 4 [(0, .ref y), (1, .int g), (2, .int ro), (3, .int ((1 <<< ((y_supperF (Int32.toNatClampNeg 0)) &&& 31)) - 1))] → W p l e R s m args below meth c H locs 0 0 Q (F0 m 61 ls []) := by
      intro H locs ls hZ hP hD hS hl
      refine lv_aload_n hx hb dX9_holds_61 rfl (lv_at hl 0 rfl) ?_
      refine va_get (D := D) (ci := 9) (v := .ref y_s) (C := RX9) (T := TX9) (N := 58) hx hb hts hi9 hown hK hP 0 rfl rfl 43 (by decide) lf105 (fun _ h9 => h9) rfl dX9_holds_62 ?_
      refine lv_bipush (v := 34) hx hb dX9_holds_65 (by decide) ?_
      refine lv_iload_n hx hb dX9_holds_67 rfl (lv_at hl 1 rfl) ?_
      refine lv_iadd hx hb dX9_holds_68 ?_
      try have ta_5 : Int32.toInt (34 + g) = 34 + (Int32.toInt g) := tI_add (by decide) rfl (by omega) (by omega)
      refine va_iald hx hb hK hP 3 0 rfl rfl (vp_in_iff.mpr (by omega)) dX9_holds_69 ?_
      have hj97_6 : ∀ (s0_97 : Bool) (H : Heap) (locs : List Loc) (ls : Array Slot), (fX9_holds_J97a s0_97 = E0) → va_P D vwCl [(y, kO 9 [.int y_thrown, .int (nI y_taped), .ref y_tape, .int (nI y_size), .int (nI y_place), .int (nI y_begin), .int (nI y_token), .long y_word, .int y_told, .int y_wrong, .ref y_supper, .ref y_guestName, .ref y_kind, .ref y_offTold, .ref y_pace, .ref y_cooks, .ref y_snow, .ref y_lineFrom, .ref y_lineTo, .ref y_codes, .int (nI y_code), .int y_toldLines, .ref y_opened, .ref y_compared, .ref y_kept, .ref y_keptBy, .ref y_ahead, .ref y_against, .ref y_sum, .ref y_sumBy, .ref y_term, .ref y_termBy, .ref y_byNot, .ref y_valueOf, .int y_given, .ref y_lines, .ref y_lineWhat, .ref y_lineA, .ref y_lineB, .ref y_seens, .ref y_seenIn, .ref y_seenYards, .ref y_seenNear, .ref y_s, .ref y_aside, .ref y_before, .ref y_marked, .ref y_undone, .ref y_isLaid, .int (nI y_done), .int y_snowNow, .int y_cameNow, .int y_cookThen, .int y_tasteThen, .ref y_places, .ref y_comesAt, .ref y_yardsIn, .long y_g]), (y_supper, kI k 8 y_supperF), (y_kind, kI k 12 y_kindF), (y_s, kI k 46 y_sF)] H → va_D A [(y, kO 9 [.int y_thrown, .int (nI y_taped), .ref y_tape, .int (nI y_size), .int (nI y_place), .int (nI y_begin), .int (nI y_token), .long y_word, .int y_told, .int y_wrong, .ref y_supper, .ref y_guestName, .ref y_kind, .ref y_offTold, .ref y_pace, .ref y_cooks, .ref y_snow, .ref y_lineFrom, .ref y_lineTo, .ref y_codes, .int (nI y_code), .int y_toldLines, .ref y_opened, .ref y_compared, .ref y_kept, .ref y_keptBy, .ref y_ahead, .ref y_against, .ref y_sum, .ref y_sumBy, .ref y_term, .ref y_termBy, .ref y_byNot, .ref y_valueOf, .int y_given, .ref y_lines, .ref y_lineWhat, .ref y_lineA, .ref y_lineB, .ref y_seens, .ref y_seenIn, .ref y_seenYards, .ref y_seenNear, .ref y_s, .ref y_aside, .ref y_before, .ref y_marked, .ref y_undone, .ref y_isLaid, .int (nI y_done), .int y_snowNow, .int y_cameNow, .int y_cookThen, .int y_tasteThen, .ref y_places, .ref y_comesAt, .ref y_yardsIn, .long y_g]), (y_supper, kI k 8 y_supperF), (y_kind, kI k 12 y_kindF), (y_s, kI k 46 y_sF)] → va_S A s.heap H locs → lv_has ls 4 [(0, .ref y), (1, .int g), (2, .int ro), (3, .int ((1 <<< ((y_supperF (Int32.toNatClampNeg 0)) &&& 31)) - 1))] → W p l e R s m args below meth c H locs 0 0 Q (F0 m 97 ls [.int (bB s0_97)]) := by
        intro s0_97 H locs ls hZ hP hD hS hl
        rw [hQ]
        have hP9 := hP.sub (ws' := [(y, kO 9 [.int y_thrown, .int (nI y_taped), .ref y_tape, .int (nI y_size), .int (nI y_place), .int (nI y_begin), .int (nI y_token), .long y_word, .int y_told, .int y_wrong, .ref y_supper, .ref y_guestName, .ref y_kind, .ref y_offTold, .ref y_pace, .ref y_cooks, .ref y_snow, .ref y_lineFrom, .ref y_lineTo, .ref y_codes, .int (nI y_code), .int y_toldLines, .ref y_opened, .ref y_compared, .ref y_kept, .ref y_keptBy, .ref y_ahead, .ref y_against, .ref y_sum, .ref y_sumBy, .ref y_term, .ref y_termBy, .ref y_byNot, .ref y_valueOf, .int y_given, .ref y_lines, .ref y_lineWhat, .ref y_lineA, .ref y_lineB, .ref y_seens, .ref y_seenIn, .ref y_seenYards, .ref y_seenNear, .ref y_s, .ref y_aside, .ref y_before, .ref y_marked, .ref y_undone, .ref y_isLaid, .int (nI y_done), .int y_snowNow, .int y_cameNow, .int y_cookThen, .int y_tasteThen, .ref y_places, .ref y_comesAt, .ref y_yardsIn, .long y_g]), (y_supper, kI k 8 y_supperF), (y_kind, kI k 12 y_kindF), (y_s, kI k 46 y_sF)]) [0, 1, 2, 3] rfl
        have hD9 := hD.sub (ws' := [(y, kO 9 [.int y_thrown, .int (nI y_taped), .ref y_tape, .int (nI y_size), .int (nI y_place), .int (nI y_begin), .int (nI y_token), .long y_word, .int y_told, .int y_wrong, .ref y_supper, .ref y_guestName, .ref y_kind, .ref y_offTold, .ref y_pace, .ref y_cooks, .ref y_snow, .ref y_lineFrom, .ref y_lineTo, .ref y_codes, .int (nI y_code), .int y_toldLines, .ref y_opened, .ref y_compared, .ref y_kept, .ref y_keptBy, .ref y_ahead, .ref y_against, .ref y_sum, .ref y_sumBy, .ref y_term, .ref y_termBy, .ref y_byNot, .ref y_valueOf, .int y_given, .ref y_lines, .ref y_lineWhat, .ref y_lineA, .ref y_lineB, .ref y_seens, .ref y_seenIn, .ref y_seenYards, .ref y_seenNear, .ref y_s, .ref y_aside, .ref y_before, .ref y_marked, .ref y_undone, .ref y_isLaid, .int (nI y_done), .int y_snowNow, .int y_cameNow, .int y_cookThen, .int y_tasteThen, .ref y_places, .ref y_comesAt, .ref y_yardsIn, .long y_g]), (y_supper, kI k 8 y_supperF), (y_kind, kI k 12 y_kindF), (y_s, kI k 46 y_sF)]) [0, 1, 2, 3] (by decide) rfl
        exact W.zret (v := (bB s0_97)) hx hb hr (narrow_bB _) (fun zt ht hW => ⟨⟨(bB s0_97), s0_97, rfl, ⟨rfl, (hZ.trans hE0)⟩, by rw [ht]; exact hP9, hD9⟩, hS.F ht⟩) hS.2.2 dX9_holds_97
      have hj96_7 : ∀ (H : Heap) (locs : List Loc) (ls : Array Slot), (fX9_holds_J96a = E0) → va_P D vwCl [(y, kO 9 [.int y_thrown, .int (nI y_taped), .ref y_tape, .int (nI y_size), .int (nI y_place), .int (nI y_begin), .int (nI y_token), .long y_word, .int y_told, .int y_wrong, .ref y_supper, .ref y_guestName, .ref y_kind, .ref y_offTold, .ref y_pace, .ref y_cooks, .ref y_snow, .ref y_lineFrom, .ref y_lineTo, .ref y_codes, .int (nI y_code), .int y_toldLines, .ref y_opened, .ref y_compared, .ref y_kept, .ref y_keptBy, .ref y_ahead, .ref y_against, .ref y_sum, .ref y_sumBy, .ref y_term, .ref y_termBy, .ref y_byNot, .ref y_valueOf, .int y_given, .ref y_lines, .ref y_lineWhat, .ref y_lineA, .ref y_lineB, .ref y_seens, .ref y_seenIn, .ref y_seenYards, .ref y_seenNear, .ref y_s, .ref y_aside, .ref y_before, .ref y_marked, .ref y_undone, .ref y_isLaid, .int (nI y_done), .int y_snowNow, .int y_cameNow, .int y_cookThen, .int y_tasteThen, .ref y_places, .ref y_comesAt, .ref y_yardsIn, .long y_g]), (y_supper, kI k 8 y_supperF), (y_kind, kI k 12 y_kindF), (y_s, kI k 46 y_sF)] H → va_D A [(y, kO 9 [.int y_thrown, .int (nI y_taped), .ref y_tape, .int (nI y_size), .int (nI y_place), .int (nI y_begin), .int (nI y_token), .long y_word, .int y_told, .int y_wrong, .ref y_supper, .ref y_guestName, .ref y_kind, .ref y_offTold, .ref y_pace, .ref y_cooks, .ref y_snow, .ref y_lineFrom, .ref y_lineTo, .ref y_codes, .int (nI y_code), .int y_toldLines, .ref y_opened, .ref y_compared, .ref y_kept, .ref y_keptBy, .ref y_ahead, .ref y_against, .ref y_sum, .ref y_sumBy, .ref y_term, .ref y_termBy, .ref y_byNot, .ref y_valueOf, .int y_given, .ref y_lines, .ref y_lineWhat, .ref y_lineA, .ref y_lineB, .ref y_seens, .ref y_seenIn, .ref y_seenYards, .ref y_seenNear, .ref y_s, .ref y_aside, .ref y_before, .ref y_marked, .ref y_undone, .ref y_isLaid, .int (nI y_done), .int y_snowNow, .int y_cameNow, .int y_cookThen, .int y_tasteThen, .ref y_places, .ref y_comesAt, .ref y_yardsIn, .long y_g]), (y_supper, kI k 8 y_supperF), (y_kind, kI k 12 y_kindF), (y_s, kI k 46 y_sF)] → va_S A s.heap H locs → lv_has ls 4 [(0, .ref y), (1, .int g), (2, .int ro), (3, .int ((1 <<< ((y_supperF (Int32.toNatClampNeg 0)) &&& 31)) - 1))] → W p l e R s m args below meth c H locs 0 0 Q (F0 m 96 ls []) := by
        intro H locs ls hZ hP hD hS hl
        refine lv_iconst (v := 0) hx hb dX9_holds_96 (by decide) ?_
        exact hj97_6 false _ _ _ hZ (hP.sub [0, 1, 2, 3] rfl) (hD.sub [0, 1, 2, 3] (by decide) rfl) hS (lv_sub hl [0, 1, 2, 3] rfl)
      refine lv_if_le (tgt := 96) hx hb dX9_holds_70 (by decide) (fun c_8 => ?_) (fun c_8 => ?_)
      · skip
        have t_8 : (Int32.toInt (y_sF (Int32.toNatClampNeg (34 + g)))) ≤ 0 := tI_le rfl (by decide) c_8
        have hZ := (if_pos c_8).symm.trans hZ
        exact hj96_7 _ _ _ hZ (hP.sub [0, 1, 2, 3] rfl) (hD.sub [0, 1, 2, 3] (by decide) rfl) hS (lv_sub hl [0, 1, 2, 3] rfl)
      · skip
        have t_8 : (Int32.toInt (y_sF (Int32.toNatClampNeg (34 + g)))) > 0 := tI_nle rfl (by decide) c_8
        have hZ := (if_neg c_8).symm.trans hZ
        refine lv_iload_n hx hb dX9_holds_73 rfl (lv_at hl 2 rfl) ?_
        refine lv_aload_n hx hb dX9_holds_74 rfl (lv_at hl 0 rfl) ?_
        refine va_get (D := D) (ci := 9) (v := .ref y_s) (C := RX9) (T := TX9) (N := 58) hx hb hts hi9 hown hK hP 0 rfl rfl 43 (by decide) lf105 (fun _ h9 => h9) rfl dX9_holds_75 ?_
        refine lv_bipush (v := 34) hx hb dX9_holds_78 (by decide) ?_
        refine lv_iload_n hx hb dX9_holds_80 rfl (lv_at hl 1 rfl) ?_
        refine lv_iadd hx hb dX9_holds_81 ?_
        try have ta_9 : Int32.toInt (34 + g) = 34 + (Int32.toInt g) := tI_add (by decide) rfl (by omega) (by omega)
        refine va_iald hx hb hK hP 3 0 rfl rfl (vp_in_iff.mpr (by omega)) dX9_holds_82 ?_
        refine lv_iconst (v := 1) hx hb dX9_holds_83 (by decide) ?_
        refine lv_isub hx hb dX9_holds_84 ?_
        try have ta_10 : Int32.toInt ((y_sF (Int32.toNatClampNeg (34 + g))) - 1) = (Int32.toInt (y_sF (Int32.toNatClampNeg (34 + g)))) - 1 := tI_sub rfl (by decide) (by omega) (by omega)
        refine lv_ishr hx hb dX9_holds_85 ?_
        refine lv_iconst (v := 1) hx hb dX9_holds_86 (by decide) ?_
        refine lv_iand hx hb dX9_holds_87 ?_
        refine lv_iconst (v := 1) hx hb dX9_holds_88 (by decide) ?_
        refine lv_icmp_ne (tgt := 96) hx hb dX9_holds_89 (by decide) (fun c_11 => ?_) (fun c_11 => ?_)
        · skip
          have t_11 : (Int32.toInt ((ro >>> (((y_sF (Int32.toNatClampNeg (34 + g))) - 1) &&& 31)) &&& 1)) ≠ 1 := tI_ne rfl (by decide) c_11
          have hZ := (if_neg c_11).symm.trans hZ
          exact hj96_7 _ _ _ hZ (hP.sub [0, 1, 2, 3] rfl) (hD.sub [0, 1, 2, 3] (by decide) rfl) hS (lv_sub hl [0, 1, 2, 3] rfl)
        · skip
          have t_11 : (Int32.toInt ((ro >>> (((y_sF (Int32.toNatClampNeg (34 + g))) - 1) &&& 31)) &&& 1)) = 1 := tI_eq rfl (by decide) c_11
          have hZ := (if_pos c_11).symm.trans hZ
          refine lv_iconst (v := 1) hx hb dX9_holds_92 (by decide) ?_
          refine lv_goto (tgt := 97) hx hb dX9_holds_93 (by decide) ?_
          exact hj97_6 true _ _ _ hZ (hP.sub [0, 1, 2, 3] rfl) (hD.sub [0, 1, 2, 3] (by decide) rfl) hS (lv_sub hl [0, 1, 2, 3] rfl)
    refine lv_icmp_ne (tgt := 61) hx hb dX9_holds_45 (by decide) (fun c_12 => ?_) (fun c_12 => ?_)
    · skip
      have t_12 : (Int32.toInt (y_kindF (Int32.toNatClampNeg g))) ≠ 3 := tI_ne rfl (by decide) c_12
      have hZ := (if_neg c_12).symm.trans hZ
      exact hj61_4 _ _ _ hZ (hP.sub [0, 1, 2, 3] rfl) (hD.sub [0, 1, 2, 3] (by decide) rfl) hS (lv_sub hl [0, 1, 2, 3] rfl)
    · skip
      have t_12 : (Int32.toInt (y_kindF (Int32.toNatClampNeg g))) = 3 := tI_eq rfl (by decide) c_12
      have hZ := (if_pos c_12).symm.trans hZ
      refine lv_iload_n hx hb dX9_holds_48 rfl (lv_at hl 2 rfl) ?_
      refine lv_aload_n hx hb dX9_holds_49 rfl (lv_at hl 0 rfl) ?_
      refine kz_Vi (As := []) (rest := [.int ro]) (wc := [(y, kO 9 [.int y_thrown, .int (nI y_taped), .ref y_tape, .int (nI y_size), .int (nI y_place), .int (nI y_begin), .int (nI y_token), .long y_word, .int y_told, .int y_wrong, .ref y_supper, .ref y_guestName, .ref y_kind, .ref y_offTold, .ref y_pace, .ref y_cooks, .ref y_snow, .ref y_lineFrom, .ref y_lineTo, .ref y_codes, .int (nI y_code), .int y_toldLines, .ref y_opened, .ref y_compared, .ref y_kept, .ref y_keptBy, .ref y_ahead, .ref y_against, .ref y_sum, .ref y_sumBy, .ref y_term, .ref y_termBy, .ref y_byNot, .ref y_valueOf, .int y_given, .ref y_lines, .ref y_lineWhat, .ref y_lineA, .ref y_lineB, .ref y_seens, .ref y_seenIn, .ref y_seenYards, .ref y_seenNear, .ref y_s, .ref y_aside, .ref y_before, .ref y_marked, .ref y_undone, .ref y_isLaid, .int (nI y_done), .int y_snowNow, .int y_cameNow, .int y_cookThen, .int y_tasteThen, .ref y_places, .ref y_comesAt, .ref y_yardsIn, .long y_g]), (y_supper, kI k 8 y_supperF), (y_kind, kI k 12 y_kindF)]) (wr := [(y_s, kI k 46 y_sF)]) ⟨hx, hb, hml, hown, hts⟩ hK hE hP hD hS hA (sX9_greats l D k H.size y y_thrown y_taped y_tape y_size y_place y_begin y_token y_word y_told y_wrong y_supper y_guestName y_kind y_offTold y_pace y_cooks y_snow y_lineFrom y_lineTo y_codes y_code y_toldLines y_opened y_compared y_kept y_keptBy y_ahead y_against y_sum y_sumBy y_term y_termBy y_byNot y_valueOf y_given y_lines y_lineWhat y_lineA y_lineB y_seens y_seenIn y_seenYards y_seenNear y_s y_aside y_before y_marked y_undone y_isLaid y_done y_snowNow y_cameNow y_cookThen y_tasteThen y_places y_comesAt y_yardsIn y_g y_supperF y_kindF (by first | omega | assumption | decide) (by first | omega | assumption | decide) (by first | omega | assumption | decide) (by first | omega | assumption | decide) (by first | omega | assumption | decide) (by first | omega | assumption | decide) (by first | omega | assumption | decide) (by first | omega | assumption | decide) (by first | assumption | exact I9_supU (by assumption) (by refine ⟨fun h9 => ?_, fun h9 => ?_, fun h9 => ?_, fun h9 => ?_⟩ <;> first | omega | exact absurd h9 (by decide) | decide))) (cwV 0 hts gX9_holds_X9_greats rfl rfl rfl (by decide +kernel) (by rw [hR]; exact ⟨Nat.le_of_ble_eq_true rfl, Nat.le_of_ble_eq_true rfl⟩)) [0, 1, 2] [3] rfl rfl (by decide) (by decide) (by decide) 0 rfl rfl rfl hl.1 rfl (Nat.le_of_ble_eq_true rfl) dX9_holds_50 (by rw [hR]; exact ⟨Nat.le_of_ble_eq_true rfl, Nat.le_of_ble_eq_true rfl⟩) (fun r13 u13 H locs hw13 hP hD hS => ?_)
      try dsimp only at hw13
      have hP : va_P D vwCl [(y_s, kI k 46 y_sF), (y, kO 9 [.int y_thrown, .int (nI y_taped), .ref y_tape, .int (nI y_size), .int (nI y_place), .int (nI y_begin), .int (nI y_token), .long y_word, .int y_told, .int y_wrong, .ref y_supper, .ref y_guestName, .ref y_kind, .ref y_offTold, .ref y_pace, .ref y_cooks, .ref y_snow, .ref y_lineFrom, .ref y_lineTo, .ref y_codes, .int (nI y_code), .int y_toldLines, .ref y_opened, .ref y_compared, .ref y_kept, .ref y_keptBy, .ref y_ahead, .ref y_against, .ref y_sum, .ref y_sumBy, .ref y_term, .ref y_termBy, .ref y_byNot, .ref y_valueOf, .int y_given, .ref y_lines, .ref y_lineWhat, .ref y_lineA, .ref y_lineB, .ref y_seens, .ref y_seenIn, .ref y_seenYards, .ref y_seenNear, .ref y_s, .ref y_aside, .ref y_before, .ref y_marked, .ref y_undone, .ref y_isLaid, .int (nI y_done), .int y_snowNow, .int y_cameNow, .int y_cookThen, .int y_tasteThen, .ref y_places, .ref y_comesAt, .ref y_yardsIn, .long y_g]), (y_supper, kI k 8 y_supperF), (y_kind, kI k 12 y_kindF)] H := hP
      have hD : va_D A [(y_s, kI k 46 y_sF), (y, kO 9 [.int y_thrown, .int (nI y_taped), .ref y_tape, .int (nI y_size), .int (nI y_place), .int (nI y_begin), .int (nI y_token), .long y_word, .int y_told, .int y_wrong, .ref y_supper, .ref y_guestName, .ref y_kind, .ref y_offTold, .ref y_pace, .ref y_cooks, .ref y_snow, .ref y_lineFrom, .ref y_lineTo, .ref y_codes, .int (nI y_code), .int y_toldLines, .ref y_opened, .ref y_compared, .ref y_kept, .ref y_keptBy, .ref y_ahead, .ref y_against, .ref y_sum, .ref y_sumBy, .ref y_term, .ref y_termBy, .ref y_byNot, .ref y_valueOf, .int y_given, .ref y_lines, .ref y_lineWhat, .ref y_lineA, .ref y_lineB, .ref y_seens, .ref y_seenIn, .ref y_seenYards, .ref y_seenNear, .ref y_s, .ref y_aside, .ref y_before, .ref y_marked, .ref y_undone, .ref y_isLaid, .int (nI y_done), .int y_snowNow, .int y_cameNow, .int y_cookThen, .int y_tasteThen, .ref y_places, .ref y_comesAt, .ref y_yardsIn, .long y_g]), (y_supper, kI k 8 y_supperF), (y_kind, kI k 12 y_kindF)] := hD
      have hw13_0 := hw13
      have hZ := bn1_e hw13_0 hZ
      refine lv_iconst (v := (-1)) hx hb dX9_holds_53 (by decide) ?_
      refine lv_ixor hx hb dX9_holds_54 ?_
      refine lv_iand hx hb dX9_holds_55 ?_
      refine lv_if_eq (tgt := 61) hx hb dX9_holds_56 (by decide) (fun c_14 => ?_) (fun c_14 => ?_)
      · skip
        have t_14 : (Int32.toInt (ro &&& (r13 ^^^ (-1)))) = 0 := tI_eq rfl (by decide) c_14
        have hZ := (if_pos c_14).symm.trans hZ
        exact hj61_4 _ _ _ hZ (hP.sub [1, 2, 3, 0] rfl) (hD.sub [1, 2, 3, 0] (by decide) rfl) hS (lv_sub hl [0, 1, 2, 3] rfl)
      · skip
        have t_14 : (Int32.toInt (ro &&& (r13 ^^^ (-1)))) ≠ 0 := tI_ne rfl (by decide) c_14
        have hZ := (if_neg c_14).symm.trans hZ
        refine lv_iconst (v := 1) hx hb dX9_holds_59 (by decide) ?_
        rw [hQ]
        have hP9 := hP.sub (ws' := [(y, kO 9 [.int y_thrown, .int (nI y_taped), .ref y_tape, .int (nI y_size), .int (nI y_place), .int (nI y_begin), .int (nI y_token), .long y_word, .int y_told, .int y_wrong, .ref y_supper, .ref y_guestName, .ref y_kind, .ref y_offTold, .ref y_pace, .ref y_cooks, .ref y_snow, .ref y_lineFrom, .ref y_lineTo, .ref y_codes, .int (nI y_code), .int y_toldLines, .ref y_opened, .ref y_compared, .ref y_kept, .ref y_keptBy, .ref y_ahead, .ref y_against, .ref y_sum, .ref y_sumBy, .ref y_term, .ref y_termBy, .ref y_byNot, .ref y_valueOf, .int y_given, .ref y_lines, .ref y_lineWhat, .ref y_lineA, .ref y_lineB, .ref y_seens, .ref y_seenIn, .ref y_seenYards, .ref y_seenNear, .ref y_s, .ref y_aside, .ref y_before, .ref y_marked, .ref y_undone, .ref y_isLaid, .int (nI y_done), .int y_snowNow, .int y_cameNow, .int y_cookThen, .int y_tasteThen, .ref y_places, .ref y_comesAt, .ref y_yardsIn, .long y_g]), (y_supper, kI k 8 y_supperF), (y_kind, kI k 12 y_kindF), (y_s, kI k 46 y_sF)]) [1, 2, 3, 0] rfl
        have hD9 := hD.sub (ws' := [(y, kO 9 [.int y_thrown, .int (nI y_taped), .ref y_tape, .int (nI y_size), .int (nI y_place), .int (nI y_begin), .int (nI y_token), .long y_word, .int y_told, .int y_wrong, .ref y_supper, .ref y_guestName, .ref y_kind, .ref y_offTold, .ref y_pace, .ref y_cooks, .ref y_snow, .ref y_lineFrom, .ref y_lineTo, .ref y_codes, .int (nI y_code), .int y_toldLines, .ref y_opened, .ref y_compared, .ref y_kept, .ref y_keptBy, .ref y_ahead, .ref y_against, .ref y_sum, .ref y_sumBy, .ref y_term, .ref y_termBy, .ref y_byNot, .ref y_valueOf, .int y_given, .ref y_lines, .ref y_lineWhat, .ref y_lineA, .ref y_lineB, .ref y_seens, .ref y_seenIn, .ref y_seenYards, .ref y_seenNear, .ref y_s, .ref y_aside, .ref y_before, .ref y_marked, .ref y_undone, .ref y_isLaid, .int (nI y_done), .int y_snowNow, .int y_cameNow, .int y_cookThen, .int y_tasteThen, .ref y_places, .ref y_comesAt, .ref y_yardsIn, .long y_g]), (y_supper, kI k 8 y_supperF), (y_kind, kI k 12 y_kindF), (y_s, kI k 46 y_sF)]) [1, 2, 3, 0] (by decide) rfl
        exact W.zret (v := 1) hx hb hr rfl (fun zt ht hW => ⟨⟨1, true, rfl, ⟨rfl, (hZ.trans hE0)⟩, by rw [ht]; exact hP9, hD9⟩, hS.F ht⟩) hS.2.2 dX9_holds_60
  refine lv_icmp_ne (tgt := 38) hx hb dX9_holds_18 (by decide) (fun c_15 => ?_) (fun c_15 => ?_)
  · skip
    have t_15 : (Int32.toInt (y_kindF (Int32.toNatClampNeg g))) ≠ 2 := tI_ne rfl (by decide) c_15
    have hZ := (if_neg c_15).symm.trans hZ
    exact hj38_3 _ _ _ hZ (hP.sub [0, 1, 2, 3] rfl) (hD.sub [0, 1, 2, 3] (by decide) rfl) hS (lv_sub hl [1, 2, 3, 0] rfl)
  · skip
    have t_15 : (Int32.toInt (y_kindF (Int32.toNatClampNeg g))) = 2 := tI_eq rfl (by decide) c_15
    have hZ := (if_pos c_15).symm.trans hZ
    refine lv_iload_n hx hb dX9_holds_21 rfl (lv_at hl 3 rfl) ?_
    refine lv_iload_n hx hb dX9_holds_22 rfl (lv_at hl 0 rfl) ?_
    refine lv_icmp_ne (tgt := 38) hx hb dX9_holds_23 (by decide) (fun c_16 => ?_) (fun c_16 => ?_)
    · skip
      have t_16 : (Int32.toInt ro) ≠ (Int32.toInt ((1 <<< ((y_supperF (Int32.toNatClampNeg 0)) &&& 31)) - 1)) := tI_ne rfl rfl c_16
      have hZ := (if_neg c_16).symm.trans hZ
      exact hj38_3 _ _ _ hZ (hP.sub [0, 1, 2, 3] rfl) (hD.sub [0, 1, 2, 3] (by decide) rfl) hS (lv_sub hl [1, 2, 3, 0] rfl)
    · skip
      have t_16 : (Int32.toInt ro) = (Int32.toInt ((1 <<< ((y_supperF (Int32.toNatClampNeg 0)) &&& 31)) - 1)) := tI_eq rfl rfl c_16
      have hZ := (if_pos c_16).symm.trans hZ
      refine lv_aload_n hx hb dX9_holds_26 rfl (lv_at hl 1 rfl) ?_
      refine va_get (D := D) (ci := 9) (v := .ref y_supper) (C := RX9) (T := TX9) (N := 58) hx hb hts hi9 hown hK hP 0 rfl rfl 10 (by decide) lf13 (fun _ h9 => h9) rfl dX9_holds_27 ?_
      refine lv_iconst (v := 0) hx hb dX9_holds_30 (by decide) ?_
      refine va_iald hx hb hK hP 1 0 rfl rfl (vp_in_iff.mpr (by decide)) dX9_holds_31 ?_
      have lf17 : 0 ≤ Int32.toInt (y_supperF (Int32.toNatClampNeg 0)) ∧ Int32.toInt (y_supperF (Int32.toNatClampNeg 0)) ≤ 6 := h_y_supper.1
      refine lv_iconst (v := 1) hx hb dX9_holds_32 (by decide) ?_
      refine lv_icmp_le (tgt := 38) hx hb dX9_holds_33 (by decide) (fun c_18 => ?_) (fun c_18 => ?_)
      · skip
        have t_18 : (Int32.toInt (y_supperF (Int32.toNatClampNeg 0))) ≤ 1 := tI_le rfl (by decide) c_18
        have hZ := (if_pos c_18).symm.trans hZ
        exact hj38_3 _ _ _ hZ (hP.sub [0, 1, 2, 3] rfl) (hD.sub [0, 1, 2, 3] (by decide) rfl) hS (lv_sub hl [1, 2, 3, 0] rfl)
      · skip
        have t_18 : (Int32.toInt (y_supperF (Int32.toNatClampNeg 0))) > 1 := tI_nle rfl (by decide) c_18
        have hZ := (if_neg c_18).symm.trans hZ
        refine lv_iconst (v := 1) hx hb dX9_holds_36 (by decide) ?_
        rw [hQ]
        have hP9 := hP.sub (ws' := [(y, kO 9 [.int y_thrown, .int (nI y_taped), .ref y_tape, .int (nI y_size), .int (nI y_place), .int (nI y_begin), .int (nI y_token), .long y_word, .int y_told, .int y_wrong, .ref y_supper, .ref y_guestName, .ref y_kind, .ref y_offTold, .ref y_pace, .ref y_cooks, .ref y_snow, .ref y_lineFrom, .ref y_lineTo, .ref y_codes, .int (nI y_code), .int y_toldLines, .ref y_opened, .ref y_compared, .ref y_kept, .ref y_keptBy, .ref y_ahead, .ref y_against, .ref y_sum, .ref y_sumBy, .ref y_term, .ref y_termBy, .ref y_byNot, .ref y_valueOf, .int y_given, .ref y_lines, .ref y_lineWhat, .ref y_lineA, .ref y_lineB, .ref y_seens, .ref y_seenIn, .ref y_seenYards, .ref y_seenNear, .ref y_s, .ref y_aside, .ref y_before, .ref y_marked, .ref y_undone, .ref y_isLaid, .int (nI y_done), .int y_snowNow, .int y_cameNow, .int y_cookThen, .int y_tasteThen, .ref y_places, .ref y_comesAt, .ref y_yardsIn, .long y_g]), (y_supper, kI k 8 y_supperF), (y_kind, kI k 12 y_kindF), (y_s, kI k 46 y_sF)]) [0, 1, 2, 3] rfl
        have hD9 := hD.sub (ws' := [(y, kO 9 [.int y_thrown, .int (nI y_taped), .ref y_tape, .int (nI y_size), .int (nI y_place), .int (nI y_begin), .int (nI y_token), .long y_word, .int y_told, .int y_wrong, .ref y_supper, .ref y_guestName, .ref y_kind, .ref y_offTold, .ref y_pace, .ref y_cooks, .ref y_snow, .ref y_lineFrom, .ref y_lineTo, .ref y_codes, .int (nI y_code), .int y_toldLines, .ref y_opened, .ref y_compared, .ref y_kept, .ref y_keptBy, .ref y_ahead, .ref y_against, .ref y_sum, .ref y_sumBy, .ref y_term, .ref y_termBy, .ref y_byNot, .ref y_valueOf, .int y_given, .ref y_lines, .ref y_lineWhat, .ref y_lineA, .ref y_lineB, .ref y_seens, .ref y_seenIn, .ref y_seenYards, .ref y_seenNear, .ref y_s, .ref y_aside, .ref y_before, .ref y_marked, .ref y_undone, .ref y_isLaid, .int (nI y_done), .int y_snowNow, .int y_cameNow, .int y_cookThen, .int y_tasteThen, .ref y_places, .ref y_comesAt, .ref y_yardsIn, .long y_g]), (y_supper, kI k 8 y_supperF), (y_kind, kI k 12 y_kindF), (y_s, kI k 46 y_sF)]) [0, 1, 2, 3] (by decide) rfl
        exact W.zret (v := 1) hx hb hr rfl (fun zt ht hW => ⟨⟨1, true, rfl, ⟨rfl, (hZ.trans hE0)⟩, by rw [ht]; exact hP9, hD9⟩, hS.F ht⟩) hS.2.2 dX9_holds_37
theorem dX9_goes_0 : decode cX9_goes 0 = .ok (.aload_n 0, 1) := by decide +kernel
theorem dX9_goes_1 : decode cX9_goes 1 = .ok (.getfield 105, 3) := by decide +kernel
theorem dX9_goes_4 : decode cX9_goes 4 = .ok (.bipush 22, 2) := by decide +kernel
theorem dX9_goes_6 : decode cX9_goes 6 = .ok (.iload_n 1, 1) := by decide +kernel
theorem dX9_goes_7 : decode cX9_goes 7 = .ok (.iadd, 1) := by decide +kernel
theorem dX9_goes_8 : decode cX9_goes 8 = .ok (.iaload, 1) := by decide +kernel
theorem dX9_goes_9 : decode cX9_goes 9 = .ok (.ifCond .le 17, 3) := by decide +kernel
theorem dX9_goes_12 : decode cX9_goes 12 = .ok (.aload_n 0, 1) := by decide +kernel
theorem dX9_goes_13 : decode cX9_goes 13 = .ok (.getfield 105, 3) := by decide +kernel
theorem dX9_goes_16 : decode cX9_goes 16 = .ok (.bipush 22, 2) := by decide +kernel
theorem dX9_goes_18 : decode cX9_goes 18 = .ok (.iload_n 1, 1) := by decide +kernel
theorem dX9_goes_19 : decode cX9_goes 19 = .ok (.iadd, 1) := by decide +kernel
theorem dX9_goes_20 : decode cX9_goes 20 = .ok (.dup2, 1) := by decide +kernel
theorem dX9_goes_21 : decode cX9_goes 21 = .ok (.iaload, 1) := by decide +kernel
theorem dX9_goes_22 : decode cX9_goes 22 = .ok (.iconst 1, 1) := by decide +kernel
theorem dX9_goes_23 : decode cX9_goes 23 = .ok (.isub, 1) := by decide +kernel
theorem dX9_goes_24 : decode cX9_goes 24 = .ok (.iastore, 1) := by decide +kernel
theorem dX9_goes_25 : decode cX9_goes 25 = .ok (.return_, 1) := by decide +kernel
theorem dX9_goes_26 : decode cX9_goes 26 = .ok (.iconst 1, 1) := by decide +kernel
theorem dX9_goes_27 : decode cX9_goes 27 = .ok (.aload_n 0, 1) := by decide +kernel
theorem dX9_goes_28 : decode cX9_goes 28 = .ok (.iload_n 1, 1) := by decide +kernel
theorem dX9_goes_29 : decode cX9_goes 29 = .ok (.invokevirtual 344, 3) := by decide +kernel
theorem dX9_goes_32 : decode cX9_goes 32 = .ok (.aload_n 0, 1) := by decide +kernel
theorem dX9_goes_33 : decode cX9_goes 33 = .ok (.getfield 123, 3) := by decide +kernel
theorem dX9_goes_36 : decode cX9_goes 36 = .ok (.ifCond .ge 16, 3) := by decide +kernel
theorem dX9_goes_39 : decode cX9_goes 39 = .ok (.aload_n 0, 1) := by decide +kernel
theorem dX9_goes_40 : decode cX9_goes 40 = .ok (.aload_n 0, 1) := by decide +kernel
theorem dX9_goes_41 : decode cX9_goes 41 = .ok (.getfield 105, 3) := by decide +kernel
theorem dX9_goes_44 : decode cX9_goes 44 = .ok (.iconst 1, 1) := by decide +kernel
theorem dX9_goes_45 : decode cX9_goes 45 = .ok (.iaload, 1) := by decide +kernel
theorem dX9_goes_46 : decode cX9_goes 46 = .ok (.invokevirtual 347, 3) := by decide +kernel
theorem dX9_goes_49 : decode cX9_goes 49 = .ok (.goto 7, 3) := by decide +kernel
theorem dX9_goes_52 : decode cX9_goes 52 = .ok (.aload_n 0, 1) := by decide +kernel
theorem dX9_goes_53 : decode cX9_goes 53 = .ok (.getfield 123, 3) := by decide +kernel
theorem dX9_goes_56 : decode cX9_goes 56 = .ok (.isub, 1) := by decide +kernel
theorem dX9_goes_57 : decode cX9_goes 57 = .ok (.invokestatic 350, 3) := by decide +kernel
theorem dX9_goes_60 : decode cX9_goes 60 = .ok (.istore_n 3, 1) := by decide +kernel
theorem dX9_goes_61 : decode cX9_goes 61 = .ok (.aload_n 0, 1) := by decide +kernel
theorem dX9_goes_62 : decode cX9_goes 62 = .ok (.iload_n 1, 1) := by decide +kernel
theorem dX9_goes_63 : decode cX9_goes 63 = .ok (.iload_n 2, 1) := by decide +kernel
theorem dX9_goes_64 : decode cX9_goes 64 = .ok (.invokevirtual 353, 3) := by decide +kernel
theorem dX9_goes_67 : decode cX9_goes 67 = .ok (.ifCond .eq 23, 3) := by decide +kernel
theorem dX9_goes_70 : decode cX9_goes 70 = .ok (.aload_n 0, 1) := by decide +kernel
theorem dX9_goes_71 : decode cX9_goes 71 = .ok (.getfield 105, 3) := by decide +kernel
theorem dX9_goes_74 : decode cX9_goes 74 = .ok (.iconst 4, 1) := by decide +kernel
theorem dX9_goes_75 : decode cX9_goes 75 = .ok (.iload_n 1, 1) := by decide +kernel
theorem dX9_goes_76 : decode cX9_goes 76 = .ok (.iadd, 1) := by decide +kernel
theorem dX9_goes_77 : decode cX9_goes 77 = .ok (.iaload, 1) := by decide +kernel
theorem dX9_goes_78 : decode cX9_goes 78 = .ok (.aload_n 0, 1) := by decide +kernel
theorem dX9_goes_79 : decode cX9_goes 79 = .ok (.getfield 13, 3) := by decide +kernel
theorem dX9_goes_82 : decode cX9_goes 82 = .ok (.iconst 1, 1) := by decide +kernel
theorem dX9_goes_83 : decode cX9_goes 83 = .ok (.iaload, 1) := by decide +kernel
theorem dX9_goes_84 : decode cX9_goes 84 = .ok (.invokestatic 335, 3) := by decide +kernel
theorem dX9_goes_87 : decode cX9_goes 87 = .ok (.goto 4, 3) := by decide +kernel
theorem dX9_goes_90 : decode cX9_goes 90 = .ok (.iconst 0, 1) := by decide +kernel
theorem dX9_goes_91 : decode cX9_goes 91 = .ok (.istore 4, 2) := by decide +kernel
theorem dX9_goes_93 : decode cX9_goes 93 = .ok (.aload_n 0, 1) := by decide +kernel
theorem dX9_goes_94 : decode cX9_goes 94 = .ok (.getfield 105, 3) := by decide +kernel
theorem dX9_goes_97 : decode cX9_goes 97 = .ok (.iconst 4, 1) := by decide +kernel
theorem dX9_goes_98 : decode cX9_goes 98 = .ok (.iload_n 1, 1) := by decide +kernel
theorem dX9_goes_99 : decode cX9_goes 99 = .ok (.iadd, 1) := by decide +kernel
theorem dX9_goes_100 : decode cX9_goes 100 = .ok (.iload 4, 2) := by decide +kernel
theorem dX9_goes_102 : decode cX9_goes 102 = .ok (.aload_n 0, 1) := by decide +kernel
theorem dX9_goes_103 : decode cX9_goes 103 = .ok (.getfield 105, 3) := by decide +kernel
theorem dX9_goes_106 : decode cX9_goes 106 = .ok (.iconst 4, 1) := by decide +kernel
theorem dX9_goes_107 : decode cX9_goes 107 = .ok (.iload_n 1, 1) := by decide +kernel
theorem dX9_goes_108 : decode cX9_goes 108 = .ok (.iadd, 1) := by decide +kernel
theorem dX9_goes_109 : decode cX9_goes 109 = .ok (.iaload, 1) := by decide +kernel
theorem dX9_goes_110 : decode cX9_goes 110 = .ok (.iload_n 3, 1) := by decide +kernel
theorem dX9_goes_111 : decode cX9_goes 111 = .ok (.isub, 1) := by decide +kernel
theorem dX9_goes_112 : decode cX9_goes 112 = .ok (.invokestatic 350, 3) := by decide +kernel
theorem dX9_goes_115 : decode cX9_goes 115 = .ok (.iastore, 1) := by decide +kernel
theorem dX9_goes_116 : decode cX9_goes 116 = .ok (.return_, 1) := by decide +kernel
set_option maxRecDepth 20000 in
theorem ggX9_goes_X9_paceOf : GoodIn wsX9_goes wsX9_paceOf := goodIn_r _ [15, 16, 1, 8, 9, 5, 10, 31, 32, 33, 34, 35, 36, 37, 38, 39, 40, 41, 42, 43, 44, 45, 46, 47, 48, 49, 50, 51, 52, 53, 54, 55, 56, 57, 58, 59, 60, 61, 62, 63, 64, 65, 66, 67, 68, 69, 70, 71, 72, 73, 74, 75, 76, 77, 78, 79, 80, 81, 82, 83, 84, 85, 86, 87, 88] rfl (by decide +kernel)
set_option maxRecDepth 20000 in
theorem gX9_goes_X9_paceOf : GoodIn wsX9_goes (wsV RX9 344 RX9 yX9_paceOf wsX9_paceOf) := goodIn_app (goodIn_of _ (by decide +kernel)) ggX9_goes_X9_paceOf
set_option maxRecDepth 20000 in
theorem ggX9_goes_X9_holds : GoodIn wsX9_goes wsX9_holds := goodIn_r _ [25, 7, 26, 1, 27, 28, 29, 14, 30, 31, 32, 33, 34, 35, 36, 37, 38, 39, 40, 41, 42, 43, 44, 45, 46, 47, 48, 49, 50, 51, 52, 53, 54, 55, 56, 57, 58, 59, 60, 61, 62, 63, 64, 65, 66, 67, 68, 69, 70, 71, 72, 73, 74, 75, 76, 77, 78, 79, 80, 81, 82, 83, 84, 85, 86, 87, 88] rfl (by decide +kernel)
set_option maxRecDepth 20000 in
theorem gX9_goes_X9_holds : GoodIn wsX9_goes (wsV RX9 353 RX9 yX9_holds wsX9_holds) := goodIn_app (goodIn_of _ (by decide +kernel)) ggX9_goes_X9_holds
set_option maxRecDepth 20000 in
theorem ggX9_goes_X9_snowOf : GoodIn wsX9_goes wsX9_snowOf := goodIn_r _ [20, 7, 21, 31, 32, 33, 34, 35, 36, 37, 38, 39, 40, 41, 42, 43, 44, 45, 46, 47, 48, 49, 50, 51, 52, 53, 54, 55, 56, 57, 58, 59, 60, 61, 62, 63, 64, 65, 66, 67, 68, 69, 70, 71, 72, 73, 74, 75, 76, 77, 78, 79, 80, 81, 82, 83, 84, 85, 86, 87, 88] rfl (by decide +kernel)
set_option maxRecDepth 20000 in
theorem gX9_goes_X9_snowOf : GoodIn wsX9_goes (wsV RX9 347 RX9 yX9_snowOf wsX9_snowOf) := goodIn_app (goodIn_of _ (by decide +kernel)) ggX9_goes_X9_snowOf
set_option maxHeartbeats 4000000 in
set_option maxRecDepth 100000 in
theorem sX9_goes (l : Launch) (D : va_G) (k : Nat → ClassId) (sz : Nat) (y : Nat) (g : Int32) (ro : Int32) (y_thrown : Int32) (y_taped : Nat) (y_tape : Nat) (y_size : Nat) (y_place : Nat) (y_begin : Nat) (y_token : Nat) (y_word : Int64) (y_told : Int32) (y_wrong : Int32) (y_supper : Nat) (y_guestName : Nat) (y_kind : Nat) (y_offTold : Nat) (y_pace : Nat) (y_cooks : Nat) (y_snow : Nat) (y_lineFrom : Nat) (y_lineTo : Nat) (y_codes : Nat) (y_code : Nat) (y_toldLines : Int32) (y_opened : Nat) (y_compared : Nat) (y_kept : Nat) (y_keptBy : Nat) (y_ahead : Nat) (y_against : Nat) (y_sum : Nat) (y_sumBy : Nat) (y_term : Nat) (y_termBy : Nat) (y_byNot : Nat) (y_valueOf : Nat) (y_given : Int32) (y_lines : Nat) (y_lineWhat : Nat) (y_lineA : Nat) (y_lineB : Nat) (y_seens : Nat) (y_seenIn : Nat) (y_seenYards : Nat) (y_seenNear : Nat) (y_s : Nat) (y_aside : Nat) (y_before : Nat) (y_marked : Nat) (y_undone : Nat) (y_isLaid : Nat) (y_done : Nat) (y_snowNow : Int32) (y_cameNow : Int32) (y_cookThen : Int32) (y_tasteThen : Int32) (y_places : Nat) (y_comesAt : Nat) (y_yardsIn : Nat) (y_g : Int64) (y_supperF : Nat → Int32) (y_kindF : Nat → Int32) (y_paceF : Nat → Int32) (y_snowF : Nat → Int32) (y_sF : Nat → Int32) (mb : Nat) (hg : 0 ≤ Int32.toInt g ∧ Int32.toInt g ≤ 5) (hmb : mb ≤ 1000000) (h_y_taped : y_taped ≤ 1000) (h_y_size : y_size ≤ 1000) (h_y_place : y_place ≤ 1000) (h_y_begin : y_begin ≤ 1000) (h_y_token : y_token ≤ 4) (h_y_told : 0 ≤ Int32.toInt y_told ∧ Int32.toInt y_told ≤ 9999) (h_y_code : y_code ≤ 2000) (h_y_done : y_done ≤ 16) (h_y_s : I9_min mb y_sF) (h_y_supper : I9_sup y_supperF) : Met l yX9_goes wsX9_goes ({ frames := 2, cells := 0, slots := 0, locals := 140 }) (va_Pc [.ref y, .int g, .int ro] (kz_Pre D k [(y, kO 9 [.int y_thrown, .int (nI y_taped), .ref y_tape, .int (nI y_size), .int (nI y_place), .int (nI y_begin), .int (nI y_token), .long y_word, .int y_told, .int y_wrong, .ref y_supper, .ref y_guestName, .ref y_kind, .ref y_offTold, .ref y_pace, .ref y_cooks, .ref y_snow, .ref y_lineFrom, .ref y_lineTo, .ref y_codes, .int (nI y_code), .int y_toldLines, .ref y_opened, .ref y_compared, .ref y_kept, .ref y_keptBy, .ref y_ahead, .ref y_against, .ref y_sum, .ref y_sumBy, .ref y_term, .ref y_termBy, .ref y_byNot, .ref y_valueOf, .int y_given, .ref y_lines, .ref y_lineWhat, .ref y_lineA, .ref y_lineB, .ref y_seens, .ref y_seenIn, .ref y_seenYards, .ref y_seenNear, .ref y_s, .ref y_aside, .ref y_before, .ref y_marked, .ref y_undone, .ref y_isLaid, .int (nI y_done), .int y_snowNow, .int y_cameNow, .int y_cookThen, .int y_tasteThen, .ref y_places, .ref y_comesAt, .ref y_yardsIn, .long y_g]), (y_supper, kI k 8 y_supperF), (y_kind, kI k 12 y_kindF), (y_pace, kI k 12 y_paceF), (y_snow, kI k 24 y_snowF), (y_s, kI k 46 y_sF)] sz)) (va_Qv (fun (uu : Nat → Int32) => (I9_min mb uu) ∧ ((uu) = (fX9_goes g ro y_snowNow y_supperF y_kindF y_paceF y_snowF y_sF))) (fun uu zt => kz_B D (va_A [(y, kO 9 [.int y_thrown, .int (nI y_taped), .ref y_tape, .int (nI y_size), .int (nI y_place), .int (nI y_begin), .int (nI y_token), .long y_word, .int y_told, .int y_wrong, .ref y_supper, .ref y_guestName, .ref y_kind, .ref y_offTold, .ref y_pace, .ref y_cooks, .ref y_snow, .ref y_lineFrom, .ref y_lineTo, .ref y_codes, .int (nI y_code), .int y_toldLines, .ref y_opened, .ref y_compared, .ref y_kept, .ref y_keptBy, .ref y_ahead, .ref y_against, .ref y_sum, .ref y_sumBy, .ref y_term, .ref y_termBy, .ref y_byNot, .ref y_valueOf, .int y_given, .ref y_lines, .ref y_lineWhat, .ref y_lineA, .ref y_lineB, .ref y_seens, .ref y_seenIn, .ref y_seenYards, .ref y_seenNear, .ref y_s, .ref y_aside, .ref y_before, .ref y_marked, .ref y_undone, .ref y_isLaid, .int (nI y_done), .int y_snowNow, .int y_cameNow, .int y_cookThen, .int y_tasteThen, .ref y_places, .ref y_comesAt, .ref y_yardsIn, .long y_g]), (y_supper, kI k 8 y_supperF), (y_kind, kI k 12 y_kindF), (y_pace, kI k 12 y_paceF), (y_snow, kI k 24 y_snowF), (y_s, kI k 46 y_sF)] sz) [(y, kO 9 [.int y_thrown, .int (nI y_taped), .ref y_tape, .int (nI y_size), .int (nI y_place), .int (nI y_begin), .int (nI y_token), .long y_word, .int y_told, .int y_wrong, .ref y_supper, .ref y_guestName, .ref y_kind, .ref y_offTold, .ref y_pace, .ref y_cooks, .ref y_snow, .ref y_lineFrom, .ref y_lineTo, .ref y_codes, .int (nI y_code), .int y_toldLines, .ref y_opened, .ref y_compared, .ref y_kept, .ref y_keptBy, .ref y_ahead, .ref y_against, .ref y_sum, .ref y_sumBy, .ref y_term, .ref y_termBy, .ref y_byNot, .ref y_valueOf, .int y_given, .ref y_lines, .ref y_lineWhat, .ref y_lineA, .ref y_lineB, .ref y_seens, .ref y_seenIn, .ref y_seenYards, .ref y_seenNear, .ref y_s, .ref y_aside, .ref y_before, .ref y_marked, .ref y_undone, .ref y_isLaid, .int (nI y_done), .int y_snowNow, .int y_cameNow, .int y_cookThen, .int y_tasteThen, .ref y_places, .ref y_comesAt, .ref y_yardsIn, .long y_g]), (y_supper, kI k 8 y_supperF), (y_kind, kI k 12 y_kindF), (y_pace, kI k 12 y_paceF), (y_snow, kI k 24 y_snowF), (y_s, kI k 46 uu)] zt) (va_A [(y, kO 9 [.int y_thrown, .int (nI y_taped), .ref y_tape, .int (nI y_size), .int (nI y_place), .int (nI y_begin), .int (nI y_token), .long y_word, .int y_told, .int y_wrong, .ref y_supper, .ref y_guestName, .ref y_kind, .ref y_offTold, .ref y_pace, .ref y_cooks, .ref y_snow, .ref y_lineFrom, .ref y_lineTo, .ref y_codes, .int (nI y_code), .int y_toldLines, .ref y_opened, .ref y_compared, .ref y_kept, .ref y_keptBy, .ref y_ahead, .ref y_against, .ref y_sum, .ref y_sumBy, .ref y_term, .ref y_termBy, .ref y_byNot, .ref y_valueOf, .int y_given, .ref y_lines, .ref y_lineWhat, .ref y_lineA, .ref y_lineB, .ref y_seens, .ref y_seenIn, .ref y_seenYards, .ref y_seenNear, .ref y_s, .ref y_aside, .ref y_before, .ref y_marked, .ref y_undone, .ref y_isLaid, .int (nI y_done), .int y_snowNow, .int y_cameNow, .int y_cookThen, .int y_tasteThen, .ref y_places, .ref y_comesAt, .ref y_yardsIn, .long y_g]), (y_supper, kI k 8 y_supperF), (y_kind, kI k 12 y_kindF), (y_pace, kI k 12 y_paceF), (y_snow, kI k 24 y_snowF), (y_s, kI k 46 y_sF)] sz)) 0 0 (va_A [(y, kO 9 [.int y_thrown, .int (nI y_taped), .ref y_tape, .int (nI y_size), .int (nI y_place), .int (nI y_begin), .int (nI y_token), .long y_word, .int y_told, .int y_wrong, .ref y_supper, .ref y_guestName, .ref y_kind, .ref y_offTold, .ref y_pace, .ref y_cooks, .ref y_snow, .ref y_lineFrom, .ref y_lineTo, .ref y_codes, .int (nI y_code), .int y_toldLines, .ref y_opened, .ref y_compared, .ref y_kept, .ref y_keptBy, .ref y_ahead, .ref y_against, .ref y_sum, .ref y_sumBy, .ref y_term, .ref y_termBy, .ref y_byNot, .ref y_valueOf, .int y_given, .ref y_lines, .ref y_lineWhat, .ref y_lineA, .ref y_lineB, .ref y_seens, .ref y_seenIn, .ref y_seenYards, .ref y_seenNear, .ref y_s, .ref y_aside, .ref y_before, .ref y_marked, .ref y_undone, .ref y_isLaid, .int (nI y_done), .int y_snowNow, .int y_cameNow, .int y_cookThen, .int y_tasteThen, .ref y_places, .ref y_comesAt, .ref y_yardsIn, .long y_g]), (y_supper, kI k 8 y_supperF), (y_kind, kI k 12 y_kindF), (y_pace, kI k 12 y_paceF), (y_snow, kI k 24 y_snowF), (y_s, kI k 46 y_sF)] sz) := by
  refine Met.ofW (cc := cX9_goes) (maxL := 5) (ret := none) (by decide) rfl ?_
  intro p e s m args below meth c s₁ B hml hv
  obtain ⟨hav, hsz, hP, hK, hD0, hE⟩ := hv
  have hx := B.exec
  have hb := B.bytes
  have hr := B.returns
  have hts := atoms_spec (ws := wsX9_goes) B.pre
  have hown : s.vm.findClass RX9 = some m.cls := findClass_of_methodNamed B.named
  have hlocks := B.notSynchronized
  have hi9 : ∀ w ∈ u_ws RX9 TX9 58, w ∈ wsX9_goes := by decide +kernel
  have lf105 := hts (.fieldLink RX9 105 "LastCookModel" "s" "[I") (by decide +kernel)
  have lf123 := hts (.fieldLink RX9 123 "LastCookModel" "snowNow" "I") (by decide +kernel)
  have lm350 := hts (.methodLink RX9 350 Lib.Math.max.name) (by decide +kernel)
  have lmtmax := hts (.static Lib.Math.max.name) (by decide +kernel)
  have lim := hts (.initialized "java/lang/Math") (by decide +kernel)
  have lmcmax := hts (.code Lib.Math.max.name Lib.Math.max.code 2 (some .int)) (by decide +kernel)
  have lf13 := hts (.fieldLink RX9 13 "LastCookModel" "supper" "[I") (by decide +kernel)
  have lm335 := hts (.methodLink RX9 335 Lib.Math.min.name) (by decide +kernel)
  have lmtmin := hts (.static Lib.Math.min.name) (by decide +kernel)
  have lmcmin := hts (.code Lib.Math.min.name Lib.Math.min.code 2 (some .int)) (by decide +kernel)
  subst hsz
  have hD := hD0.self (sz := s.heap.size)
  generalize hAe : va_A [(y, kO 9 [.int y_thrown, .int (nI y_taped), .ref y_tape, .int (nI y_size), .int (nI y_place), .int (nI y_begin), .int (nI y_token), .long y_word, .int y_told, .int y_wrong, .ref y_supper, .ref y_guestName, .ref y_kind, .ref y_offTold, .ref y_pace, .ref y_cooks, .ref y_snow, .ref y_lineFrom, .ref y_lineTo, .ref y_codes, .int (nI y_code), .int y_toldLines, .ref y_opened, .ref y_compared, .ref y_kept, .ref y_keptBy, .ref y_ahead, .ref y_against, .ref y_sum, .ref y_sumBy, .ref y_term, .ref y_termBy, .ref y_byNot, .ref y_valueOf, .int y_given, .ref y_lines, .ref y_lineWhat, .ref y_lineA, .ref y_lineB, .ref y_seens, .ref y_seenIn, .ref y_seenYards, .ref y_seenNear, .ref y_s, .ref y_aside, .ref y_before, .ref y_marked, .ref y_undone, .ref y_isLaid, .int (nI y_done), .int y_snowNow, .int y_cameNow, .int y_cookThen, .int y_tasteThen, .ref y_places, .ref y_comesAt, .ref y_yardsIn, .long y_g]), (y_supper, kI k 8 y_supperF), (y_kind, kI k 12 y_kindF), (y_pace, kI k 12 y_paceF), (y_snow, kI k 24 y_snowF), (y_s, kI k 46 y_sF)] s.heap.size = A at hD ⊢
  have hA : ∀ q : Nat, s.heap.size ≤ q → A q := fun q h => by rw [← hAe]; exact Or.inr h
  have hS : va_S A s.heap s.heap [] := va_S.rf
  have hl := lv_entry ([.ref y, .int g, .int ro]) (n := 5) (Nat.le_of_ble_eq_true rfl)
  rw [show entryFrame m args 5 = entryFrame m ([.ref y, .int g, .int ro] : List Value).toArray 5 by rw [hav], lg_entry_eq]
  generalize (lg_sl ([.ref y, .int g, .int ro]) ++ List.replicate (5 - (lg_sl ([.ref y, .int g, .int ro])).length) Slot.unset).toArray = ls at hl ⊢
  have hl : lv_has ls 5 [(0, .ref y), (1, .int g), (2, .int ro)] := hl
  obtain ⟨R, hR⟩ : ∃ R, R = (headSpec wsX9_goes ({ frames := 2, cells := 0, slots := 0, locals := 140 } : Room)).room := ⟨_, rfl⟩
  rw [← hR]
  generalize hQ : MQ below _ args s 0 0 A = Q
  replace hQ := hQ.symm
  obtain ⟨H, hH⟩ : ∃ H, H = s.heap := ⟨_, rfl⟩
  rw [← hH] at hP ⊢
  have hS : va_S A s.heap H [] := by rw [hH]; exact hS
  obtain ⟨E0, hE0⟩ : ∃ E0 : (Nat → Int32), E0 = (fX9_goes g ro y_snowNow y_supperF y_kindF y_paceF y_snowF y_sF) := ⟨_, rfl⟩
  have hZ : (fX9_goes g ro y_snowNow y_supperF y_kindF y_paceF y_snowF y_sF) = E0 := hE0.symm
  refine lv_aload_n hx hb dX9_goes_0 rfl (lv_at hl 0 rfl) ?_
  refine va_get (D := D) (ci := 9) (v := .ref y_s) (C := RX9) (T := TX9) (N := 58) hx hb hts hi9 hown hK hP 0 rfl rfl 43 (by decide) lf105 (fun _ h9 => h9) rfl dX9_goes_1 ?_
  refine lv_bipush (v := 22) hx hb dX9_goes_4 (by decide) ?_
  refine lv_iload_n hx hb dX9_goes_6 rfl (lv_at hl 1 rfl) ?_
  refine lv_iadd hx hb dX9_goes_7 ?_
  try have ta_1 : Int32.toInt (22 + g) = 22 + (Int32.toInt g) := tI_add (by decide) rfl (by omega) (by omega)
  refine va_iald hx hb hK hP 5 0 rfl rfl (vp_in_iff.mpr (by omega)) dX9_goes_8 ?_
  refine lv_if_le (tgt := 26) hx hb dX9_goes_9 (by decide) (fun c_2 => ?_) (fun c_2 => ?_)
  · skip
    have t_2 : (Int32.toInt (y_sF (Int32.toNatClampNeg (22 + g)))) ≤ 0 := tI_le rfl (by decide) c_2
    have hZ := (if_pos c_2).symm.trans hZ
    refine lv_iconst (v := 1) hx hb dX9_goes_26 (by decide) ?_
    refine lv_aload_n hx hb dX9_goes_27 rfl (lv_at hl 0 rfl) ?_
    refine lv_iload_n hx hb dX9_goes_28 rfl (lv_at hl 1 rfl) ?_
    refine kz_Vi (As := [.int g]) (rest := [.int 1]) (wc := [(y, kO 9 [.int y_thrown, .int (nI y_taped), .ref y_tape, .int (nI y_size), .int (nI y_place), .int (nI y_begin), .int (nI y_token), .long y_word, .int y_told, .int y_wrong, .ref y_supper, .ref y_guestName, .ref y_kind, .ref y_offTold, .ref y_pace, .ref y_cooks, .ref y_snow, .ref y_lineFrom, .ref y_lineTo, .ref y_codes, .int (nI y_code), .int y_toldLines, .ref y_opened, .ref y_compared, .ref y_kept, .ref y_keptBy, .ref y_ahead, .ref y_against, .ref y_sum, .ref y_sumBy, .ref y_term, .ref y_termBy, .ref y_byNot, .ref y_valueOf, .int y_given, .ref y_lines, .ref y_lineWhat, .ref y_lineA, .ref y_lineB, .ref y_seens, .ref y_seenIn, .ref y_seenYards, .ref y_seenNear, .ref y_s, .ref y_aside, .ref y_before, .ref y_marked, .ref y_undone, .ref y_isLaid, .int (nI y_done), .int y_snowNow, .int y_cameNow, .int y_cookThen, .int y_tasteThen, .ref y_places, .ref y_comesAt, .ref y_yardsIn, .long y_g]), (y_pace, kI k 12 y_paceF), (y_s, kI k 46 y_sF)]) (wr := [(y_supper, kI k 8 y_supperF), (y_kind, kI k 12 y_kindF), (y_snow, kI k 24 y_snowF)]) ⟨hx, hb, hml, hown, hts⟩ hK hE hP hD hS hA (sX9_paceOf l D k H.size y g y_thrown y_taped y_tape y_size y_place y_begin y_token y_word y_told y_wrong y_supper y_guestName y_kind y_offTold y_pace y_cooks y_snow y_lineFrom y_lineTo y_codes y_code y_toldLines y_opened y_compared y_kept y_keptBy y_ahead y_against y_sum y_sumBy y_term y_termBy y_byNot y_valueOf y_given y_lines y_lineWhat y_lineA y_lineB y_seens y_seenIn y_seenYards y_seenNear y_s y_aside y_before y_marked y_undone y_isLaid y_done y_snowNow y_cameNow y_cookThen y_tasteThen y_places y_comesAt y_yardsIn y_g y_paceF y_sF mb (by first | omega | assumption | decide) (by first | omega | assumption | decide) (by first | omega | assumption | decide) (by first | omega | assumption | decide) (by first | omega | assumption | decide) (by first | omega | assumption | decide) (by first | omega | assumption | decide) (by first | omega | assumption | decide) (by first | omega | assumption | decide) (by first | omega | assumption | decide) (by first | assumption | exact I9_minM (by assumption) (by omega))) (cwV 1 hts gX9_goes_X9_paceOf rfl rfl rfl (by decide +kernel) (by rw [hR]; exact ⟨Nat.le_of_ble_eq_true rfl, Nat.le_of_ble_eq_true rfl⟩)) [0, 3, 5] [1, 2, 4] rfl rfl (by decide) (by decide) (by decide) 0 rfl rfl rfl hl.1 rfl (Nat.le_of_ble_eq_true rfl) dX9_goes_29 (by rw [hR]; exact ⟨Nat.le_of_ble_eq_true rfl, Nat.le_of_ble_eq_true rfl⟩) (fun r3 u3 H locs hw3 hP hD hS => ?_)
    try dsimp only at hw3
    have hP : va_P D vwCl [(y_supper, kI k 8 y_supperF), (y_kind, kI k 12 y_kindF), (y_snow, kI k 24 y_snowF), (y, kO 9 [.int y_thrown, .int (nI y_taped), .ref y_tape, .int (nI y_size), .int (nI y_place), .int (nI y_begin), .int (nI y_token), .long y_word, .int y_told, .int y_wrong, .ref y_supper, .ref y_guestName, .ref y_kind, .ref y_offTold, .ref y_pace, .ref y_cooks, .ref y_snow, .ref y_lineFrom, .ref y_lineTo, .ref y_codes, .int (nI y_code), .int y_toldLines, .ref y_opened, .ref y_compared, .ref y_kept, .ref y_keptBy, .ref y_ahead, .ref y_against, .ref y_sum, .ref y_sumBy, .ref y_term, .ref y_termBy, .ref y_byNot, .ref y_valueOf, .int y_given, .ref y_lines, .ref y_lineWhat, .ref y_lineA, .ref y_lineB, .ref y_seens, .ref y_seenIn, .ref y_seenYards, .ref y_seenNear, .ref y_s, .ref y_aside, .ref y_before, .ref y_marked, .ref y_undone, .ref y_isLaid, .int (nI y_done), .int y_snowNow, .int y_cameNow, .int y_cookThen, .int y_tasteThen, .ref y_places, .ref y_comesAt, .ref y_yardsIn, .long y_g]), (y_pace, kI k 12 y_paceF), (y_s, kI k 46 y_sF)] H := hP
    have hD : va_D A [(y_supper, kI k 8 y_supperF), (y_kind, kI k 12 y_kindF), (y_snow, kI k 24 y_snowF), (y, kO 9 [.int y_thrown, .int (nI y_taped), .ref y_tape, .int (nI y_size), .int (nI y_place), .int (nI y_begin), .int (nI y_token), .long y_word, .int y_told, .int y_wrong, .ref y_supper, .ref y_guestName, .ref y_kind, .ref y_offTold, .ref y_pace, .ref y_cooks, .ref y_snow, .ref y_lineFrom, .ref y_lineTo, .ref y_codes, .int (nI y_code), .int y_toldLines, .ref y_opened, .ref y_compared, .ref y_kept, .ref y_keptBy, .ref y_ahead, .ref y_against, .ref y_sum, .ref y_sumBy, .ref y_term, .ref y_termBy, .ref y_byNot, .ref y_valueOf, .int y_given, .ref y_lines, .ref y_lineWhat, .ref y_lineA, .ref y_lineB, .ref y_seens, .ref y_seenIn, .ref y_seenYards, .ref y_seenNear, .ref y_s, .ref y_aside, .ref y_before, .ref y_marked, .ref y_undone, .ref y_isLaid, .int (nI y_done), .int y_snowNow, .int y_cameNow, .int y_cookThen, .int y_tasteThen, .ref y_places, .ref y_comesAt, .ref y_yardsIn, .long y_g]), (y_pace, kI k 12 y_paceF), (y_s, kI k 46 y_sF)] := hD
    have hw3_0 := hw3
    have hZ := bn1_e hw3_0 hZ
    refine lv_aload_n hx hb dX9_goes_32 rfl (lv_at hl 0 rfl) ?_
    refine va_get (D := D) (ci := 9) (v := .int y_snowNow) (C := RX9) (T := TX9) (N := 58) hx hb hts hi9 hown hK hP 3 rfl rfl 50 (by decide) lf123 (fun _ h9 => h9) rfl dX9_goes_33 ?_
    have hj56_4 : ∀ (s2_56 : Int32) (H : Heap) (locs : List Loc) (ls : Array Slot), ((fX9_goes_J56a g ro y_supperF y_kindF y_sF r3) s2_56 = E0) → va_P D vwCl [(y_supper, kI k 8 y_supperF), (y_kind, kI k 12 y_kindF), (y_snow, kI k 24 y_snowF), (y, kO 9 [.int y_thrown, .int (nI y_taped), .ref y_tape, .int (nI y_size), .int (nI y_place), .int (nI y_begin), .int (nI y_token), .long y_word, .int y_told, .int y_wrong, .ref y_supper, .ref y_guestName, .ref y_kind, .ref y_offTold, .ref y_pace, .ref y_cooks, .ref y_snow, .ref y_lineFrom, .ref y_lineTo, .ref y_codes, .int (nI y_code), .int y_toldLines, .ref y_opened, .ref y_compared, .ref y_kept, .ref y_keptBy, .ref y_ahead, .ref y_against, .ref y_sum, .ref y_sumBy, .ref y_term, .ref y_termBy, .ref y_byNot, .ref y_valueOf, .int y_given, .ref y_lines, .ref y_lineWhat, .ref y_lineA, .ref y_lineB, .ref y_seens, .ref y_seenIn, .ref y_seenYards, .ref y_seenNear, .ref y_s, .ref y_aside, .ref y_before, .ref y_marked, .ref y_undone, .ref y_isLaid, .int (nI y_done), .int y_snowNow, .int y_cameNow, .int y_cookThen, .int y_tasteThen, .ref y_places, .ref y_comesAt, .ref y_yardsIn, .long y_g]), (y_pace, kI k 12 y_paceF), (y_s, kI k 46 y_sF)] H → va_D A [(y_supper, kI k 8 y_supperF), (y_kind, kI k 12 y_kindF), (y_snow, kI k 24 y_snowF), (y, kO 9 [.int y_thrown, .int (nI y_taped), .ref y_tape, .int (nI y_size), .int (nI y_place), .int (nI y_begin), .int (nI y_token), .long y_word, .int y_told, .int y_wrong, .ref y_supper, .ref y_guestName, .ref y_kind, .ref y_offTold, .ref y_pace, .ref y_cooks, .ref y_snow, .ref y_lineFrom, .ref y_lineTo, .ref y_codes, .int (nI y_code), .int y_toldLines, .ref y_opened, .ref y_compared, .ref y_kept, .ref y_keptBy, .ref y_ahead, .ref y_against, .ref y_sum, .ref y_sumBy, .ref y_term, .ref y_termBy, .ref y_byNot, .ref y_valueOf, .int y_given, .ref y_lines, .ref y_lineWhat, .ref y_lineA, .ref y_lineB, .ref y_seens, .ref y_seenIn, .ref y_seenYards, .ref y_seenNear, .ref y_s, .ref y_aside, .ref y_before, .ref y_marked, .ref y_undone, .ref y_isLaid, .int (nI y_done), .int y_snowNow, .int y_cameNow, .int y_cookThen, .int y_tasteThen, .ref y_places, .ref y_comesAt, .ref y_yardsIn, .long y_g]), (y_pace, kI k 12 y_paceF), (y_s, kI k 46 y_sF)] → va_S A s.heap H locs → lv_has ls 5 [(0, .ref y), (1, .int g), (2, .int ro)] → W p l e R s m args below meth c H locs 0 0 Q (F0 m 56 ls [.int s2_56, .int r3, .int 1]) := by
      intro s2_56 H locs ls hZ hP hD hS hl
      refine lv_isub hx hb dX9_goes_56 ?_
      refine va_mmax hx hb (hml.trans hl.1.symm) hown lm350 lmtmax lim lmcmax (by rw [hR]; exact Nat.le_of_ble_eq_true rfl) (by rw [hR]; exact Nat.le_of_ble_eq_true rfl) (by first | omega | (rw [hR]; exact Nat.le_of_ble_eq_true rfl)) (by first | omega | (rw [hR]; exact Nat.le_of_ble_eq_true rfl)) dX9_goes_57 ?_
      refine lv_istore_n (lv' := [(3, .int (if 1 < (r3 - s2_56) then (r3 - s2_56) else 1)), (0, .ref y), (1, .int g), (2, .int ro)]) hx hb dX9_goes_60 rfl hl (by decide) rfl (fun ls hl => ?_)
      refine lv_aload_n hx hb dX9_goes_61 rfl (lv_at hl 1 rfl) ?_
      refine lv_iload_n hx hb dX9_goes_62 rfl (lv_at hl 2 rfl) ?_
      refine lv_iload_n hx hb dX9_goes_63 rfl (lv_at hl 3 rfl) ?_
      refine kz_Vi (As := [.int g, .int ro]) (rest := []) (wc := [(y, kO 9 [.int y_thrown, .int (nI y_taped), .ref y_tape, .int (nI y_size), .int (nI y_place), .int (nI y_begin), .int (nI y_token), .long y_word, .int y_told, .int y_wrong, .ref y_supper, .ref y_guestName, .ref y_kind, .ref y_offTold, .ref y_pace, .ref y_cooks, .ref y_snow, .ref y_lineFrom, .ref y_lineTo, .ref y_codes, .int (nI y_code), .int y_toldLines, .ref y_opened, .ref y_compared, .ref y_kept, .ref y_keptBy, .ref y_ahead, .ref y_against, .ref y_sum, .ref y_sumBy, .ref y_term, .ref y_termBy, .ref y_byNot, .ref y_valueOf, .int y_given, .ref y_lines, .ref y_lineWhat, .ref y_lineA, .ref y_lineB, .ref y_seens, .ref y_seenIn, .ref y_seenYards, .ref y_seenNear, .ref y_s, .ref y_aside, .ref y_before, .ref y_marked, .ref y_undone, .ref y_isLaid, .int (nI y_done), .int y_snowNow, .int y_cameNow, .int y_cookThen, .int y_tasteThen, .ref y_places, .ref y_comesAt, .ref y_yardsIn, .long y_g]), (y_supper, kI k 8 y_supperF), (y_kind, kI k 12 y_kindF), (y_s, kI k 46 y_sF)]) (wr := [(y_snow, kI k 24 y_snowF), (y_pace, kI k 12 y_paceF)]) ⟨hx, hb, hml, hown, hts⟩ hK hE hP hD hS hA (sX9_holds l D k H.size y g ro y_thrown y_taped y_tape y_size y_place y_begin y_token y_word y_told y_wrong y_supper y_guestName y_kind y_offTold y_pace y_cooks y_snow y_lineFrom y_lineTo y_codes y_code y_toldLines y_opened y_compared y_kept y_keptBy y_ahead y_against y_sum y_sumBy y_term y_termBy y_byNot y_valueOf y_given y_lines y_lineWhat y_lineA y_lineB y_seens y_seenIn y_seenYards y_seenNear y_s y_aside y_before y_marked y_undone y_isLaid y_done y_snowNow y_cameNow y_cookThen y_tasteThen y_places y_comesAt y_yardsIn y_g y_supperF y_kindF y_sF mb (by first | omega | assumption | decide) (by first | omega | assumption | decide) (by first | omega | assumption | decide) (by first | omega | assumption | decide) (by first | omega | assumption | decide) (by first | omega | assumption | decide) (by first | omega | assumption | decide) (by first | omega | assumption | decide) (by first | omega | assumption | decide) (by first | omega | assumption | decide) (by first | assumption | exact I9_minM (by assumption) (by omega)) (by first | assumption | exact I9_supU (by assumption) (by refine ⟨fun h9 => ?_, fun h9 => ?_, fun h9 => ?_, fun h9 => ?_⟩ <;> first | omega | exact absurd h9 (by decide) | decide))) (cwV 2 hts gX9_goes_X9_holds rfl rfl rfl (by decide +kernel) (by rw [hR]; exact ⟨Nat.le_of_ble_eq_true rfl, Nat.le_of_ble_eq_true rfl⟩)) [3, 0, 1, 5] [2, 4] rfl rfl (by decide) (by decide) (by decide) 0 rfl rfl rfl hl.1 rfl (Nat.le_of_ble_eq_true rfl) dX9_goes_64 (by rw [hR]; exact ⟨Nat.le_of_ble_eq_true rfl, Nat.le_of_ble_eq_true rfl⟩) (fun r5 u5 H locs hw5 hP hD hS => ?_)
      try dsimp only at hw5
      obtain ⟨rfl, hw5⟩ := hw5
      have hP : va_P D vwCl [(y_snow, kI k 24 y_snowF), (y_pace, kI k 12 y_paceF), (y, kO 9 [.int y_thrown, .int (nI y_taped), .ref y_tape, .int (nI y_size), .int (nI y_place), .int (nI y_begin), .int (nI y_token), .long y_word, .int y_told, .int y_wrong, .ref y_supper, .ref y_guestName, .ref y_kind, .ref y_offTold, .ref y_pace, .ref y_cooks, .ref y_snow, .ref y_lineFrom, .ref y_lineTo, .ref y_codes, .int (nI y_code), .int y_toldLines, .ref y_opened, .ref y_compared, .ref y_kept, .ref y_keptBy, .ref y_ahead, .ref y_against, .ref y_sum, .ref y_sumBy, .ref y_term, .ref y_termBy, .ref y_byNot, .ref y_valueOf, .int y_given, .ref y_lines, .ref y_lineWhat, .ref y_lineA, .ref y_lineB, .ref y_seens, .ref y_seenIn, .ref y_seenYards, .ref y_seenNear, .ref y_s, .ref y_aside, .ref y_before, .ref y_marked, .ref y_undone, .ref y_isLaid, .int (nI y_done), .int y_snowNow, .int y_cameNow, .int y_cookThen, .int y_tasteThen, .ref y_places, .ref y_comesAt, .ref y_yardsIn, .long y_g]), (y_supper, kI k 8 y_supperF), (y_kind, kI k 12 y_kindF), (y_s, kI k 46 y_sF)] H := hP
      have hD : va_D A [(y_snow, kI k 24 y_snowF), (y_pace, kI k 12 y_paceF), (y, kO 9 [.int y_thrown, .int (nI y_taped), .ref y_tape, .int (nI y_size), .int (nI y_place), .int (nI y_begin), .int (nI y_token), .long y_word, .int y_told, .int y_wrong, .ref y_supper, .ref y_guestName, .ref y_kind, .ref y_offTold, .ref y_pace, .ref y_cooks, .ref y_snow, .ref y_lineFrom, .ref y_lineTo, .ref y_codes, .int (nI y_code), .int y_toldLines, .ref y_opened, .ref y_compared, .ref y_kept, .ref y_keptBy, .ref y_ahead, .ref y_against, .ref y_sum, .ref y_sumBy, .ref y_term, .ref y_termBy, .ref y_byNot, .ref y_valueOf, .int y_given, .ref y_lines, .ref y_lineWhat, .ref y_lineA, .ref y_lineB, .ref y_seens, .ref y_seenIn, .ref y_seenYards, .ref y_seenNear, .ref y_s, .ref y_aside, .ref y_before, .ref y_marked, .ref y_undone, .ref y_isLaid, .int (nI y_done), .int y_snowNow, .int y_cameNow, .int y_cookThen, .int y_tasteThen, .ref y_places, .ref y_comesAt, .ref y_yardsIn, .long y_g]), (y_supper, kI k 8 y_supperF), (y_kind, kI k 12 y_kindF), (y_s, kI k 46 y_sF)] := hD
      have hw5_0 := hw5
      have hZ := bn1_e hw5_0 hZ
      have hj91_6 : ∀ (s0_91 : Int32) (H : Heap) (locs : List Loc) (ls : Array Slot), ((fX9_goes_J91a g y_sF r3 s2_56) s0_91 = E0) → va_P D vwCl [(y_snow, kI k 24 y_snowF), (y_pace, kI k 12 y_paceF), (y, kO 9 [.int y_thrown, .int (nI y_taped), .ref y_tape, .int (nI y_size), .int (nI y_place), .int (nI y_begin), .int (nI y_token), .long y_word, .int y_told, .int y_wrong, .ref y_supper, .ref y_guestName, .ref y_kind, .ref y_offTold, .ref y_pace, .ref y_cooks, .ref y_snow, .ref y_lineFrom, .ref y_lineTo, .ref y_codes, .int (nI y_code), .int y_toldLines, .ref y_opened, .ref y_compared, .ref y_kept, .ref y_keptBy, .ref y_ahead, .ref y_against, .ref y_sum, .ref y_sumBy, .ref y_term, .ref y_termBy, .ref y_byNot, .ref y_valueOf, .int y_given, .ref y_lines, .ref y_lineWhat, .ref y_lineA, .ref y_lineB, .ref y_seens, .ref y_seenIn, .ref y_seenYards, .ref y_seenNear, .ref y_s, .ref y_aside, .ref y_before, .ref y_marked, .ref y_undone, .ref y_isLaid, .int (nI y_done), .int y_snowNow, .int y_cameNow, .int y_cookThen, .int y_tasteThen, .ref y_places, .ref y_comesAt, .ref y_yardsIn, .long y_g]), (y_supper, kI k 8 y_supperF), (y_kind, kI k 12 y_kindF), (y_s, kI k 46 y_sF)] H → va_D A [(y_snow, kI k 24 y_snowF), (y_pace, kI k 12 y_paceF), (y, kO 9 [.int y_thrown, .int (nI y_taped), .ref y_tape, .int (nI y_size), .int (nI y_place), .int (nI y_begin), .int (nI y_token), .long y_word, .int y_told, .int y_wrong, .ref y_supper, .ref y_guestName, .ref y_kind, .ref y_offTold, .ref y_pace, .ref y_cooks, .ref y_snow, .ref y_lineFrom, .ref y_lineTo, .ref y_codes, .int (nI y_code), .int y_toldLines, .ref y_opened, .ref y_compared, .ref y_kept, .ref y_keptBy, .ref y_ahead, .ref y_against, .ref y_sum, .ref y_sumBy, .ref y_term, .ref y_termBy, .ref y_byNot, .ref y_valueOf, .int y_given, .ref y_lines, .ref y_lineWhat, .ref y_lineA, .ref y_lineB, .ref y_seens, .ref y_seenIn, .ref y_seenYards, .ref y_seenNear, .ref y_s, .ref y_aside, .ref y_before, .ref y_marked, .ref y_undone, .ref y_isLaid, .int (nI y_done), .int y_snowNow, .int y_cameNow, .int y_cookThen, .int y_tasteThen, .ref y_places, .ref y_comesAt, .ref y_yardsIn, .long y_g]), (y_supper, kI k 8 y_supperF), (y_kind, kI k 12 y_kindF), (y_s, kI k 46 y_sF)] → va_S A s.heap H locs → lv_has ls 5 [(0, .ref y), (1, .int g), (2, .int ro), (3, .int (if 1 < (r3 - s2_56) then (r3 - s2_56) else 1))] → W p l e R s m args below meth c H locs 0 0 Q (F0 m 91 ls [.int s0_91]) := by
        intro s0_91 H locs ls hZ hP hD hS hl
        refine lv_istore (lv' := [(4, .int s0_91), (0, .ref y), (1, .int g), (2, .int ro), (3, .int (if 1 < (r3 - s2_56) then (r3 - s2_56) else 1))]) hx hb dX9_goes_91 hl (by decide) rfl (fun ls hl => ?_)
        refine lv_aload_n hx hb dX9_goes_93 rfl (lv_at hl 1 rfl) ?_
        refine va_get (D := D) (ci := 9) (v := .ref y_s) (C := RX9) (T := TX9) (N := 58) hx hb hts hi9 hown hK hP 2 rfl rfl 43 (by decide) lf105 (fun _ h9 => h9) rfl dX9_goes_94 ?_
        refine lv_iconst (v := 4) hx hb dX9_goes_97 (by decide) ?_
        refine lv_iload_n hx hb dX9_goes_98 rfl (lv_at hl 2 rfl) ?_
        refine lv_iadd hx hb dX9_goes_99 ?_
        try have ta_7 : Int32.toInt (4 + g) = 4 + (Int32.toInt g) := tI_add (by decide) rfl (by omega) (by omega)
        refine lv_iload hx hb dX9_goes_100 (lv_at hl 0 rfl) ?_
        refine lv_aload_n hx hb dX9_goes_102 rfl (lv_at hl 1 rfl) ?_
        refine va_get (D := D) (ci := 9) (v := .ref y_s) (C := RX9) (T := TX9) (N := 58) hx hb hts hi9 hown hK hP 2 rfl rfl 43 (by decide) lf105 (fun _ h9 => h9) rfl dX9_goes_103 ?_
        refine lv_iconst (v := 4) hx hb dX9_goes_106 (by decide) ?_
        refine lv_iload_n hx hb dX9_goes_107 rfl (lv_at hl 2 rfl) ?_
        refine lv_iadd hx hb dX9_goes_108 ?_
        try have ta_8 : Int32.toInt (4 + g) = 4 + (Int32.toInt g) := tI_add (by decide) rfl (by omega) (by omega)
        refine va_iald hx hb hK hP 5 0 rfl rfl (vp_in_iff.mpr (by omega)) dX9_goes_109 ?_
        refine lv_iload_n hx hb dX9_goes_110 rfl (lv_at hl 4 rfl) ?_
        refine lv_isub hx hb dX9_goes_111 ?_
        refine va_mmax hx hb (hml.trans hl.1.symm) hown lm350 lmtmax lim lmcmax (by rw [hR]; exact Nat.le_of_ble_eq_true rfl) (by rw [hR]; exact Nat.le_of_ble_eq_true rfl) (by first | omega | (rw [hR]; exact Nat.le_of_ble_eq_true rfl)) (by first | omega | (rw [hR]; exact Nat.le_of_ble_eq_true rfl)) dX9_goes_112 ?_
        refine va_iast hx hb hK hP hD hS 5 0 rfl rfl (vp_in_iff.mpr (by omega)) dX9_goes_115 (fun H locs hP hD hS => ?_)
        have hP : va_P D vwCl [(y_snow, kI k 24 y_snowF), (y_pace, kI k 12 y_paceF), (y, kO 9 [.int y_thrown, .int (nI y_taped), .ref y_tape, .int (nI y_size), .int (nI y_place), .int (nI y_begin), .int (nI y_token), .long y_word, .int y_told, .int y_wrong, .ref y_supper, .ref y_guestName, .ref y_kind, .ref y_offTold, .ref y_pace, .ref y_cooks, .ref y_snow, .ref y_lineFrom, .ref y_lineTo, .ref y_codes, .int (nI y_code), .int y_toldLines, .ref y_opened, .ref y_compared, .ref y_kept, .ref y_keptBy, .ref y_ahead, .ref y_against, .ref y_sum, .ref y_sumBy, .ref y_term, .ref y_termBy, .ref y_byNot, .ref y_valueOf, .int y_given, .ref y_lines, .ref y_lineWhat, .ref y_lineA, .ref y_lineB, .ref y_seens, .ref y_seenIn, .ref y_seenYards, .ref y_seenNear, .ref y_s, .ref y_aside, .ref y_before, .ref y_marked, .ref y_undone, .ref y_isLaid, .int (nI y_done), .int y_snowNow, .int y_cameNow, .int y_cookThen, .int y_tasteThen, .ref y_places, .ref y_comesAt, .ref y_yardsIn, .long y_g]), (y_supper, kI k 8 y_supperF), (y_kind, kI k 12 y_kindF), (y_s, kI k 46 (upd y_sF (Int32.toNatClampNeg (4 + g)) (if s0_91 < ((y_sF (Int32.toNatClampNeg (4 + g))) - (if 1 < (r3 - s2_56) then (r3 - s2_56) else 1)) then ((y_sF (Int32.toNatClampNeg (4 + g))) - (if 1 < (r3 - s2_56) then (r3 - s2_56) else 1)) else s0_91)))] H := hP
        have hD : va_D A [(y_snow, kI k 24 y_snowF), (y_pace, kI k 12 y_paceF), (y, kO 9 [.int y_thrown, .int (nI y_taped), .ref y_tape, .int (nI y_size), .int (nI y_place), .int (nI y_begin), .int (nI y_token), .long y_word, .int y_told, .int y_wrong, .ref y_supper, .ref y_guestName, .ref y_kind, .ref y_offTold, .ref y_pace, .ref y_cooks, .ref y_snow, .ref y_lineFrom, .ref y_lineTo, .ref y_codes, .int (nI y_code), .int y_toldLines, .ref y_opened, .ref y_compared, .ref y_kept, .ref y_keptBy, .ref y_ahead, .ref y_against, .ref y_sum, .ref y_sumBy, .ref y_term, .ref y_termBy, .ref y_byNot, .ref y_valueOf, .int y_given, .ref y_lines, .ref y_lineWhat, .ref y_lineA, .ref y_lineB, .ref y_seens, .ref y_seenIn, .ref y_seenYards, .ref y_seenNear, .ref y_s, .ref y_aside, .ref y_before, .ref y_marked, .ref y_undone, .ref y_isLaid, .int (nI y_done), .int y_snowNow, .int y_cameNow, .int y_cookThen, .int y_tasteThen, .ref y_places, .ref y_comesAt, .ref y_yardsIn, .long y_g]), (y_supper, kI k 8 y_supperF), (y_kind, kI k 12 y_kindF), (y_s, kI k 46 (upd y_sF (Int32.toNatClampNeg (4 + g)) (if s0_91 < ((y_sF (Int32.toNatClampNeg (4 + g))) - (if 1 < (r3 - s2_56) then (r3 - s2_56) else 1)) then ((y_sF (Int32.toNatClampNeg (4 + g))) - (if 1 < (r3 - s2_56) then (r3 - s2_56) else 1)) else s0_91)))] := hD
        have hi_9 : I9_min mb (upd y_sF (Int32.toNatClampNeg (4 + g)) (if s0_91 < ((y_sF (Int32.toNatClampNeg (4 + g))) - (if 1 < (r3 - s2_56) then (r3 - s2_56) else 1)) then ((y_sF (Int32.toNatClampNeg (4 + g))) - (if 1 < (r3 - s2_56) then (r3 - s2_56) else 1)) else s0_91)) := by first | assumption | exact I9_minX (by assumption) (by first | decide | omega | (rw [nI_toInt (by omega)]; omega)) | exact I9_minX (I9_minM (by assumption) (by omega)) (by first | decide | omega | (rw [nI_toInt (by omega)]; omega)) | exact I9_minV (by assumption) (by omega)
        rw [hQ]
        have hP9 := hP.sub (ws' := [(y, kO 9 [.int y_thrown, .int (nI y_taped), .ref y_tape, .int (nI y_size), .int (nI y_place), .int (nI y_begin), .int (nI y_token), .long y_word, .int y_told, .int y_wrong, .ref y_supper, .ref y_guestName, .ref y_kind, .ref y_offTold, .ref y_pace, .ref y_cooks, .ref y_snow, .ref y_lineFrom, .ref y_lineTo, .ref y_codes, .int (nI y_code), .int y_toldLines, .ref y_opened, .ref y_compared, .ref y_kept, .ref y_keptBy, .ref y_ahead, .ref y_against, .ref y_sum, .ref y_sumBy, .ref y_term, .ref y_termBy, .ref y_byNot, .ref y_valueOf, .int y_given, .ref y_lines, .ref y_lineWhat, .ref y_lineA, .ref y_lineB, .ref y_seens, .ref y_seenIn, .ref y_seenYards, .ref y_seenNear, .ref y_s, .ref y_aside, .ref y_before, .ref y_marked, .ref y_undone, .ref y_isLaid, .int (nI y_done), .int y_snowNow, .int y_cameNow, .int y_cookThen, .int y_tasteThen, .ref y_places, .ref y_comesAt, .ref y_yardsIn, .long y_g]), (y_supper, kI k 8 y_supperF), (y_kind, kI k 12 y_kindF), (y_pace, kI k 12 y_paceF), (y_snow, kI k 24 y_snowF), (y_s, kI k 46 (upd y_sF (Int32.toNatClampNeg (4 + g)) (if s0_91 < ((y_sF (Int32.toNatClampNeg (4 + g))) - (if 1 < (r3 - s2_56) then (r3 - s2_56) else 1)) then ((y_sF (Int32.toNatClampNeg (4 + g))) - (if 1 < (r3 - s2_56) then (r3 - s2_56) else 1)) else s0_91)))]) [2, 3, 4, 1, 0, 5] rfl
        have hD9 := hD.sub (ws' := [(y, kO 9 [.int y_thrown, .int (nI y_taped), .ref y_tape, .int (nI y_size), .int (nI y_place), .int (nI y_begin), .int (nI y_token), .long y_word, .int y_told, .int y_wrong, .ref y_supper, .ref y_guestName, .ref y_kind, .ref y_offTold, .ref y_pace, .ref y_cooks, .ref y_snow, .ref y_lineFrom, .ref y_lineTo, .ref y_codes, .int (nI y_code), .int y_toldLines, .ref y_opened, .ref y_compared, .ref y_kept, .ref y_keptBy, .ref y_ahead, .ref y_against, .ref y_sum, .ref y_sumBy, .ref y_term, .ref y_termBy, .ref y_byNot, .ref y_valueOf, .int y_given, .ref y_lines, .ref y_lineWhat, .ref y_lineA, .ref y_lineB, .ref y_seens, .ref y_seenIn, .ref y_seenYards, .ref y_seenNear, .ref y_s, .ref y_aside, .ref y_before, .ref y_marked, .ref y_undone, .ref y_isLaid, .int (nI y_done), .int y_snowNow, .int y_cameNow, .int y_cookThen, .int y_tasteThen, .ref y_places, .ref y_comesAt, .ref y_yardsIn, .long y_g]), (y_supper, kI k 8 y_supperF), (y_kind, kI k 12 y_kindF), (y_pace, kI k 12 y_paceF), (y_snow, kI k 24 y_snowF), (y_s, kI k 46 (upd y_sF (Int32.toNatClampNeg (4 + g)) (if s0_91 < ((y_sF (Int32.toNatClampNeg (4 + g))) - (if 1 < (r3 - s2_56) then (r3 - s2_56) else 1)) then ((y_sF (Int32.toNatClampNeg (4 + g))) - (if 1 < (r3 - s2_56) then (r3 - s2_56) else 1)) else s0_91)))]) [2, 3, 4, 1, 0, 5] (by decide) rfl
        exact W.vret hx hb hr (fun zt ht hW => ⟨⟨(upd y_sF (Int32.toNatClampNeg (4 + g)) (if s0_91 < ((y_sF (Int32.toNatClampNeg (4 + g))) - (if 1 < (r3 - s2_56) then (r3 - s2_56) else 1)) then ((y_sF (Int32.toNatClampNeg (4 + g))) - (if 1 < (r3 - s2_56) then (r3 - s2_56) else 1)) else s0_91)), rfl, ⟨(by first | assumption | exact I9_minX (by assumption) (by first | decide | omega | (rw [nI_toInt (by omega)]; omega)) | exact I9_minX (I9_minM (by assumption) (by omega)) (by first | decide | omega | (rw [nI_toInt (by omega)]; omega)) | exact I9_minV (by assumption) (by omega)), (hZ.trans hE0)⟩, by rw [ht]; exact hP9, hD9⟩, hS.F ht⟩) hS.2.2 dX9_goes_116
      refine lv_if_eq (tgt := 90) hx hb dX9_goes_67 (by decide) (fun c_10 => ?_) (fun c_10 => ?_)
      · skip
        have b_10 : u5 = false := bB_0 c_10
        have hZ := (if_neg (bF b_10)).symm.trans hZ
        refine lv_iconst (v := 0) hx hb dX9_goes_90 (by decide) ?_
        exact hj91_6 (0 : Int32) _ _ _ hZ (hP.sub [0, 1, 2, 3, 4, 5] rfl) (hD.sub [0, 1, 2, 3, 4, 5] (by decide) rfl) hS (lv_sub hl [1, 2, 3, 0] rfl)
      · skip
        have b_10 : u5 = true := bB_1 c_10
        have hZ := (if_pos b_10).symm.trans hZ
        refine lv_aload_n hx hb dX9_goes_70 rfl (lv_at hl 1 rfl) ?_
        refine va_get (D := D) (ci := 9) (v := .ref y_s) (C := RX9) (T := TX9) (N := 58) hx hb hts hi9 hown hK hP 2 rfl rfl 43 (by decide) lf105 (fun _ h9 => h9) rfl dX9_goes_71 ?_
        refine lv_iconst (v := 4) hx hb dX9_goes_74 (by decide) ?_
        refine lv_iload_n hx hb dX9_goes_75 rfl (lv_at hl 2 rfl) ?_
        refine lv_iadd hx hb dX9_goes_76 ?_
        try have ta_11 : Int32.toInt (4 + g) = 4 + (Int32.toInt g) := tI_add (by decide) rfl (by omega) (by omega)
        refine va_iald hx hb hK hP 5 0 rfl rfl (vp_in_iff.mpr (by omega)) dX9_goes_77 ?_
        refine lv_aload_n hx hb dX9_goes_78 rfl (lv_at hl 1 rfl) ?_
        refine va_get (D := D) (ci := 9) (v := .ref y_supper) (C := RX9) (T := TX9) (N := 58) hx hb hts hi9 hown hK hP 2 rfl rfl 10 (by decide) lf13 (fun _ h9 => h9) rfl dX9_goes_79 ?_
        refine lv_iconst (v := 1) hx hb dX9_goes_82 (by decide) ?_
        refine va_iald hx hb hK hP 3 0 rfl rfl (vp_in_iff.mpr (by decide)) dX9_goes_83 ?_
        refine va_mmin hx hb (hml.trans hl.1.symm) hown lm335 lmtmin lim lmcmin (by rw [hR]; exact Nat.le_of_ble_eq_true rfl) (by rw [hR]; exact Nat.le_of_ble_eq_true rfl) (by first | omega | (rw [hR]; exact Nat.le_of_ble_eq_true rfl)) (by first | omega | (rw [hR]; exact Nat.le_of_ble_eq_true rfl)) dX9_goes_84 ?_
        refine lv_goto (tgt := 91) hx hb dX9_goes_87 (by decide) ?_
        exact hj91_6 (if (y_supperF (Int32.toNatClampNeg 1)) < (y_sF (Int32.toNatClampNeg (4 + g))) then (y_supperF (Int32.toNatClampNeg 1)) else (y_sF (Int32.toNatClampNeg (4 + g)))) _ _ _ hZ (hP.sub [0, 1, 2, 3, 4, 5] rfl) (hD.sub [0, 1, 2, 3, 4, 5] (by decide) rfl) hS (lv_sub hl [1, 2, 3, 0] rfl)
    refine lv_if_ge (tgt := 52) hx hb dX9_goes_36 (by decide) (fun c_12 => ?_) (fun c_12 => ?_)
    · skip
      have t_12 : 0 ≤ (Int32.toInt y_snowNow) := tI_le (by decide) rfl c_12
      have hZ := (if_pos c_12).symm.trans hZ
      refine lv_aload_n hx hb dX9_goes_52 rfl (lv_at hl 0 rfl) ?_
      refine va_get (D := D) (ci := 9) (v := .int y_snowNow) (C := RX9) (T := TX9) (N := 58) hx hb hts hi9 hown hK hP 3 rfl rfl 50 (by decide) lf123 (fun _ h9 => h9) rfl dX9_goes_53 ?_
      exact hj56_4 y_snowNow _ _ _ hZ (hP.sub [0, 1, 2, 3, 4, 5] rfl) (hD.sub [0, 1, 2, 3, 4, 5] (by decide) rfl) hS (lv_sub hl [0, 1, 2] rfl)
    · skip
      have t_12 : 0 > (Int32.toInt y_snowNow) := tI_nle (by decide) rfl c_12
      have hZ := (if_neg c_12).symm.trans hZ
      refine lv_aload_n hx hb dX9_goes_39 rfl (lv_at hl 0 rfl) ?_
      refine lv_aload_n hx hb dX9_goes_40 rfl (lv_at hl 0 rfl) ?_
      refine va_get (D := D) (ci := 9) (v := .ref y_s) (C := RX9) (T := TX9) (N := 58) hx hb hts hi9 hown hK hP 3 rfl rfl 43 (by decide) lf105 (fun _ h9 => h9) rfl dX9_goes_41 ?_
      refine lv_iconst (v := 1) hx hb dX9_goes_44 (by decide) ?_
      refine va_iald hx hb hK hP 5 0 rfl rfl (vp_in_iff.mpr (by decide)) dX9_goes_45 ?_
      have lf13 : 0 ≤ Int32.toInt (y_sF (Int32.toNatClampNeg 1)) ∧ Int32.toInt (y_sF (Int32.toNatClampNeg 1)) ≤ ((mb : Nat) : Int) := h_y_s
      refine kz_Vi (As := [.int (y_sF (Int32.toNatClampNeg 1))]) (rest := [.int r3, .int 1]) (wc := [(y, kO 9 [.int y_thrown, .int (nI y_taped), .ref y_tape, .int (nI y_size), .int (nI y_place), .int (nI y_begin), .int (nI y_token), .long y_word, .int y_told, .int y_wrong, .ref y_supper, .ref y_guestName, .ref y_kind, .ref y_offTold, .ref y_pace, .ref y_cooks, .ref y_snow, .ref y_lineFrom, .ref y_lineTo, .ref y_codes, .int (nI y_code), .int y_toldLines, .ref y_opened, .ref y_compared, .ref y_kept, .ref y_keptBy, .ref y_ahead, .ref y_against, .ref y_sum, .ref y_sumBy, .ref y_term, .ref y_termBy, .ref y_byNot, .ref y_valueOf, .int y_given, .ref y_lines, .ref y_lineWhat, .ref y_lineA, .ref y_lineB, .ref y_seens, .ref y_seenIn, .ref y_seenYards, .ref y_seenNear, .ref y_s, .ref y_aside, .ref y_before, .ref y_marked, .ref y_undone, .ref y_isLaid, .int (nI y_done), .int y_snowNow, .int y_cameNow, .int y_cookThen, .int y_tasteThen, .ref y_places, .ref y_comesAt, .ref y_yardsIn, .long y_g]), (y_supper, kI k 8 y_supperF), (y_snow, kI k 24 y_snowF)]) (wr := [(y_kind, kI k 12 y_kindF), (y_pace, kI k 12 y_paceF), (y_s, kI k 46 y_sF)]) ⟨hx, hb, hml, hown, hts⟩ hK hE hP hD hS hA (sX9_snowOf l D k H.size y (y_sF (Int32.toNatClampNeg 1)) y_thrown y_taped y_tape y_size y_place y_begin y_token y_word y_told y_wrong y_supper y_guestName y_kind y_offTold y_pace y_cooks y_snow y_lineFrom y_lineTo y_codes y_code y_toldLines y_opened y_compared y_kept y_keptBy y_ahead y_against y_sum y_sumBy y_term y_termBy y_byNot y_valueOf y_given y_lines y_lineWhat y_lineA y_lineB y_seens y_seenIn y_seenYards y_seenNear y_s y_aside y_before y_marked y_undone y_isLaid y_done y_snowNow y_cameNow y_cookThen y_tasteThen y_places y_comesAt y_yardsIn y_g y_supperF y_snowF (by first | omega | assumption | decide) (by first | omega | assumption | decide) (by first | omega | assumption | decide) (by first | omega | assumption | decide) (by first | omega | assumption | decide) (by first | omega | assumption | decide) (by first | omega | assumption | decide) (by first | omega | assumption | decide) (by first | omega | assumption | decide) (by first | assumption | exact I9_supU (by assumption) (by refine ⟨fun h9 => ?_, fun h9 => ?_, fun h9 => ?_, fun h9 => ?_⟩ <;> first | omega | exact absurd h9 (by decide) | decide))) (cwV 1 hts gX9_goes_X9_snowOf rfl rfl rfl (by decide +kernel) (by rw [hR]; exact ⟨Nat.le_of_ble_eq_true rfl, Nat.le_of_ble_eq_true rfl⟩)) [3, 0, 2] [1, 4, 5] rfl rfl (by decide) (by decide) (by decide) 0 rfl rfl rfl hl.1 rfl (Nat.le_of_ble_eq_true rfl) dX9_goes_46 (by rw [hR]; exact ⟨Nat.le_of_ble_eq_true rfl, Nat.le_of_ble_eq_true rfl⟩) (fun r14 u14 H locs hw14 hP hD hS => ?_)
      try dsimp only at hw14
      have hP : va_P D vwCl [(y_kind, kI k 12 y_kindF), (y_pace, kI k 12 y_paceF), (y_s, kI k 46 y_sF), (y, kO 9 [.int y_thrown, .int (nI y_taped), .ref y_tape, .int (nI y_size), .int (nI y_place), .int (nI y_begin), .int (nI y_token), .long y_word, .int y_told, .int y_wrong, .ref y_supper, .ref y_guestName, .ref y_kind, .ref y_offTold, .ref y_pace, .ref y_cooks, .ref y_snow, .ref y_lineFrom, .ref y_lineTo, .ref y_codes, .int (nI y_code), .int y_toldLines, .ref y_opened, .ref y_compared, .ref y_kept, .ref y_keptBy, .ref y_ahead, .ref y_against, .ref y_sum, .ref y_sumBy, .ref y_term, .ref y_termBy, .ref y_byNot, .ref y_valueOf, .int y_given, .ref y_lines, .ref y_lineWhat, .ref y_lineA, .ref y_lineB, .ref y_seens, .ref y_seenIn, .ref y_seenYards, .ref y_seenNear, .ref y_s, .ref y_aside, .ref y_before, .ref y_marked, .ref y_undone, .ref y_isLaid, .int (nI y_done), .int y_snowNow, .int y_cameNow, .int y_cookThen, .int y_tasteThen, .ref y_places, .ref y_comesAt, .ref y_yardsIn, .long y_g]), (y_supper, kI k 8 y_supperF), (y_snow, kI k 24 y_snowF)] H := hP
      have hD : va_D A [(y_kind, kI k 12 y_kindF), (y_pace, kI k 12 y_paceF), (y_s, kI k 46 y_sF), (y, kO 9 [.int y_thrown, .int (nI y_taped), .ref y_tape, .int (nI y_size), .int (nI y_place), .int (nI y_begin), .int (nI y_token), .long y_word, .int y_told, .int y_wrong, .ref y_supper, .ref y_guestName, .ref y_kind, .ref y_offTold, .ref y_pace, .ref y_cooks, .ref y_snow, .ref y_lineFrom, .ref y_lineTo, .ref y_codes, .int (nI y_code), .int y_toldLines, .ref y_opened, .ref y_compared, .ref y_kept, .ref y_keptBy, .ref y_ahead, .ref y_against, .ref y_sum, .ref y_sumBy, .ref y_term, .ref y_termBy, .ref y_byNot, .ref y_valueOf, .int y_given, .ref y_lines, .ref y_lineWhat, .ref y_lineA, .ref y_lineB, .ref y_seens, .ref y_seenIn, .ref y_seenYards, .ref y_seenNear, .ref y_s, .ref y_aside, .ref y_before, .ref y_marked, .ref y_undone, .ref y_isLaid, .int (nI y_done), .int y_snowNow, .int y_cameNow, .int y_cookThen, .int y_tasteThen, .ref y_places, .ref y_comesAt, .ref y_yardsIn, .long y_g]), (y_supper, kI k 8 y_supperF), (y_snow, kI k 24 y_snowF)] := hD
      have hw14_0 := hw14
      have hZ := bn1_e hw14_0 hZ
      refine lv_goto (tgt := 56) hx hb dX9_goes_49 (by decide) ?_
      exact hj56_4 r14 _ _ _ hZ (hP.sub [4, 0, 5, 3, 1, 2] rfl) (hD.sub [4, 0, 5, 3, 1, 2] (by decide) rfl) hS (lv_sub hl [0, 1, 2] rfl)
  · skip
    have t_2 : (Int32.toInt (y_sF (Int32.toNatClampNeg (22 + g)))) > 0 := tI_nle rfl (by decide) c_2
    have hZ := (if_neg c_2).symm.trans hZ
    refine lv_aload_n hx hb dX9_goes_12 rfl (lv_at hl 0 rfl) ?_
    refine va_get (D := D) (ci := 9) (v := .ref y_s) (C := RX9) (T := TX9) (N := 58) hx hb hts hi9 hown hK hP 0 rfl rfl 43 (by decide) lf105 (fun _ h9 => h9) rfl dX9_goes_13 ?_
    refine lv_bipush (v := 22) hx hb dX9_goes_16 (by decide) ?_
    refine lv_iload_n hx hb dX9_goes_18 rfl (lv_at hl 1 rfl) ?_
    refine lv_iadd hx hb dX9_goes_19 ?_
    try have ta_15 : Int32.toInt (22 + g) = 22 + (Int32.toInt g) := tI_add (by decide) rfl (by omega) (by omega)
    refine lv_dup2_11 hx hb dX9_goes_20 rfl rfl ?_
    refine va_iald hx hb hK hP 5 0 rfl rfl (vp_in_iff.mpr (by omega)) dX9_goes_21 ?_
    refine lv_iconst (v := 1) hx hb dX9_goes_22 (by decide) ?_
    refine lv_isub hx hb dX9_goes_23 ?_
    try have ta_16 : Int32.toInt ((y_sF (Int32.toNatClampNeg (22 + g))) - 1) = (Int32.toInt (y_sF (Int32.toNatClampNeg (22 + g)))) - 1 := tI_sub rfl (by decide) (by omega) (by omega)
    refine va_iast hx hb hK hP hD hS 5 0 rfl rfl (vp_in_iff.mpr (by omega)) dX9_goes_24 (fun H locs hP hD hS => ?_)
    have hP : va_P D vwCl [(y, kO 9 [.int y_thrown, .int (nI y_taped), .ref y_tape, .int (nI y_size), .int (nI y_place), .int (nI y_begin), .int (nI y_token), .long y_word, .int y_told, .int y_wrong, .ref y_supper, .ref y_guestName, .ref y_kind, .ref y_offTold, .ref y_pace, .ref y_cooks, .ref y_snow, .ref y_lineFrom, .ref y_lineTo, .ref y_codes, .int (nI y_code), .int y_toldLines, .ref y_opened, .ref y_compared, .ref y_kept, .ref y_keptBy, .ref y_ahead, .ref y_against, .ref y_sum, .ref y_sumBy, .ref y_term, .ref y_termBy, .ref y_byNot, .ref y_valueOf, .int y_given, .ref y_lines, .ref y_lineWhat, .ref y_lineA, .ref y_lineB, .ref y_seens, .ref y_seenIn, .ref y_seenYards, .ref y_seenNear, .ref y_s, .ref y_aside, .ref y_before, .ref y_marked, .ref y_undone, .ref y_isLaid, .int (nI y_done), .int y_snowNow, .int y_cameNow, .int y_cookThen, .int y_tasteThen, .ref y_places, .ref y_comesAt, .ref y_yardsIn, .long y_g]), (y_supper, kI k 8 y_supperF), (y_kind, kI k 12 y_kindF), (y_pace, kI k 12 y_paceF), (y_snow, kI k 24 y_snowF), (y_s, kI k 46 (upd y_sF (Int32.toNatClampNeg (22 + g)) ((y_sF (Int32.toNatClampNeg (22 + g))) - 1)))] H := hP
    have hD : va_D A [(y, kO 9 [.int y_thrown, .int (nI y_taped), .ref y_tape, .int (nI y_size), .int (nI y_place), .int (nI y_begin), .int (nI y_token), .long y_word, .int y_told, .int y_wrong, .ref y_supper, .ref y_guestName, .ref y_kind, .ref y_offTold, .ref y_pace, .ref y_cooks, .ref y_snow, .ref y_lineFrom, .ref y_lineTo, .ref y_codes, .int (nI y_code), .int y_toldLines, .ref y_opened, .ref y_compared, .ref y_kept, .ref y_keptBy, .ref y_ahead, .ref y_against, .ref y_sum, .ref y_sumBy, .ref y_term, .ref y_termBy, .ref y_byNot, .ref y_valueOf, .int y_given, .ref y_lines, .ref y_lineWhat, .ref y_lineA, .ref y_lineB, .ref y_seens, .ref y_seenIn, .ref y_seenYards, .ref y_seenNear, .ref y_s, .ref y_aside, .ref y_before, .ref y_marked, .ref y_undone, .ref y_isLaid, .int (nI y_done), .int y_snowNow, .int y_cameNow, .int y_cookThen, .int y_tasteThen, .ref y_places, .ref y_comesAt, .ref y_yardsIn, .long y_g]), (y_supper, kI k 8 y_supperF), (y_kind, kI k 12 y_kindF), (y_pace, kI k 12 y_paceF), (y_snow, kI k 24 y_snowF), (y_s, kI k 46 (upd y_sF (Int32.toNatClampNeg (22 + g)) ((y_sF (Int32.toNatClampNeg (22 + g))) - 1)))] := hD
    have hi_17 : I9_min mb (upd y_sF (Int32.toNatClampNeg (22 + g)) ((y_sF (Int32.toNatClampNeg (22 + g))) - 1)) := by first | assumption | exact I9_minX (by assumption) (by first | decide | omega | (rw [nI_toInt (by omega)]; omega)) | exact I9_minX (I9_minM (by assumption) (by omega)) (by first | decide | omega | (rw [nI_toInt (by omega)]; omega)) | exact I9_minV (by assumption) (by omega)
    rw [hQ]
    have hP9 := hP.sub (ws' := [(y, kO 9 [.int y_thrown, .int (nI y_taped), .ref y_tape, .int (nI y_size), .int (nI y_place), .int (nI y_begin), .int (nI y_token), .long y_word, .int y_told, .int y_wrong, .ref y_supper, .ref y_guestName, .ref y_kind, .ref y_offTold, .ref y_pace, .ref y_cooks, .ref y_snow, .ref y_lineFrom, .ref y_lineTo, .ref y_codes, .int (nI y_code), .int y_toldLines, .ref y_opened, .ref y_compared, .ref y_kept, .ref y_keptBy, .ref y_ahead, .ref y_against, .ref y_sum, .ref y_sumBy, .ref y_term, .ref y_termBy, .ref y_byNot, .ref y_valueOf, .int y_given, .ref y_lines, .ref y_lineWhat, .ref y_lineA, .ref y_lineB, .ref y_seens, .ref y_seenIn, .ref y_seenYards, .ref y_seenNear, .ref y_s, .ref y_aside, .ref y_before, .ref y_marked, .ref y_undone, .ref y_isLaid, .int (nI y_done), .int y_snowNow, .int y_cameNow, .int y_cookThen, .int y_tasteThen, .ref y_places, .ref y_comesAt, .ref y_yardsIn, .long y_g]), (y_supper, kI k 8 y_supperF), (y_kind, kI k 12 y_kindF), (y_pace, kI k 12 y_paceF), (y_snow, kI k 24 y_snowF), (y_s, kI k 46 (upd y_sF (Int32.toNatClampNeg (22 + g)) ((y_sF (Int32.toNatClampNeg (22 + g))) - 1)))]) [0, 1, 2, 3, 4, 5] rfl
    have hD9 := hD.sub (ws' := [(y, kO 9 [.int y_thrown, .int (nI y_taped), .ref y_tape, .int (nI y_size), .int (nI y_place), .int (nI y_begin), .int (nI y_token), .long y_word, .int y_told, .int y_wrong, .ref y_supper, .ref y_guestName, .ref y_kind, .ref y_offTold, .ref y_pace, .ref y_cooks, .ref y_snow, .ref y_lineFrom, .ref y_lineTo, .ref y_codes, .int (nI y_code), .int y_toldLines, .ref y_opened, .ref y_compared, .ref y_kept, .ref y_keptBy, .ref y_ahead, .ref y_against, .ref y_sum, .ref y_sumBy, .ref y_term, .ref y_termBy, .ref y_byNot, .ref y_valueOf, .int y_given, .ref y_lines, .ref y_lineWhat, .ref y_lineA, .ref y_lineB, .ref y_seens, .ref y_seenIn, .ref y_seenYards, .ref y_seenNear, .ref y_s, .ref y_aside, .ref y_before, .ref y_marked, .ref y_undone, .ref y_isLaid, .int (nI y_done), .int y_snowNow, .int y_cameNow, .int y_cookThen, .int y_tasteThen, .ref y_places, .ref y_comesAt, .ref y_yardsIn, .long y_g]), (y_supper, kI k 8 y_supperF), (y_kind, kI k 12 y_kindF), (y_pace, kI k 12 y_paceF), (y_snow, kI k 24 y_snowF), (y_s, kI k 46 (upd y_sF (Int32.toNatClampNeg (22 + g)) ((y_sF (Int32.toNatClampNeg (22 + g))) - 1)))]) [0, 1, 2, 3, 4, 5] (by decide) rfl
    exact W.vret hx hb hr (fun zt ht hW => ⟨⟨(upd y_sF (Int32.toNatClampNeg (22 + g)) ((y_sF (Int32.toNatClampNeg (22 + g))) - 1)), rfl, ⟨(by first | assumption | exact I9_minX (by assumption) (by first | decide | omega | (rw [nI_toInt (by omega)]; omega)) | exact I9_minX (I9_minM (by assumption) (by omega)) (by first | decide | omega | (rw [nI_toInt (by omega)]; omega)) | exact I9_minV (by assumption) (by omega)), (hZ.trans hE0)⟩, by rw [ht]; exact hP9, hD9⟩, hS.F ht⟩) hS.2.2 dX9_goes_25
theorem dX9_cookNow_0 : decode cX9_cookNow 0 = .ok (.iconst (-1), 1) := by decide +kernel
theorem dX9_cookNow_1 : decode cX9_cookNow 1 = .ok (.istore_n 1, 1) := by decide +kernel
theorem dX9_cookNow_2 : decode cX9_cookNow 2 = .ok (.iconst 0, 1) := by decide +kernel
theorem dX9_cookNow_3 : decode cX9_cookNow 3 = .ok (.istore_n 2, 1) := by decide +kernel
theorem dX9_cookNow_4 : decode cX9_cookNow 4 = .ok (.iload_n 2, 1) := by decide +kernel
theorem dX9_cookNow_5 : decode cX9_cookNow 5 = .ok (.aload_n 0, 1) := by decide +kernel
theorem dX9_cookNow_6 : decode cX9_cookNow 6 = .ok (.getfield 13, 3) := by decide +kernel
theorem dX9_cookNow_9 : decode cX9_cookNow 9 = .ok (.iconst 0, 1) := by decide +kernel
theorem dX9_cookNow_10 : decode cX9_cookNow 10 = .ok (.iaload, 1) := by decide +kernel
theorem dX9_cookNow_11 : decode cX9_cookNow 11 = .ok (.if_icmp .ge 99, 3) := by decide +kernel
theorem dX9_cookNow_14 : decode cX9_cookNow 14 = .ok (.iload_n 1, 1) := by decide +kernel
theorem dX9_cookNow_15 : decode cX9_cookNow 15 = .ok (.ifCond .ge 5, 3) := by decide +kernel
theorem dX9_cookNow_18 : decode cX9_cookNow 18 = .ok (.iload_n 2, 1) := by decide +kernel
theorem dX9_cookNow_19 : decode cX9_cookNow 19 = .ok (.istore_n 1, 1) := by decide +kernel
theorem dX9_cookNow_20 : decode cX9_cookNow 20 = .ok (.aload_n 0, 1) := by decide +kernel
theorem dX9_cookNow_21 : decode cX9_cookNow 21 = .ok (.getfield 20, 3) := by decide +kernel
theorem dX9_cookNow_24 : decode cX9_cookNow 24 = .ok (.iload_n 2, 1) := by decide +kernel
theorem dX9_cookNow_25 : decode cX9_cookNow 25 = .ok (.iaload, 1) := by decide +kernel
theorem dX9_cookNow_26 : decode cX9_cookNow 26 = .ok (.iconst 1, 1) := by decide +kernel
theorem dX9_cookNow_27 : decode cX9_cookNow 27 = .ok (.if_icmp .ne 7, 3) := by decide +kernel
theorem dX9_cookNow_30 : decode cX9_cookNow 30 = .ok (.iconst 1, 1) := by decide +kernel
theorem dX9_cookNow_31 : decode cX9_cookNow 31 = .ok (.goto 4, 3) := by decide +kernel
theorem dX9_cookNow_34 : decode cX9_cookNow 34 = .ok (.iconst 0, 1) := by decide +kernel
theorem dX9_cookNow_35 : decode cX9_cookNow 35 = .ok (.aload_n 0, 1) := by decide +kernel
theorem dX9_cookNow_36 : decode cX9_cookNow 36 = .ok (.getfield 20, 3) := by decide +kernel
theorem dX9_cookNow_39 : decode cX9_cookNow 39 = .ok (.iload_n 1, 1) := by decide +kernel
theorem dX9_cookNow_40 : decode cX9_cookNow 40 = .ok (.iaload, 1) := by decide +kernel
theorem dX9_cookNow_41 : decode cX9_cookNow 41 = .ok (.iconst 1, 1) := by decide +kernel
theorem dX9_cookNow_42 : decode cX9_cookNow 42 = .ok (.if_icmp .ne 7, 3) := by decide +kernel
theorem dX9_cookNow_45 : decode cX9_cookNow 45 = .ok (.iconst 1, 1) := by decide +kernel
theorem dX9_cookNow_46 : decode cX9_cookNow 46 = .ok (.goto 4, 3) := by decide +kernel
theorem dX9_cookNow_49 : decode cX9_cookNow 49 = .ok (.iconst 0, 1) := by decide +kernel
theorem dX9_cookNow_50 : decode cX9_cookNow 50 = .ok (.if_icmp .eq 21, 3) := by decide +kernel
theorem dX9_cookNow_53 : decode cX9_cookNow 53 = .ok (.aload_n 0, 1) := by decide +kernel
theorem dX9_cookNow_54 : decode cX9_cookNow 54 = .ok (.getfield 20, 3) := by decide +kernel
theorem dX9_cookNow_57 : decode cX9_cookNow 57 = .ok (.iload_n 1, 1) := by decide +kernel
theorem dX9_cookNow_58 : decode cX9_cookNow 58 = .ok (.iaload, 1) := by decide +kernel
theorem dX9_cookNow_59 : decode cX9_cookNow 59 = .ok (.iconst 1, 1) := by decide +kernel
theorem dX9_cookNow_60 : decode cX9_cookNow 60 = .ok (.if_icmp .ne 7, 3) := by decide +kernel
theorem dX9_cookNow_63 : decode cX9_cookNow 63 = .ok (.iconst 1, 1) := by decide +kernel
theorem dX9_cookNow_64 : decode cX9_cookNow 64 = .ok (.goto 33, 3) := by decide +kernel
theorem dX9_cookNow_67 : decode cX9_cookNow 67 = .ok (.iconst 0, 1) := by decide +kernel
theorem dX9_cookNow_68 : decode cX9_cookNow 68 = .ok (.goto 29, 3) := by decide +kernel
theorem dX9_cookNow_71 : decode cX9_cookNow 71 = .ok (.aload_n 0, 1) := by decide +kernel
theorem dX9_cookNow_72 : decode cX9_cookNow 72 = .ok (.getfield 105, 3) := by decide +kernel
theorem dX9_cookNow_75 : decode cX9_cookNow 75 = .ok (.bipush 10, 2) := by decide +kernel
theorem dX9_cookNow_77 : decode cX9_cookNow 77 = .ok (.iload_n 2, 1) := by decide +kernel
theorem dX9_cookNow_78 : decode cX9_cookNow 78 = .ok (.iadd, 1) := by decide +kernel
theorem dX9_cookNow_79 : decode cX9_cookNow 79 = .ok (.iaload, 1) := by decide +kernel
theorem dX9_cookNow_80 : decode cX9_cookNow 80 = .ok (.aload_n 0, 1) := by decide +kernel
theorem dX9_cookNow_81 : decode cX9_cookNow 81 = .ok (.getfield 105, 3) := by decide +kernel
theorem dX9_cookNow_84 : decode cX9_cookNow 84 = .ok (.bipush 10, 2) := by decide +kernel
theorem dX9_cookNow_86 : decode cX9_cookNow 86 = .ok (.iload_n 1, 1) := by decide +kernel
theorem dX9_cookNow_87 : decode cX9_cookNow 87 = .ok (.iadd, 1) := by decide +kernel
theorem dX9_cookNow_88 : decode cX9_cookNow 88 = .ok (.iaload, 1) := by decide +kernel
theorem dX9_cookNow_89 : decode cX9_cookNow 89 = .ok (.if_icmp .le 7, 3) := by decide +kernel
theorem dX9_cookNow_92 : decode cX9_cookNow 92 = .ok (.iconst 1, 1) := by decide +kernel
theorem dX9_cookNow_93 : decode cX9_cookNow 93 = .ok (.goto 4, 3) := by decide +kernel
theorem dX9_cookNow_96 : decode cX9_cookNow 96 = .ok (.iconst 0, 1) := by decide +kernel
theorem dX9_cookNow_97 : decode cX9_cookNow 97 = .ok (.istore_n 3, 1) := by decide +kernel
theorem dX9_cookNow_98 : decode cX9_cookNow 98 = .ok (.iload_n 3, 1) := by decide +kernel
theorem dX9_cookNow_99 : decode cX9_cookNow 99 = .ok (.ifCond .eq 5, 3) := by decide +kernel
theorem dX9_cookNow_102 : decode cX9_cookNow 102 = .ok (.iload_n 2, 1) := by decide +kernel
theorem dX9_cookNow_103 : decode cX9_cookNow 103 = .ok (.istore_n 1, 1) := by decide +kernel
theorem dX9_cookNow_104 : decode cX9_cookNow 104 = .ok (.iinc 2 1, 3) := by decide +kernel
theorem dX9_cookNow_107 : decode cX9_cookNow 107 = .ok (.goto (-103), 3) := by decide +kernel
theorem dX9_cookNow_110 : decode cX9_cookNow 110 = .ok (.iload_n 1, 1) := by decide +kernel
theorem dX9_cookNow_111 : decode cX9_cookNow 111 = .ok (.ireturn, 1) := by decide +kernel
set_option maxHeartbeats 4000000 in
set_option maxRecDepth 100000 in
theorem sX9_cookNow (l : Launch) (D : va_G) (k : Nat → ClassId) (sz : Nat) (y : Nat) (y_thrown : Int32) (y_taped : Nat) (y_tape : Nat) (y_size : Nat) (y_place : Nat) (y_begin : Nat) (y_token : Nat) (y_word : Int64) (y_told : Int32) (y_wrong : Int32) (y_supper : Nat) (y_guestName : Nat) (y_kind : Nat) (y_offTold : Nat) (y_pace : Nat) (y_cooks : Nat) (y_snow : Nat) (y_lineFrom : Nat) (y_lineTo : Nat) (y_codes : Nat) (y_code : Nat) (y_toldLines : Int32) (y_opened : Nat) (y_compared : Nat) (y_kept : Nat) (y_keptBy : Nat) (y_ahead : Nat) (y_against : Nat) (y_sum : Nat) (y_sumBy : Nat) (y_term : Nat) (y_termBy : Nat) (y_byNot : Nat) (y_valueOf : Nat) (y_given : Int32) (y_lines : Nat) (y_lineWhat : Nat) (y_lineA : Nat) (y_lineB : Nat) (y_seens : Nat) (y_seenIn : Nat) (y_seenYards : Nat) (y_seenNear : Nat) (y_s : Nat) (y_aside : Nat) (y_before : Nat) (y_marked : Nat) (y_undone : Nat) (y_isLaid : Nat) (y_done : Nat) (y_snowNow : Int32) (y_cameNow : Int32) (y_cookThen : Int32) (y_tasteThen : Int32) (y_places : Nat) (y_comesAt : Nat) (y_yardsIn : Nat) (y_g : Int64) (y_supperF : Nat → Int32) (y_kindF : Nat → Int32) (y_sF : Nat → Int32) (mb : Nat) (hmb : mb ≤ 1000000) (h_y_taped : y_taped ≤ 1000) (h_y_size : y_size ≤ 1000) (h_y_place : y_place ≤ 1000) (h_y_begin : y_begin ≤ 1000) (h_y_token : y_token ≤ 4) (h_y_told : 0 ≤ Int32.toInt y_told ∧ Int32.toInt y_told ≤ 9999) (h_y_code : y_code ≤ 2000) (h_y_done : y_done ≤ 16) (h_y_s : I9_min mb y_sF) (h_y_supper : I9_sup y_supperF) : Met l yX9_cookNow wsX9_cookNow ({ frames := 0, cells := 0, slots := 0, locals := 0 }) (va_Pc [.ref y] (kz_Pre D k [(y, kO 9 [.int y_thrown, .int (nI y_taped), .ref y_tape, .int (nI y_size), .int (nI y_place), .int (nI y_begin), .int (nI y_token), .long y_word, .int y_told, .int y_wrong, .ref y_supper, .ref y_guestName, .ref y_kind, .ref y_offTold, .ref y_pace, .ref y_cooks, .ref y_snow, .ref y_lineFrom, .ref y_lineTo, .ref y_codes, .int (nI y_code), .int y_toldLines, .ref y_opened, .ref y_compared, .ref y_kept, .ref y_keptBy, .ref y_ahead, .ref y_against, .ref y_sum, .ref y_sumBy, .ref y_term, .ref y_termBy, .ref y_byNot, .ref y_valueOf, .int y_given, .ref y_lines, .ref y_lineWhat, .ref y_lineA, .ref y_lineB, .ref y_seens, .ref y_seenIn, .ref y_seenYards, .ref y_seenNear, .ref y_s, .ref y_aside, .ref y_before, .ref y_marked, .ref y_undone, .ref y_isLaid, .int (nI y_done), .int y_snowNow, .int y_cameNow, .int y_cookThen, .int y_tasteThen, .ref y_places, .ref y_comesAt, .ref y_yardsIn, .long y_g]), (y_supper, kI k 8 y_supperF), (y_kind, kI k 12 y_kindF), (y_s, kI k 46 y_sF)] sz)) (va_Qi (fun (rr : Int32) (uu : Unit) => ((-1) ≤ Int32.toInt rr ∧ Int32.toInt rr ≤ 5 ∧ (Int32.toInt rr = -1 → Int32.toInt (y_supperF (Int32.toNatClampNeg 0)) ≤ 0)) ∧ ((rr) = (fX9_cookNow y_supperF y_kindF y_sF))) (fun uu zt => kz_B D (va_A [(y, kO 9 [.int y_thrown, .int (nI y_taped), .ref y_tape, .int (nI y_size), .int (nI y_place), .int (nI y_begin), .int (nI y_token), .long y_word, .int y_told, .int y_wrong, .ref y_supper, .ref y_guestName, .ref y_kind, .ref y_offTold, .ref y_pace, .ref y_cooks, .ref y_snow, .ref y_lineFrom, .ref y_lineTo, .ref y_codes, .int (nI y_code), .int y_toldLines, .ref y_opened, .ref y_compared, .ref y_kept, .ref y_keptBy, .ref y_ahead, .ref y_against, .ref y_sum, .ref y_sumBy, .ref y_term, .ref y_termBy, .ref y_byNot, .ref y_valueOf, .int y_given, .ref y_lines, .ref y_lineWhat, .ref y_lineA, .ref y_lineB, .ref y_seens, .ref y_seenIn, .ref y_seenYards, .ref y_seenNear, .ref y_s, .ref y_aside, .ref y_before, .ref y_marked, .ref y_undone, .ref y_isLaid, .int (nI y_done), .int y_snowNow, .int y_cameNow, .int y_cookThen, .int y_tasteThen, .ref y_places, .ref y_comesAt, .ref y_yardsIn, .long y_g]), (y_supper, kI k 8 y_supperF), (y_kind, kI k 12 y_kindF), (y_s, kI k 46 y_sF)] sz) [(y, kO 9 [.int y_thrown, .int (nI y_taped), .ref y_tape, .int (nI y_size), .int (nI y_place), .int (nI y_begin), .int (nI y_token), .long y_word, .int y_told, .int y_wrong, .ref y_supper, .ref y_guestName, .ref y_kind, .ref y_offTold, .ref y_pace, .ref y_cooks, .ref y_snow, .ref y_lineFrom, .ref y_lineTo, .ref y_codes, .int (nI y_code), .int y_toldLines, .ref y_opened, .ref y_compared, .ref y_kept, .ref y_keptBy, .ref y_ahead, .ref y_against, .ref y_sum, .ref y_sumBy, .ref y_term, .ref y_termBy, .ref y_byNot, .ref y_valueOf, .int y_given, .ref y_lines, .ref y_lineWhat, .ref y_lineA, .ref y_lineB, .ref y_seens, .ref y_seenIn, .ref y_seenYards, .ref y_seenNear, .ref y_s, .ref y_aside, .ref y_before, .ref y_marked, .ref y_undone, .ref y_isLaid, .int (nI y_done), .int y_snowNow, .int y_cameNow, .int y_cookThen, .int y_tasteThen, .ref y_places, .ref y_comesAt, .ref y_yardsIn, .long y_g]), (y_supper, kI k 8 y_supperF), (y_kind, kI k 12 y_kindF), (y_s, kI k 46 y_sF)] zt) (va_A [(y, kO 9 [.int y_thrown, .int (nI y_taped), .ref y_tape, .int (nI y_size), .int (nI y_place), .int (nI y_begin), .int (nI y_token), .long y_word, .int y_told, .int y_wrong, .ref y_supper, .ref y_guestName, .ref y_kind, .ref y_offTold, .ref y_pace, .ref y_cooks, .ref y_snow, .ref y_lineFrom, .ref y_lineTo, .ref y_codes, .int (nI y_code), .int y_toldLines, .ref y_opened, .ref y_compared, .ref y_kept, .ref y_keptBy, .ref y_ahead, .ref y_against, .ref y_sum, .ref y_sumBy, .ref y_term, .ref y_termBy, .ref y_byNot, .ref y_valueOf, .int y_given, .ref y_lines, .ref y_lineWhat, .ref y_lineA, .ref y_lineB, .ref y_seens, .ref y_seenIn, .ref y_seenYards, .ref y_seenNear, .ref y_s, .ref y_aside, .ref y_before, .ref y_marked, .ref y_undone, .ref y_isLaid, .int (nI y_done), .int y_snowNow, .int y_cameNow, .int y_cookThen, .int y_tasteThen, .ref y_places, .ref y_comesAt, .ref y_yardsIn, .long y_g]), (y_supper, kI k 8 y_supperF), (y_kind, kI k 12 y_kindF), (y_s, kI k 46 y_sF)] sz)) 0 0 (va_A [(y, kO 9 [.int y_thrown, .int (nI y_taped), .ref y_tape, .int (nI y_size), .int (nI y_place), .int (nI y_begin), .int (nI y_token), .long y_word, .int y_told, .int y_wrong, .ref y_supper, .ref y_guestName, .ref y_kind, .ref y_offTold, .ref y_pace, .ref y_cooks, .ref y_snow, .ref y_lineFrom, .ref y_lineTo, .ref y_codes, .int (nI y_code), .int y_toldLines, .ref y_opened, .ref y_compared, .ref y_kept, .ref y_keptBy, .ref y_ahead, .ref y_against, .ref y_sum, .ref y_sumBy, .ref y_term, .ref y_termBy, .ref y_byNot, .ref y_valueOf, .int y_given, .ref y_lines, .ref y_lineWhat, .ref y_lineA, .ref y_lineB, .ref y_seens, .ref y_seenIn, .ref y_seenYards, .ref y_seenNear, .ref y_s, .ref y_aside, .ref y_before, .ref y_marked, .ref y_undone, .ref y_isLaid, .int (nI y_done), .int y_snowNow, .int y_cameNow, .int y_cookThen, .int y_tasteThen, .ref y_places, .ref y_comesAt, .ref y_yardsIn, .long y_g]), (y_supper, kI k 8 y_supperF), (y_kind, kI k 12 y_kindF), (y_s, kI k 46 y_sF)] sz) := by
  refine Met.ofW (cc := cX9_cookNow) (maxL := 4) (ret := (some .int)) (by decide) rfl ?_
  intro p e s m args below meth c s₁ B hml hv
  obtain ⟨hav, hsz, hP, hK, hD0, hE⟩ := hv
  have hx := B.exec
  have hb := B.bytes
  have hr := B.returns
  have hts := atoms_spec (ws := wsX9_cookNow) B.pre
  have hown : s.vm.findClass RX9 = some m.cls := findClass_of_methodNamed B.named
  have hlocks := B.notSynchronized
  have hi9 : ∀ w ∈ u_ws RX9 TX9 58, w ∈ wsX9_cookNow := by decide +kernel
  have lf13 := hts (.fieldLink RX9 13 "LastCookModel" "supper" "[I") (by decide +kernel)
  have lf20 := hts (.fieldLink RX9 20 "LastCookModel" "kind" "[I") (by decide +kernel)
  have lf105 := hts (.fieldLink RX9 105 "LastCookModel" "s" "[I") (by decide +kernel)
  subst hsz
  have hD := hD0.self (sz := s.heap.size)
  generalize hAe : va_A [(y, kO 9 [.int y_thrown, .int (nI y_taped), .ref y_tape, .int (nI y_size), .int (nI y_place), .int (nI y_begin), .int (nI y_token), .long y_word, .int y_told, .int y_wrong, .ref y_supper, .ref y_guestName, .ref y_kind, .ref y_offTold, .ref y_pace, .ref y_cooks, .ref y_snow, .ref y_lineFrom, .ref y_lineTo, .ref y_codes, .int (nI y_code), .int y_toldLines, .ref y_opened, .ref y_compared, .ref y_kept, .ref y_keptBy, .ref y_ahead, .ref y_against, .ref y_sum, .ref y_sumBy, .ref y_term, .ref y_termBy, .ref y_byNot, .ref y_valueOf, .int y_given, .ref y_lines, .ref y_lineWhat, .ref y_lineA, .ref y_lineB, .ref y_seens, .ref y_seenIn, .ref y_seenYards, .ref y_seenNear, .ref y_s, .ref y_aside, .ref y_before, .ref y_marked, .ref y_undone, .ref y_isLaid, .int (nI y_done), .int y_snowNow, .int y_cameNow, .int y_cookThen, .int y_tasteThen, .ref y_places, .ref y_comesAt, .ref y_yardsIn, .long y_g]), (y_supper, kI k 8 y_supperF), (y_kind, kI k 12 y_kindF), (y_s, kI k 46 y_sF)] s.heap.size = A at hD ⊢
  have hA : ∀ q : Nat, s.heap.size ≤ q → A q := fun q h => by rw [← hAe]; exact Or.inr h
  have hS : va_S A s.heap s.heap [] := va_S.rf
  have hl := lv_entry ([.ref y]) (n := 4) (Nat.le_of_ble_eq_true rfl)
  rw [show entryFrame m args 4 = entryFrame m ([.ref y] : List Value).toArray 4 by rw [hav], lg_entry_eq]
  generalize (lg_sl ([.ref y]) ++ List.replicate (4 - (lg_sl ([.ref y])).length) Slot.unset).toArray = ls at hl ⊢
  have hl : lv_has ls 4 [(0, .ref y)] := hl
  obtain ⟨R, hR⟩ : ∃ R, R = (headSpec wsX9_cookNow ({ frames := 0, cells := 0, slots := 0, locals := 0 } : Room)).room := ⟨_, rfl⟩
  rw [← hR]
  generalize hQ : MQ below _ args s 0 0 A = Q
  replace hQ := hQ.symm
  obtain ⟨H, hH⟩ : ∃ H, H = s.heap := ⟨_, rfl⟩
  rw [← hH] at hP ⊢
  have hS : va_S A s.heap H [] := by rw [hH]; exact hS
  obtain ⟨E0, hE0⟩ : ∃ E0 : Int32, E0 = (fX9_cookNow y_supperF y_kindF y_sF) := ⟨_, rfl⟩
  have hZ : (fX9_cookNow y_supperF y_kindF y_sF) = E0 := hE0.symm
  refine lv_iconst (v := (-1)) hx hb dX9_cookNow_0 (by decide) ?_
  refine lv_istore_n (lv' := [(1, .int (-1)), (0, .ref y)]) hx hb dX9_cookNow_1 rfl hl (by decide) rfl (fun ls hl => ?_)
  refine lv_iconst (v := 0) hx hb dX9_cookNow_2 (by decide) ?_
  refine lv_istore_n (lv' := [(2, .int 0), (1, .int (-1)), (0, .ref y)]) hx hb dX9_cookNow_3 rfl hl (by decide) rfl (fun ls hl => ?_)
  have hloop4 : ∀ (nq : Nat) (l1_4 : Int32) (l2_4 : Nat) (H : Heap) (locs : List Loc) (ls : Array Slot), (6 + 1 - l2_4) < nq → (-1 ≤ Int32.toInt l1_4 ∧ Int32.toInt l1_4 ≤ 5) → (l2_4 ≤ 6) → ((Int32.toInt l1_4 = -1 → l2_4 = 0)) → (lp (fun _ _ => (0 : Int32)) (fX9_cookNow_B4a y_supperF y_kindF y_sF) nq l1_4 l2_4 = E0) → va_P D vwCl [(y, kO 9 [.int y_thrown, .int (nI y_taped), .ref y_tape, .int (nI y_size), .int (nI y_place), .int (nI y_begin), .int (nI y_token), .long y_word, .int y_told, .int y_wrong, .ref y_supper, .ref y_guestName, .ref y_kind, .ref y_offTold, .ref y_pace, .ref y_cooks, .ref y_snow, .ref y_lineFrom, .ref y_lineTo, .ref y_codes, .int (nI y_code), .int y_toldLines, .ref y_opened, .ref y_compared, .ref y_kept, .ref y_keptBy, .ref y_ahead, .ref y_against, .ref y_sum, .ref y_sumBy, .ref y_term, .ref y_termBy, .ref y_byNot, .ref y_valueOf, .int y_given, .ref y_lines, .ref y_lineWhat, .ref y_lineA, .ref y_lineB, .ref y_seens, .ref y_seenIn, .ref y_seenYards, .ref y_seenNear, .ref y_s, .ref y_aside, .ref y_before, .ref y_marked, .ref y_undone, .ref y_isLaid, .int (nI y_done), .int y_snowNow, .int y_cameNow, .int y_cookThen, .int y_tasteThen, .ref y_places, .ref y_comesAt, .ref y_yardsIn, .long y_g]), (y_supper, kI k 8 y_supperF), (y_kind, kI k 12 y_kindF), (y_s, kI k 46 y_sF)] H → va_D A [(y, kO 9 [.int y_thrown, .int (nI y_taped), .ref y_tape, .int (nI y_size), .int (nI y_place), .int (nI y_begin), .int (nI y_token), .long y_word, .int y_told, .int y_wrong, .ref y_supper, .ref y_guestName, .ref y_kind, .ref y_offTold, .ref y_pace, .ref y_cooks, .ref y_snow, .ref y_lineFrom, .ref y_lineTo, .ref y_codes, .int (nI y_code), .int y_toldLines, .ref y_opened, .ref y_compared, .ref y_kept, .ref y_keptBy, .ref y_ahead, .ref y_against, .ref y_sum, .ref y_sumBy, .ref y_term, .ref y_termBy, .ref y_byNot, .ref y_valueOf, .int y_given, .ref y_lines, .ref y_lineWhat, .ref y_lineA, .ref y_lineB, .ref y_seens, .ref y_seenIn, .ref y_seenYards, .ref y_seenNear, .ref y_s, .ref y_aside, .ref y_before, .ref y_marked, .ref y_undone, .ref y_isLaid, .int (nI y_done), .int y_snowNow, .int y_cameNow, .int y_cookThen, .int y_tasteThen, .ref y_places, .ref y_comesAt, .ref y_yardsIn, .long y_g]), (y_supper, kI k 8 y_supperF), (y_kind, kI k 12 y_kindF), (y_s, kI k 46 y_sF)] → va_S A s.heap H locs → lv_has ls 4 [(0, .ref y), (1, .int l1_4), (2, .int (nI l2_4))] → W p l e R s m args below meth c H locs 0 0 Q (F0 m 4 ls []) := by
    intro n4
    induction n4 with
    | zero => intro l1_4 l2_4 H locs ls hm; exact absurd hm (Nat.not_lt_zero _)
    | succ n4 ih4 =>
      intro l1_4 l2_4 H locs ls hm4 i_l1_4 i_l2_4 v4_0 hZ hP hD hS hl
      obtain ⟨rc4_1, hrc4_1⟩ : ∃ r : Int32 → Nat → Int32, r = lp (fun _ _ => (0 : Int32)) (fX9_cookNow_B4a y_supperF y_kindF y_sF) n4 := ⟨_, rfl⟩
      have hZ : (fX9_cookNow_B4a y_supperF y_kindF y_sF) rc4_1 l1_4 l2_4 = E0 := by rw [hrc4_1]; exact hZ
      refine lv_iload_n hx hb dX9_cookNow_4 rfl (lv_at hl 2 rfl) ?_
      refine lv_aload_n hx hb dX9_cookNow_5 rfl (lv_at hl 0 rfl) ?_
      refine va_get (D := D) (ci := 9) (v := .ref y_supper) (C := RX9) (T := TX9) (N := 58) hx hb hts hi9 hown hK hP 0 rfl rfl 10 (by decide) lf13 (fun _ h9 => h9) rfl dX9_cookNow_6 ?_
      refine lv_iconst (v := 0) hx hb dX9_cookNow_9 (by decide) ?_
      refine va_iald hx hb hK hP 1 0 rfl rfl (vp_in_iff.mpr (by decide)) dX9_cookNow_10 ?_
      have lf2 : 0 ≤ Int32.toInt (y_supperF (Int32.toNatClampNeg 0)) ∧ Int32.toInt (y_supperF (Int32.toNatClampNeg 0)) ≤ 6 := h_y_supper.1
      refine lv_icmp_ge (tgt := 110) hx hb dX9_cookNow_11 (by decide) (fun c_3 => ?_) (fun c_3 => ?_)
      · skip
        have t_3 : (Int32.toInt (y_supperF (Int32.toNatClampNeg 0))) ≤ ((l2_4 : Nat) : Int) := tI_le rfl (nI_toInt (by omega)) c_3
        have hZ := (if_pos c_3).symm.trans hZ
        refine lv_iload_n hx hb dX9_cookNow_110 rfl (lv_at hl 1 rfl) ?_
        rw [hQ]
        have hP9 := hP.sub (ws' := [(y, kO 9 [.int y_thrown, .int (nI y_taped), .ref y_tape, .int (nI y_size), .int (nI y_place), .int (nI y_begin), .int (nI y_token), .long y_word, .int y_told, .int y_wrong, .ref y_supper, .ref y_guestName, .ref y_kind, .ref y_offTold, .ref y_pace, .ref y_cooks, .ref y_snow, .ref y_lineFrom, .ref y_lineTo, .ref y_codes, .int (nI y_code), .int y_toldLines, .ref y_opened, .ref y_compared, .ref y_kept, .ref y_keptBy, .ref y_ahead, .ref y_against, .ref y_sum, .ref y_sumBy, .ref y_term, .ref y_termBy, .ref y_byNot, .ref y_valueOf, .int y_given, .ref y_lines, .ref y_lineWhat, .ref y_lineA, .ref y_lineB, .ref y_seens, .ref y_seenIn, .ref y_seenYards, .ref y_seenNear, .ref y_s, .ref y_aside, .ref y_before, .ref y_marked, .ref y_undone, .ref y_isLaid, .int (nI y_done), .int y_snowNow, .int y_cameNow, .int y_cookThen, .int y_tasteThen, .ref y_places, .ref y_comesAt, .ref y_yardsIn, .long y_g]), (y_supper, kI k 8 y_supperF), (y_kind, kI k 12 y_kindF), (y_s, kI k 46 y_sF)]) [0, 1, 2, 3] rfl
        have hD9 := hD.sub (ws' := [(y, kO 9 [.int y_thrown, .int (nI y_taped), .ref y_tape, .int (nI y_size), .int (nI y_place), .int (nI y_begin), .int (nI y_token), .long y_word, .int y_told, .int y_wrong, .ref y_supper, .ref y_guestName, .ref y_kind, .ref y_offTold, .ref y_pace, .ref y_cooks, .ref y_snow, .ref y_lineFrom, .ref y_lineTo, .ref y_codes, .int (nI y_code), .int y_toldLines, .ref y_opened, .ref y_compared, .ref y_kept, .ref y_keptBy, .ref y_ahead, .ref y_against, .ref y_sum, .ref y_sumBy, .ref y_term, .ref y_termBy, .ref y_byNot, .ref y_valueOf, .int y_given, .ref y_lines, .ref y_lineWhat, .ref y_lineA, .ref y_lineB, .ref y_seens, .ref y_seenIn, .ref y_seenYards, .ref y_seenNear, .ref y_s, .ref y_aside, .ref y_before, .ref y_marked, .ref y_undone, .ref y_isLaid, .int (nI y_done), .int y_snowNow, .int y_cameNow, .int y_cookThen, .int y_tasteThen, .ref y_places, .ref y_comesAt, .ref y_yardsIn, .long y_g]), (y_supper, kI k 8 y_supperF), (y_kind, kI k 12 y_kindF), (y_s, kI k 46 y_sF)]) [0, 1, 2, 3] (by decide) rfl
        exact W.iret (v := l1_4) hx hb hr (fun zt ht hW => ⟨⟨l1_4, (), rfl, ⟨(by first | omega | (dsimp only; omega) | assumption), (hZ.trans hE0)⟩, by rw [ht]; exact hP9, hD9⟩, hS.F ht⟩) hS.2.2 dX9_cookNow_111
      · skip
        have t_3 : (Int32.toInt (y_supperF (Int32.toNatClampNeg 0))) > ((l2_4 : Nat) : Int) := tI_nle rfl (nI_toInt (by omega)) c_3
        have hZ := (if_neg c_3).symm.trans hZ
        refine lv_iload_n hx hb dX9_cookNow_14 rfl (lv_at hl 1 rfl) ?_
        have hj20_4 : ∀ (l1_20 : Int32) (H : Heap) (locs : List Loc) (ls : Array Slot), (0 ≤ Int32.toInt l1_20 ∧ Int32.toInt l1_20 ≤ 5) → ((fX9_cookNow_J20a y_kindF y_sF l2_4 rc4_1) l1_20 = E0) → va_P D vwCl [(y, kO 9 [.int y_thrown, .int (nI y_taped), .ref y_tape, .int (nI y_size), .int (nI y_place), .int (nI y_begin), .int (nI y_token), .long y_word, .int y_told, .int y_wrong, .ref y_supper, .ref y_guestName, .ref y_kind, .ref y_offTold, .ref y_pace, .ref y_cooks, .ref y_snow, .ref y_lineFrom, .ref y_lineTo, .ref y_codes, .int (nI y_code), .int y_toldLines, .ref y_opened, .ref y_compared, .ref y_kept, .ref y_keptBy, .ref y_ahead, .ref y_against, .ref y_sum, .ref y_sumBy, .ref y_term, .ref y_termBy, .ref y_byNot, .ref y_valueOf, .int y_given, .ref y_lines, .ref y_lineWhat, .ref y_lineA, .ref y_lineB, .ref y_seens, .ref y_seenIn, .ref y_seenYards, .ref y_seenNear, .ref y_s, .ref y_aside, .ref y_before, .ref y_marked, .ref y_undone, .ref y_isLaid, .int (nI y_done), .int y_snowNow, .int y_cameNow, .int y_cookThen, .int y_tasteThen, .ref y_places, .ref y_comesAt, .ref y_yardsIn, .long y_g]), (y_supper, kI k 8 y_supperF), (y_kind, kI k 12 y_kindF), (y_s, kI k 46 y_sF)] H → va_D A [(y, kO 9 [.int y_thrown, .int (nI y_taped), .ref y_tape, .int (nI y_size), .int (nI y_place), .int (nI y_begin), .int (nI y_token), .long y_word, .int y_told, .int y_wrong, .ref y_supper, .ref y_guestName, .ref y_kind, .ref y_offTold, .ref y_pace, .ref y_cooks, .ref y_snow, .ref y_lineFrom, .ref y_lineTo, .ref y_codes, .int (nI y_code), .int y_toldLines, .ref y_opened, .ref y_compared, .ref y_kept, .ref y_keptBy, .ref y_ahead, .ref y_against, .ref y_sum, .ref y_sumBy, .ref y_term, .ref y_termBy, .ref y_byNot, .ref y_valueOf, .int y_given, .ref y_lines, .ref y_lineWhat, .ref y_lineA, .ref y_lineB, .ref y_seens, .ref y_seenIn, .ref y_seenYards, .ref y_seenNear, .ref y_s, .ref y_aside, .ref y_before, .ref y_marked, .ref y_undone, .ref y_isLaid, .int (nI y_done), .int y_snowNow, .int y_cameNow, .int y_cookThen, .int y_tasteThen, .ref y_places, .ref y_comesAt, .ref y_yardsIn, .long y_g]), (y_supper, kI k 8 y_supperF), (y_kind, kI k 12 y_kindF), (y_s, kI k 46 y_sF)] → va_S A s.heap H locs → lv_has ls 4 [(0, .ref y), (1, .int l1_20), (2, .int (nI l2_4))] → W p l e R s m args below meth c H locs 0 0 Q (F0 m 20 ls []) := by
          intro l1_20 H locs ls i_l1_20 hZ hP hD hS hl
          refine lv_aload_n hx hb dX9_cookNow_20 rfl (lv_at hl 0 rfl) ?_
          refine va_get (D := D) (ci := 9) (v := .ref y_kind) (C := RX9) (T := TX9) (N := 58) hx hb hts hi9 hown hK hP 0 rfl rfl 12 (by decide) lf20 (fun _ h9 => h9) rfl dX9_cookNow_21 ?_
          refine lv_iload_n hx hb dX9_cookNow_24 rfl (lv_at hl 2 rfl) ?_
          refine va_iald hx hb hK hP 2 0 rfl rfl (vp_in_nI (n := l2_4) (by omega) (by omega)) dX9_cookNow_25 ?_
          refine lv_iconst (v := 1) hx hb dX9_cookNow_26 (by decide) ?_
          have hj35_5 : ∀ (s0_35 : Bool) (H : Heap) (locs : List Loc) (ls : Array Slot), ((fX9_cookNow_J35a y_kindF y_sF l2_4 rc4_1 l1_20) s0_35 = E0) → va_P D vwCl [(y, kO 9 [.int y_thrown, .int (nI y_taped), .ref y_tape, .int (nI y_size), .int (nI y_place), .int (nI y_begin), .int (nI y_token), .long y_word, .int y_told, .int y_wrong, .ref y_supper, .ref y_guestName, .ref y_kind, .ref y_offTold, .ref y_pace, .ref y_cooks, .ref y_snow, .ref y_lineFrom, .ref y_lineTo, .ref y_codes, .int (nI y_code), .int y_toldLines, .ref y_opened, .ref y_compared, .ref y_kept, .ref y_keptBy, .ref y_ahead, .ref y_against, .ref y_sum, .ref y_sumBy, .ref y_term, .ref y_termBy, .ref y_byNot, .ref y_valueOf, .int y_given, .ref y_lines, .ref y_lineWhat, .ref y_lineA, .ref y_lineB, .ref y_seens, .ref y_seenIn, .ref y_seenYards, .ref y_seenNear, .ref y_s, .ref y_aside, .ref y_before, .ref y_marked, .ref y_undone, .ref y_isLaid, .int (nI y_done), .int y_snowNow, .int y_cameNow, .int y_cookThen, .int y_tasteThen, .ref y_places, .ref y_comesAt, .ref y_yardsIn, .long y_g]), (y_supper, kI k 8 y_supperF), (y_kind, kI k 12 y_kindF), (y_s, kI k 46 y_sF)] H → va_D A [(y, kO 9 [.int y_thrown, .int (nI y_taped), .ref y_tape, .int (nI y_size), .int (nI y_place), .int (nI y_begin), .int (nI y_token), .long y_word, .int y_told, .int y_wrong, .ref y_supper, .ref y_guestName, .ref y_kind, .ref y_offTold, .ref y_pace, .ref y_cooks, .ref y_snow, .ref y_lineFrom, .ref y_lineTo, .ref y_codes, .int (nI y_code), .int y_toldLines, .ref y_opened, .ref y_compared, .ref y_kept, .ref y_keptBy, .ref y_ahead, .ref y_against, .ref y_sum, .ref y_sumBy, .ref y_term, .ref y_termBy, .ref y_byNot, .ref y_valueOf, .int y_given, .ref y_lines, .ref y_lineWhat, .ref y_lineA, .ref y_lineB, .ref y_seens, .ref y_seenIn, .ref y_seenYards, .ref y_seenNear, .ref y_s, .ref y_aside, .ref y_before, .ref y_marked, .ref y_undone, .ref y_isLaid, .int (nI y_done), .int y_snowNow, .int y_cameNow, .int y_cookThen, .int y_tasteThen, .ref y_places, .ref y_comesAt, .ref y_yardsIn, .long y_g]), (y_supper, kI k 8 y_supperF), (y_kind, kI k 12 y_kindF), (y_s, kI k 46 y_sF)] → va_S A s.heap H locs → lv_has ls 4 [(0, .ref y), (1, .int l1_20), (2, .int (nI l2_4))] → W p l e R s m args below meth c H locs 0 0 Q (F0 m 35 ls [.int (bB s0_35)]) := by
            intro s0_35 H locs ls hZ hP hD hS hl
            refine lv_aload_n hx hb dX9_cookNow_35 rfl (lv_at hl 0 rfl) ?_
            refine va_get (D := D) (ci := 9) (v := .ref y_kind) (C := RX9) (T := TX9) (N := 58) hx hb hts hi9 hown hK hP 0 rfl rfl 12 (by decide) lf20 (fun _ h9 => h9) rfl dX9_cookNow_36 ?_
            refine lv_iload_n hx hb dX9_cookNow_39 rfl (lv_at hl 1 rfl) ?_
            refine va_iald hx hb hK hP 2 0 rfl rfl (vp_in_iff.mpr (by omega)) dX9_cookNow_40 ?_
            refine lv_iconst (v := 1) hx hb dX9_cookNow_41 (by decide) ?_
            have hj50_6 : ∀ (s1_50 : Bool) (H : Heap) (locs : List Loc) (ls : Array Slot), ((fX9_cookNow_J50a y_kindF y_sF l2_4 rc4_1 l1_20 s0_35) s1_50 = E0) → va_P D vwCl [(y, kO 9 [.int y_thrown, .int (nI y_taped), .ref y_tape, .int (nI y_size), .int (nI y_place), .int (nI y_begin), .int (nI y_token), .long y_word, .int y_told, .int y_wrong, .ref y_supper, .ref y_guestName, .ref y_kind, .ref y_offTold, .ref y_pace, .ref y_cooks, .ref y_snow, .ref y_lineFrom, .ref y_lineTo, .ref y_codes, .int (nI y_code), .int y_toldLines, .ref y_opened, .ref y_compared, .ref y_kept, .ref y_keptBy, .ref y_ahead, .ref y_against, .ref y_sum, .ref y_sumBy, .ref y_term, .ref y_termBy, .ref y_byNot, .ref y_valueOf, .int y_given, .ref y_lines, .ref y_lineWhat, .ref y_lineA, .ref y_lineB, .ref y_seens, .ref y_seenIn, .ref y_seenYards, .ref y_seenNear, .ref y_s, .ref y_aside, .ref y_before, .ref y_marked, .ref y_undone, .ref y_isLaid, .int (nI y_done), .int y_snowNow, .int y_cameNow, .int y_cookThen, .int y_tasteThen, .ref y_places, .ref y_comesAt, .ref y_yardsIn, .long y_g]), (y_supper, kI k 8 y_supperF), (y_kind, kI k 12 y_kindF), (y_s, kI k 46 y_sF)] H → va_D A [(y, kO 9 [.int y_thrown, .int (nI y_taped), .ref y_tape, .int (nI y_size), .int (nI y_place), .int (nI y_begin), .int (nI y_token), .long y_word, .int y_told, .int y_wrong, .ref y_supper, .ref y_guestName, .ref y_kind, .ref y_offTold, .ref y_pace, .ref y_cooks, .ref y_snow, .ref y_lineFrom, .ref y_lineTo, .ref y_codes, .int (nI y_code), .int y_toldLines, .ref y_opened, .ref y_compared, .ref y_kept, .ref y_keptBy, .ref y_ahead, .ref y_against, .ref y_sum, .ref y_sumBy, .ref y_term, .ref y_termBy, .ref y_byNot, .ref y_valueOf, .int y_given, .ref y_lines, .ref y_lineWhat, .ref y_lineA, .ref y_lineB, .ref y_seens, .ref y_seenIn, .ref y_seenYards, .ref y_seenNear, .ref y_s, .ref y_aside, .ref y_before, .ref y_marked, .ref y_undone, .ref y_isLaid, .int (nI y_done), .int y_snowNow, .int y_cameNow, .int y_cookThen, .int y_tasteThen, .ref y_places, .ref y_comesAt, .ref y_yardsIn, .long y_g]), (y_supper, kI k 8 y_supperF), (y_kind, kI k 12 y_kindF), (y_s, kI k 46 y_sF)] → va_S A s.heap H locs → lv_has ls 4 [(0, .ref y), (1, .int l1_20), (2, .int (nI l2_4))] → W p l e R s m args below meth c H locs 0 0 Q (F0 m 50 ls [.int (bB s1_50), .int (bB s0_35)]) := by
              intro s1_50 H locs ls hZ hP hD hS hl
              have hj97_7 : ∀ (s0_97 : Bool) (H : Heap) (locs : List Loc) (ls : Array Slot), ((fX9_cookNow_J97a l2_4 rc4_1 l1_20) s0_97 = E0) → va_P D vwCl [(y, kO 9 [.int y_thrown, .int (nI y_taped), .ref y_tape, .int (nI y_size), .int (nI y_place), .int (nI y_begin), .int (nI y_token), .long y_word, .int y_told, .int y_wrong, .ref y_supper, .ref y_guestName, .ref y_kind, .ref y_offTold, .ref y_pace, .ref y_cooks, .ref y_snow, .ref y_lineFrom, .ref y_lineTo, .ref y_codes, .int (nI y_code), .int y_toldLines, .ref y_opened, .ref y_compared, .ref y_kept, .ref y_keptBy, .ref y_ahead, .ref y_against, .ref y_sum, .ref y_sumBy, .ref y_term, .ref y_termBy, .ref y_byNot, .ref y_valueOf, .int y_given, .ref y_lines, .ref y_lineWhat, .ref y_lineA, .ref y_lineB, .ref y_seens, .ref y_seenIn, .ref y_seenYards, .ref y_seenNear, .ref y_s, .ref y_aside, .ref y_before, .ref y_marked, .ref y_undone, .ref y_isLaid, .int (nI y_done), .int y_snowNow, .int y_cameNow, .int y_cookThen, .int y_tasteThen, .ref y_places, .ref y_comesAt, .ref y_yardsIn, .long y_g]), (y_supper, kI k 8 y_supperF), (y_kind, kI k 12 y_kindF), (y_s, kI k 46 y_sF)] H → va_D A [(y, kO 9 [.int y_thrown, .int (nI y_taped), .ref y_tape, .int (nI y_size), .int (nI y_place), .int (nI y_begin), .int (nI y_token), .long y_word, .int y_told, .int y_wrong, .ref y_supper, .ref y_guestName, .ref y_kind, .ref y_offTold, .ref y_pace, .ref y_cooks, .ref y_snow, .ref y_lineFrom, .ref y_lineTo, .ref y_codes, .int (nI y_code), .int y_toldLines, .ref y_opened, .ref y_compared, .ref y_kept, .ref y_keptBy, .ref y_ahead, .ref y_against, .ref y_sum, .ref y_sumBy, .ref y_term, .ref y_termBy, .ref y_byNot, .ref y_valueOf, .int y_given, .ref y_lines, .ref y_lineWhat, .ref y_lineA, .ref y_lineB, .ref y_seens, .ref y_seenIn, .ref y_seenYards, .ref y_seenNear, .ref y_s, .ref y_aside, .ref y_before, .ref y_marked, .ref y_undone, .ref y_isLaid, .int (nI y_done), .int y_snowNow, .int y_cameNow, .int y_cookThen, .int y_tasteThen, .ref y_places, .ref y_comesAt, .ref y_yardsIn, .long y_g]), (y_supper, kI k 8 y_supperF), (y_kind, kI k 12 y_kindF), (y_s, kI k 46 y_sF)] → va_S A s.heap H locs → lv_has ls 4 [(0, .ref y), (1, .int l1_20), (2, .int (nI l2_4))] → W p l e R s m args below meth c H locs 0 0 Q (F0 m 97 ls [.int (bB s0_97)]) := by
                intro s0_97 H locs ls hZ hP hD hS hl
                refine lv_istore_n (lv' := [(3, .int (bB s0_97)), (0, .ref y), (1, .int l1_20), (2, .int (nI l2_4))]) hx hb dX9_cookNow_97 rfl hl (by decide) rfl (fun ls hl => ?_)
                refine lv_iload_n hx hb dX9_cookNow_98 rfl (lv_at hl 0 rfl) ?_
                have hj104_8 : ∀ (l1_104 : Int32) (H : Heap) (locs : List Loc) (ls : Array Slot), (0 ≤ Int32.toInt l1_104 ∧ Int32.toInt l1_104 ≤ 5) → ((fX9_cookNow_J104a l2_4 rc4_1) l1_104 = E0) → va_P D vwCl [(y, kO 9 [.int y_thrown, .int (nI y_taped), .ref y_tape, .int (nI y_size), .int (nI y_place), .int (nI y_begin), .int (nI y_token), .long y_word, .int y_told, .int y_wrong, .ref y_supper, .ref y_guestName, .ref y_kind, .ref y_offTold, .ref y_pace, .ref y_cooks, .ref y_snow, .ref y_lineFrom, .ref y_lineTo, .ref y_codes, .int (nI y_code), .int y_toldLines, .ref y_opened, .ref y_compared, .ref y_kept, .ref y_keptBy, .ref y_ahead, .ref y_against, .ref y_sum, .ref y_sumBy, .ref y_term, .ref y_termBy, .ref y_byNot, .ref y_valueOf, .int y_given, .ref y_lines, .ref y_lineWhat, .ref y_lineA, .ref y_lineB, .ref y_seens, .ref y_seenIn, .ref y_seenYards, .ref y_seenNear, .ref y_s, .ref y_aside, .ref y_before, .ref y_marked, .ref y_undone, .ref y_isLaid, .int (nI y_done), .int y_snowNow, .int y_cameNow, .int y_cookThen, .int y_tasteThen, .ref y_places, .ref y_comesAt, .ref y_yardsIn, .long y_g]), (y_supper, kI k 8 y_supperF), (y_kind, kI k 12 y_kindF), (y_s, kI k 46 y_sF)] H → va_D A [(y, kO 9 [.int y_thrown, .int (nI y_taped), .ref y_tape, .int (nI y_size), .int (nI y_place), .int (nI y_begin), .int (nI y_token), .long y_word, .int y_told, .int y_wrong, .ref y_supper, .ref y_guestName, .ref y_kind, .ref y_offTold, .ref y_pace, .ref y_cooks, .ref y_snow, .ref y_lineFrom, .ref y_lineTo, .ref y_codes, .int (nI y_code), .int y_toldLines, .ref y_opened, .ref y_compared, .ref y_kept, .ref y_keptBy, .ref y_ahead, .ref y_against, .ref y_sum, .ref y_sumBy, .ref y_term, .ref y_termBy, .ref y_byNot, .ref y_valueOf, .int y_given, .ref y_lines, .ref y_lineWhat, .ref y_lineA, .ref y_lineB, .ref y_seens, .ref y_seenIn, .ref y_seenYards, .ref y_seenNear, .ref y_s, .ref y_aside, .ref y_before, .ref y_marked, .ref y_undone, .ref y_isLaid, .int (nI y_done), .int y_snowNow, .int y_cameNow, .int y_cookThen, .int y_tasteThen, .ref y_places, .ref y_comesAt, .ref y_yardsIn, .long y_g]), (y_supper, kI k 8 y_supperF), (y_kind, kI k 12 y_kindF), (y_s, kI k 46 y_sF)] → va_S A s.heap H locs → lv_has ls 4 [(0, .ref y), (1, .int l1_104), (2, .int (nI l2_4)), (3, .int (bB s0_97))] → W p l e R s m args below meth c H locs 0 0 Q (F0 m 104 ls []) := by
                  intro l1_104 H locs ls i_l1_104 hZ hP hD hS hl
                  refine lv_iinc (v := (nI (l2_4 + 1))) (lv' := [(2, .int (nI (l2_4 + 1))), (0, .ref y), (1, .int l1_104), (3, .int (bB s0_97))]) hx hb dX9_cookNow_104 hl (k := 2) rfl (nI_1 _) (by decide) rfl (fun ls hl => ?_)
                  refine lv_goto (tgt := 4) hx hb dX9_cookNow_107 (by decide) ?_
                  exact ih4 l1_104 (l2_4 + 1) _ _ _ (by omega) (by first | omega | assumption) (by first | omega | assumption) (by first | omega | assumption) (by rw [← hrc4_1]; exact hZ) (hP.sub [0, 1, 2, 3] rfl) (hD.sub [0, 1, 2, 3] (by decide) rfl) hS (lv_sub hl [1, 2, 0] rfl)
                refine lv_if_eq (tgt := 104) hx hb dX9_cookNow_99 (by decide) (fun c_9 => ?_) (fun c_9 => ?_)
                · skip
                  have b_9 : s0_97 = false := bB_0 c_9
                  have hZ := (if_neg (bF b_9)).symm.trans hZ
                  exact hj104_8 l1_20 _ _ _ (by first | omega | assumption) hZ (hP.sub [0, 1, 2, 3] rfl) (hD.sub [0, 1, 2, 3] (by decide) rfl) hS (lv_sub hl [1, 2, 3, 0] rfl)
                · skip
                  have b_9 : s0_97 = true := bB_1 c_9
                  have hZ := (if_pos b_9).symm.trans hZ
                  refine lv_iload_n hx hb dX9_cookNow_102 rfl (lv_at hl 3 rfl) ?_
                  refine lv_istore_n (lv' := [(1, .int (nI l2_4)), (3, .int (bB s0_97)), (0, .ref y), (2, .int (nI l2_4))]) hx hb dX9_cookNow_103 rfl hl (by decide) rfl (fun ls hl => ?_)
                  have tq10 : Int32.toInt (nI l2_4) = ((l2_4 : Nat) : Int) := nI_toInt (by omega)
                  exact hj104_8 (nI l2_4) _ _ _ (by first | omega | assumption) hZ (hP.sub [0, 1, 2, 3] rfl) (hD.sub [0, 1, 2, 3] (by decide) rfl) hS (lv_sub hl [2, 0, 3, 1] rfl)
              refine lv_icmp_eq (tgt := 71) hx hb dX9_cookNow_50 (by decide) (fun c_11 => ?_) (fun c_11 => ?_)
              · skip
                have t_11 : (Int32.toInt (bB s0_35)) = (Int32.toInt (bB s1_50)) := tI_eq rfl rfl c_11
                have hZ := (if_pos c_11).symm.trans hZ
                refine lv_aload_n hx hb dX9_cookNow_71 rfl (lv_at hl 0 rfl) ?_
                refine va_get (D := D) (ci := 9) (v := .ref y_s) (C := RX9) (T := TX9) (N := 58) hx hb hts hi9 hown hK hP 0 rfl rfl 43 (by decide) lf105 (fun _ h9 => h9) rfl dX9_cookNow_72 ?_
                refine lv_bipush (v := 10) hx hb dX9_cookNow_75 (by decide) ?_
                refine lv_iload_n hx hb dX9_cookNow_77 rfl (lv_at hl 2 rfl) ?_
                refine lv_iadd hx hb dX9_cookNow_78 ?_
                refine lv_topi (fun x12 ex12 => ?_)
                obtain rfl : x12 = (nI (10 + l2_4)) := ex12.trans (nI_add 10 l2_4)
                refine va_iald hx hb hK hP 3 0 rfl rfl (vp_in_nI (n := (10 + l2_4)) (by omega) (by omega)) dX9_cookNow_79 ?_
                refine lv_aload_n hx hb dX9_cookNow_80 rfl (lv_at hl 0 rfl) ?_
                refine va_get (D := D) (ci := 9) (v := .ref y_s) (C := RX9) (T := TX9) (N := 58) hx hb hts hi9 hown hK hP 0 rfl rfl 43 (by decide) lf105 (fun _ h9 => h9) rfl dX9_cookNow_81 ?_
                refine lv_bipush (v := 10) hx hb dX9_cookNow_84 (by decide) ?_
                refine lv_iload_n hx hb dX9_cookNow_86 rfl (lv_at hl 1 rfl) ?_
                refine lv_iadd hx hb dX9_cookNow_87 ?_
                try have ta_13 : Int32.toInt (10 + l1_20) = 10 + (Int32.toInt l1_20) := tI_add (by decide) rfl (by omega) (by omega)
                refine va_iald hx hb hK hP 3 0 rfl rfl (vp_in_iff.mpr (by omega)) dX9_cookNow_88 ?_
                refine lv_icmp_le (tgt := 96) hx hb dX9_cookNow_89 (by decide) (fun c_14 => ?_) (fun c_14 => ?_)
                · skip
                  have t_14 : (Int32.toInt (y_sF (Int32.toNatClampNeg (nI (10 + l2_4))))) ≤ (Int32.toInt (y_sF (Int32.toNatClampNeg (10 + l1_20)))) := tI_le rfl rfl c_14
                  have hZ := (if_pos c_14).symm.trans hZ
                  refine lv_iconst (v := 0) hx hb dX9_cookNow_96 (by decide) ?_
                  exact hj97_7 false _ _ _ hZ (hP.sub [0, 1, 2, 3] rfl) (hD.sub [0, 1, 2, 3] (by decide) rfl) hS (lv_sub hl [0, 1, 2] rfl)
                · skip
                  have t_14 : (Int32.toInt (y_sF (Int32.toNatClampNeg (nI (10 + l2_4))))) > (Int32.toInt (y_sF (Int32.toNatClampNeg (10 + l1_20)))) := tI_nle rfl rfl c_14
                  have hZ := (if_neg c_14).symm.trans hZ
                  refine lv_iconst (v := 1) hx hb dX9_cookNow_92 (by decide) ?_
                  refine lv_goto (tgt := 97) hx hb dX9_cookNow_93 (by decide) ?_
                  exact hj97_7 true _ _ _ hZ (hP.sub [0, 1, 2, 3] rfl) (hD.sub [0, 1, 2, 3] (by decide) rfl) hS (lv_sub hl [0, 1, 2] rfl)
              · skip
                have t_11 : (Int32.toInt (bB s0_35)) ≠ (Int32.toInt (bB s1_50)) := tI_ne rfl rfl c_11
                have hZ := (if_neg c_11).symm.trans hZ
                refine lv_aload_n hx hb dX9_cookNow_53 rfl (lv_at hl 0 rfl) ?_
                refine va_get (D := D) (ci := 9) (v := .ref y_kind) (C := RX9) (T := TX9) (N := 58) hx hb hts hi9 hown hK hP 0 rfl rfl 12 (by decide) lf20 (fun _ h9 => h9) rfl dX9_cookNow_54 ?_
                refine lv_iload_n hx hb dX9_cookNow_57 rfl (lv_at hl 1 rfl) ?_
                refine va_iald hx hb hK hP 2 0 rfl rfl (vp_in_iff.mpr (by omega)) dX9_cookNow_58 ?_
                refine lv_iconst (v := 1) hx hb dX9_cookNow_59 (by decide) ?_
                refine lv_icmp_ne (tgt := 67) hx hb dX9_cookNow_60 (by decide) (fun c_15 => ?_) (fun c_15 => ?_)
                · skip
                  have t_15 : (Int32.toInt (y_kindF (Int32.toNatClampNeg l1_20))) ≠ 1 := tI_ne rfl (by decide) c_15
                  have hZ := (if_neg c_15).symm.trans hZ
                  refine lv_iconst (v := 0) hx hb dX9_cookNow_67 (by decide) ?_
                  refine lv_goto (tgt := 97) hx hb dX9_cookNow_68 (by decide) ?_
                  exact hj97_7 false _ _ _ hZ (hP.sub [0, 1, 2, 3] rfl) (hD.sub [0, 1, 2, 3] (by decide) rfl) hS (lv_sub hl [0, 1, 2] rfl)
                · skip
                  have t_15 : (Int32.toInt (y_kindF (Int32.toNatClampNeg l1_20))) = 1 := tI_eq rfl (by decide) c_15
                  have hZ := (if_pos c_15).symm.trans hZ
                  refine lv_iconst (v := 1) hx hb dX9_cookNow_63 (by decide) ?_
                  refine lv_goto (tgt := 97) hx hb dX9_cookNow_64 (by decide) ?_
                  exact hj97_7 true _ _ _ hZ (hP.sub [0, 1, 2, 3] rfl) (hD.sub [0, 1, 2, 3] (by decide) rfl) hS (lv_sub hl [0, 1, 2] rfl)
            refine lv_icmp_ne (tgt := 49) hx hb dX9_cookNow_42 (by decide) (fun c_16 => ?_) (fun c_16 => ?_)
            · skip
              have t_16 : (Int32.toInt (y_kindF (Int32.toNatClampNeg l1_20))) ≠ 1 := tI_ne rfl (by decide) c_16
              have hZ := (if_neg c_16).symm.trans hZ
              refine lv_iconst (v := 0) hx hb dX9_cookNow_49 (by decide) ?_
              exact hj50_6 false _ _ _ hZ (hP.sub [0, 1, 2, 3] rfl) (hD.sub [0, 1, 2, 3] (by decide) rfl) hS (lv_sub hl [0, 1, 2] rfl)
            · skip
              have t_16 : (Int32.toInt (y_kindF (Int32.toNatClampNeg l1_20))) = 1 := tI_eq rfl (by decide) c_16
              have hZ := (if_pos c_16).symm.trans hZ
              refine lv_iconst (v := 1) hx hb dX9_cookNow_45 (by decide) ?_
              refine lv_goto (tgt := 50) hx hb dX9_cookNow_46 (by decide) ?_
              exact hj50_6 true _ _ _ hZ (hP.sub [0, 1, 2, 3] rfl) (hD.sub [0, 1, 2, 3] (by decide) rfl) hS (lv_sub hl [0, 1, 2] rfl)
          refine lv_icmp_ne (tgt := 34) hx hb dX9_cookNow_27 (by decide) (fun c_17 => ?_) (fun c_17 => ?_)
          · skip
            have t_17 : (Int32.toInt (y_kindF (Int32.toNatClampNeg (nI l2_4)))) ≠ 1 := tI_ne rfl (by decide) c_17
            have hZ := (if_neg c_17).symm.trans hZ
            refine lv_iconst (v := 0) hx hb dX9_cookNow_34 (by decide) ?_
            exact hj35_5 false _ _ _ hZ (hP.sub [0, 1, 2, 3] rfl) (hD.sub [0, 1, 2, 3] (by decide) rfl) hS (lv_sub hl [0, 1, 2] rfl)
          · skip
            have t_17 : (Int32.toInt (y_kindF (Int32.toNatClampNeg (nI l2_4)))) = 1 := tI_eq rfl (by decide) c_17
            have hZ := (if_pos c_17).symm.trans hZ
            refine lv_iconst (v := 1) hx hb dX9_cookNow_30 (by decide) ?_
            refine lv_goto (tgt := 35) hx hb dX9_cookNow_31 (by decide) ?_
            exact hj35_5 true _ _ _ hZ (hP.sub [0, 1, 2, 3] rfl) (hD.sub [0, 1, 2, 3] (by decide) rfl) hS (lv_sub hl [0, 1, 2] rfl)
        refine lv_if_ge (tgt := 20) hx hb dX9_cookNow_15 (by decide) (fun c_18 => ?_) (fun c_18 => ?_)
        · skip
          have t_18 : 0 ≤ (Int32.toInt l1_4) := tI_le (by decide) rfl c_18
          have hZ := (if_pos c_18).symm.trans hZ
          exact hj20_4 l1_4 _ _ _ (by first | omega | assumption) hZ (hP.sub [0, 1, 2, 3] rfl) (hD.sub [0, 1, 2, 3] (by decide) rfl) hS (lv_sub hl [0, 1, 2] rfl)
        · skip
          have t_18 : 0 > (Int32.toInt l1_4) := tI_nle (by decide) rfl c_18
          have hZ := (if_neg c_18).symm.trans hZ
          refine lv_iload_n hx hb dX9_cookNow_18 rfl (lv_at hl 2 rfl) ?_
          refine lv_istore_n (lv' := [(1, .int (nI l2_4)), (0, .ref y), (2, .int (nI l2_4))]) hx hb dX9_cookNow_19 rfl hl (by decide) rfl (fun ls hl => ?_)
          have tq19 : Int32.toInt (nI l2_4) = ((l2_4 : Nat) : Int) := nI_toInt (by omega)
          exact hj20_4 (nI l2_4) _ _ _ (by first | omega | assumption) hZ (hP.sub [0, 1, 2, 3] rfl) (hD.sub [0, 1, 2, 3] (by decide) rfl) hS (lv_sub hl [1, 0, 2] rfl)
  have tq20 : Int32.toInt (-1) = (-1) := by decide
  exact hloop4 ((6 + 1 - 0) + 1) ((-1) : Int32) 0 _ _ _ (Nat.lt_succ_self _) (by first | omega | assumption) (by first | omega | assumption) (by first | omega | assumption) hZ (hP.sub [0, 1, 2, 3] rfl) (hD.sub [0, 1, 2, 3] (by decide) rfl) hS (lv_sub hl [2, 1, 0] rfl)
