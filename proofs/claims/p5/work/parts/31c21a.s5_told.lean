theorem dX7_readBend_0 : decode cX7_readBend 0 = .ok (.aload_n 0, 1) := by decide +kernel
theorem dX7_readBend_1 : decode cX7_readBend 1 = .ok (.getfield 54, 3) := by decide +kernel
theorem dX7_readBend_4 : decode cX7_readBend 4 = .ok (.ifCond .eq 9, 3) := by decide +kernel
theorem dX7_readBend_7 : decode cX7_readBend 7 = .ok (.aload_n 1, 1) := by decide +kernel
theorem dX7_readBend_8 : decode cX7_readBend 8 = .ok (.iconst 3, 1) := by decide +kernel
theorem dX7_readBend_9 : decode cX7_readBend 9 = .ok (.invokevirtual 92, 3) := by decide +kernel
theorem dX7_readBend_12 : decode cX7_readBend 12 = .ok (.ireturn, 1) := by decide +kernel
theorem dX7_readBend_13 : decode cX7_readBend 13 = .ok (.aload_n 0, 1) := by decide +kernel
theorem dX7_readBend_14 : decode cX7_readBend 14 = .ok (.iconst 1, 1) := by decide +kernel
theorem dX7_readBend_15 : decode cX7_readBend 15 = .ok (.putfield 54, 3) := by decide +kernel
theorem dX7_readBend_18 : decode cX7_readBend 18 = .ok (.aload_n 0, 1) := by decide +kernel
theorem dX7_readBend_19 : decode cX7_readBend 19 = .ok (.aload_n 1, 1) := by decide +kernel
theorem dX7_readBend_20 : decode cX7_readBend 20 = .ok (.iconst 4, 1) := by decide +kernel
theorem dX7_readBend_21 : decode cX7_readBend 21 = .ok (.iconst 1, 1) := by decide +kernel
theorem dX7_readBend_22 : decode cX7_readBend 22 = .ok (.bipush 50, 2) := by decide +kernel
theorem dX7_readBend_24 : decode cX7_readBend 24 = .ok (.invokestatic 114, 3) := by decide +kernel
theorem dX7_readBend_27 : decode cX7_readBend 27 = .ok (.putfield 38, 3) := by decide +kernel
theorem dX7_readBend_30 : decode cX7_readBend 30 = .ok (.aload_n 0, 1) := by decide +kernel
theorem dX7_readBend_31 : decode cX7_readBend 31 = .ok (.getfield 38, 3) := by decide +kernel
theorem dX7_readBend_34 : decode cX7_readBend 34 = .ok (.iconst (-1), 1) := by decide +kernel
theorem dX7_readBend_35 : decode cX7_readBend 35 = .ok (.if_icmp .eq 7, 3) := by decide +kernel
theorem dX7_readBend_38 : decode cX7_readBend 38 = .ok (.iconst 1, 1) := by decide +kernel
theorem dX7_readBend_39 : decode cX7_readBend 39 = .ok (.goto 4, 3) := by decide +kernel
theorem dX7_readBend_42 : decode cX7_readBend 42 = .ok (.iconst 0, 1) := by decide +kernel
theorem dX7_readBend_43 : decode cX7_readBend 43 = .ok (.ireturn, 1) := by decide +kernel
set_option maxRecDepth 20000 in
theorem ggX7_readBend_X7_readMeasure : GoodIn wsX7_readBend wsX7_readMeasure := goodIn_r _ [13, 14, 15, 16, 6, 17, 18, 19, 20, 21, 22, 23, 24, 4, 5, 7, 8, 9, 25, 26, 27, 28, 29, 30, 31, 32, 33, 34, 35, 36, 37, 38, 39, 40, 41, 42, 43, 44, 45, 46, 47, 48, 49, 50, 51, 52, 53, 54, 55, 56, 57, 58, 59, 60, 61, 62, 63, 64, 65, 66, 67, 68, 69, 70, 71, 72, 73, 74, 75, 76, 77, 78, 79, 80, 81, 82, 83, 84, 85, 86, 87, 88, 89, 90, 91, 92, 93, 94, 95, 96, 97, 98, 99, 100, 101, 102, 103, 104, 105, 106, 107, 108, 109, 110, 111, 112, 113, 114, 115, 116, 117, 118, 119, 120, 121, 122, 123, 124, 125, 126, 127, 128, 129, 130, 131, 132, 133, 134, 135, 136, 137, 138, 139, 140, 141, 142, 143, 144, 145, 146, 147, 148, 149, 150, 151, 165, 166, 167, 168, 169, 170, 171, 172, 173] rfl (by decide +kernel)
set_option maxRecDepth 20000 in
theorem gX7_readBend_X7_readMeasure : GoodIn wsX7_readBend (va_wsS RX7 114 yX7_readMeasure wsX7_readMeasure) := goodIn_app (goodIn_of _ (by decide +kernel)) ggX7_readBend_X7_readMeasure
set_option maxRecDepth 20000 in
theorem ggX7_readBend_X6_wrong : GoodIn wsX7_readBend wsX6_wrong := goodIn_r _ [7, 8, 9, 165, 166, 167, 168, 169, 170, 171, 172, 173] rfl (by decide +kernel)
set_option maxRecDepth 20000 in
theorem gX7_readBend_X6_wrong : GoodIn wsX7_readBend (wsV RX7 92 RX6 yX6_wrong wsX6_wrong) := goodIn_app (goodIn_of _ (by decide +kernel)) ggX7_readBend_X6_wrong
set_option maxHeartbeats 4000000 in
set_option maxRecDepth 100000 in
theorem sX7_readBend (l : Launch) (D : va_G) (k : Nat → ClassId) (a0 sa sv : Nat) (f : Nat → Int32) (sz : Nat) (t : Nat) (ta : Nat) (t_names : Nat) (t_kinds : Nat) (t_yards : Nat) (t_paces : Nat) (t_skills : Nat) (t_snow : Nat) (tw : Nat) (t_guests : Nat) (t_snows : Nat) (t_bend : Int32) (t_hour : Int32) (t_bendTold : Bool) (t_hourTold : Bool) (ta_signs : Nat) (ta_words : Nat) (ta_length : Nat) (ta_next : Nat) (ta_place : Int32) (ta_kind : Int32) (ta_value : Int32) (ta_letters : Int64) (ta_fault : Int32) (ta_signsF : Nat → Int32) (ta_wordsF : Nat → Int64) (h_t_guests : t_guests ≤ 6) (h_t_snows : t_snows ≤ 12) (h_ta_length : ta_length ≤ 1000) (h_ta_next : ta_next ≤ 1000) : Met l yX7_readBend wsX7_readBend ({ frames := 7, cells := 0, slots := 0, locals := 490 }) (va_Pc [.ref t, .ref ta] (kz_PreY D k [(t, kO 7 [.ref t_names, .ref t_kinds, .ref t_yards, .ref t_paces, .ref t_skills, .ref t_snow, .ref tw, .int (nI t_guests), .int (nI t_snows), .int t_bend, .int t_hour, .int (bB t_bendTold), .int (bB t_hourTold)]), (ta, kO 6 [.ref ta_signs, .ref ta_words, .int (nI ta_length), .int (nI ta_next), .int ta_place, .int ta_kind, .int ta_value, .long ta_letters, .int ta_fault]), (ta_signs, kB k 1000 ta_signsF), (ta_words, kJ k 23 ta_wordsF)] a0 sa sv f sz)) (va_Qi (fun (rr : Int32) (uu : Int32 × Bool × Nat × Int32 × Int32 × Int32 × Int64 × Int32 × Bool) => rr = bB uu.2.2.2.2.2.2.2.2 ∧ (uu.2.2.1 ≤ 1000) ∧ ((uu.1, uu.2.1, uu.2.2.1, uu.2.2.2.1, uu.2.2.2.2.1, uu.2.2.2.2.2.1, uu.2.2.2.2.2.2.1, uu.2.2.2.2.2.2.2.1, uu.2.2.2.2.2.2.2.2) = (fX7_readBend t_bend t_bendTold ta_length ta_next ta_place ta_kind ta_value ta_letters ta_fault ta_signsF ta_wordsF f))) (fun uu zt => kz_B D (va_A [(t, kO 7 [.ref t_names, .ref t_kinds, .ref t_yards, .ref t_paces, .ref t_skills, .ref t_snow, .ref tw, .int (nI t_guests), .int (nI t_snows), .int t_bend, .int t_hour, .int (bB t_bendTold), .int (bB t_hourTold)]), (ta, kO 6 [.ref ta_signs, .ref ta_words, .int (nI ta_length), .int (nI ta_next), .int ta_place, .int ta_kind, .int ta_value, .long ta_letters, .int ta_fault]), (ta_signs, kB k 1000 ta_signsF), (ta_words, kJ k 23 ta_wordsF)] sz) [(t, kO 7 [.ref t_names, .ref t_kinds, .ref t_yards, .ref t_paces, .ref t_skills, .ref t_snow, .ref tw, .int (nI t_guests), .int (nI t_snows), .int uu.1, .int t_hour, .int (bB uu.2.1), .int (bB t_hourTold)]), (ta, kO 6 [.ref ta_signs, .ref ta_words, .int (nI ta_length), .int (nI uu.2.2.1), .int uu.2.2.2.1, .int uu.2.2.2.2.1, .int uu.2.2.2.2.2.1, .long uu.2.2.2.2.2.2.1, .int uu.2.2.2.2.2.2.2.1]), (ta_signs, kB k 1000 ta_signsF), (ta_words, kJ k 23 ta_wordsF)] zt) (va_A [(t, kO 7 [.ref t_names, .ref t_kinds, .ref t_yards, .ref t_paces, .ref t_skills, .ref t_snow, .ref tw, .int (nI t_guests), .int (nI t_snows), .int t_bend, .int t_hour, .int (bB t_bendTold), .int (bB t_hourTold)]), (ta, kO 6 [.ref ta_signs, .ref ta_words, .int (nI ta_length), .int (nI ta_next), .int ta_place, .int ta_kind, .int ta_value, .long ta_letters, .int ta_fault]), (ta_signs, kB k 1000 ta_signsF), (ta_words, kJ k 23 ta_wordsF)] sz)) 0 0 (va_A [(t, kO 7 [.ref t_names, .ref t_kinds, .ref t_yards, .ref t_paces, .ref t_skills, .ref t_snow, .ref tw, .int (nI t_guests), .int (nI t_snows), .int t_bend, .int t_hour, .int (bB t_bendTold), .int (bB t_hourTold)]), (ta, kO 6 [.ref ta_signs, .ref ta_words, .int (nI ta_length), .int (nI ta_next), .int ta_place, .int ta_kind, .int ta_value, .long ta_letters, .int ta_fault]), (ta_signs, kB k 1000 ta_signsF), (ta_words, kJ k 23 ta_wordsF)] sz) := by
  refine Met.ofW (cc := cX7_readBend) (maxL := 2) (ret := (some .boolean)) (by decide) rfl ?_
  intro p e s m args below meth c s₁ B hml hv
  obtain ⟨hav, ⟨hsz, hP, hK, hD0, hE⟩, ha0, hDa, hX⟩ := hv
  have hx := B.exec
  have hb := B.bytes
  have hr := B.returns
  have hts := atoms_spec (ws := wsX7_readBend) B.pre
  have hown : s.vm.findClass RX7 = some m.cls := findClass_of_methodNamed B.named
  have hlocks := B.notSynchronized
  have hi7 : ∀ w ∈ u_ws RX7 TX7 13, w ∈ wsX7_readBend := by decide +kernel
  have lf54 := hts (.fieldLink RX7 54 "LastCook$Told" "bendTold" "Z") (by decide +kernel)
  have lf38 := hts (.fieldLink RX7 38 "LastCook$Told" "bend" "I") (by decide +kernel)
  subst hsz
  have hD := hD0.self (sz := s.heap.size)
  generalize hAe : va_A [(t, kO 7 [.ref t_names, .ref t_kinds, .ref t_yards, .ref t_paces, .ref t_skills, .ref t_snow, .ref tw, .int (nI t_guests), .int (nI t_snows), .int t_bend, .int t_hour, .int (bB t_bendTold), .int (bB t_hourTold)]), (ta, kO 6 [.ref ta_signs, .ref ta_words, .int (nI ta_length), .int (nI ta_next), .int ta_place, .int ta_kind, .int ta_value, .long ta_letters, .int ta_fault]), (ta_signs, kB k 1000 ta_signsF), (ta_words, kJ k 23 ta_wordsF)] s.heap.size = A at hD ⊢
  have hA : ∀ q : Nat, s.heap.size ≤ q → A q := fun q h => by rw [← hAe]; exact Or.inr h
  have hAX : ∀ q, A q → a0 ≤ q := fun q h => by rw [← hAe] at h; exact h.elim (fun ⟨k9, e9, h9⟩ => hDa.2 k9 _ h9) (fun e => Nat.le_trans ha0 e)
  obtain ⟨tx71, hR71⟩ := hX.1
  have hS : va_S A s.heap s.heap [] := va_S.rf
  have hl := lv_entry ([.ref t, .ref ta]) (n := 2) (Nat.le_of_ble_eq_true rfl)
  rw [show entryFrame m args 2 = entryFrame m ([.ref t, .ref ta] : List Value).toArray 2 by rw [hav], lg_entry_eq]
  generalize (lg_sl ([.ref t, .ref ta]) ++ List.replicate (2 - (lg_sl ([.ref t, .ref ta])).length) Slot.unset).toArray = ls at hl ⊢
  have hl : lv_has ls 2 [(0, .ref t), (1, .ref ta)] := hl
  obtain ⟨R, hR⟩ : ∃ R, R = (headSpec wsX7_readBend ({ frames := 7, cells := 0, slots := 0, locals := 490 } : Room)).room := ⟨_, rfl⟩
  rw [← hR]
  generalize hQ : MQ below _ args s 0 0 A = Q
  replace hQ := hQ.symm
  obtain ⟨H, hH⟩ : ∃ H, H = s.heap := ⟨_, rfl⟩
  rw [← hH] at hP ⊢
  have hS : va_S A s.heap H [] := by rw [hH]; exact hS
  obtain ⟨E0, hE0⟩ : ∃ E0 : Int32 × Bool × Nat × Int32 × Int32 × Int32 × Int64 × Int32 × Bool, E0 = (fX7_readBend t_bend t_bendTold ta_length ta_next ta_place ta_kind ta_value ta_letters ta_fault ta_signsF ta_wordsF f) := ⟨_, rfl⟩
  have hZ : (fX7_readBend t_bend t_bendTold ta_length ta_next ta_place ta_kind ta_value ta_letters ta_fault ta_signsF ta_wordsF f) = E0 := hE0.symm
  refine lv_aload_n hx hb dX7_readBend_0 rfl (lv_at hl 0 rfl) ?_
  refine va_get (D := D) (ci := 7) (v := .int (bB t_bendTold)) (C := RX7) (T := TX7) (N := 13) hx hb hts hi7 hown hK hP 0 rfl rfl 11 (by decide) lf54 (fun _ h9 => h9) rfl dX7_readBend_1 ?_
  refine lv_if_eq (tgt := 13) hx hb dX7_readBend_4 (by decide) (fun c_1 => ?_) (fun c_1 => ?_)
  · skip
    have b_1 : t_bendTold = false := bB_0 c_1
    have hZ := (if_neg (bF b_1)).symm.trans hZ
    refine lv_aload_n hx hb dX7_readBend_13 rfl (lv_at hl 0 rfl) ?_
    refine lv_iconst (v := 1) hx hb dX7_readBend_14 (by decide) ?_
    refine va_put (D := D) (ci := 7) (v := .int 1) (ty := .boolean) (C := RX7) (T := TX7) (N := 13) hx hb hts hi7 tyX7 tyX7_ok nmX7 hown hK hP hD hS 0 rfl rfl 11 (by decide) lf54 (fun _ h9 => h9) rfl (by decide +kernel) rfl rfl (Nat.le_of_ble_eq_true rfl) dX7_readBend_15 (fun H locs hP hD hS => ?_)
    have hP : va_P D vwCl [(t, kO 7 [.ref t_names, .ref t_kinds, .ref t_yards, .ref t_paces, .ref t_skills, .ref t_snow, .ref tw, .int (nI t_guests), .int (nI t_snows), .int t_bend, .int t_hour, .int 1, .int (bB t_hourTold)]), (ta, kO 6 [.ref ta_signs, .ref ta_words, .int (nI ta_length), .int (nI ta_next), .int ta_place, .int ta_kind, .int ta_value, .long ta_letters, .int ta_fault]), (ta_signs, kB k 1000 ta_signsF), (ta_words, kJ k 23 ta_wordsF)] H := hP
    have hD : va_D A [(t, kO 7 [.ref t_names, .ref t_kinds, .ref t_yards, .ref t_paces, .ref t_skills, .ref t_snow, .ref tw, .int (nI t_guests), .int (nI t_snows), .int t_bend, .int t_hour, .int 1, .int (bB t_hourTold)]), (ta, kO 6 [.ref ta_signs, .ref ta_words, .int (nI ta_length), .int (nI ta_next), .int ta_place, .int ta_kind, .int ta_value, .long ta_letters, .int ta_fault]), (ta_signs, kB k 1000 ta_signsF), (ta_words, kJ k 23 ta_wordsF)] := hD
    refine lv_aload_n hx hb dX7_readBend_18 rfl (lv_at hl 0 rfl) ?_
    refine lv_aload_n hx hb dX7_readBend_19 rfl (lv_at hl 1 rfl) ?_
    refine lv_iconst (v := 4) hx hb dX7_readBend_20 (by decide) ?_
    refine lv_iconst (v := 1) hx hb dX7_readBend_21 (by decide) ?_
    refine lv_bipush (v := 50) hx hb dX7_readBend_22 (by decide) ?_
    refine kz_SiY (As := [.ref ta, .int 4, .int 1, .int 50]) (rest := [.ref t]) (wc := [(ta, kO 6 [.ref ta_signs, .ref ta_words, .int (nI ta_length), .int (nI ta_next), .int ta_place, .int ta_kind, .int ta_value, .long ta_letters, .int ta_fault]), (ta_signs, kB k 1000 ta_signsF), (ta_words, kJ k 23 ta_wordsF)]) (wr := [(t, kO 7 [.ref t_names, .ref t_kinds, .ref t_yards, .ref t_paces, .ref t_skills, .ref t_snow, .ref tw, .int (nI t_guests), .int (nI t_snows), .int t_bend, .int t_hour, .int 1, .int (bB t_hourTold)])]) ⟨hx, hb, hml, hown, hts⟩ hX hAX ha0 hK hE hP hD hS hA (sX7_readMeasure l D k a0 sa sv f H.size ta 4 1 50 ta_signs ta_words ta_length ta_next ta_place ta_kind ta_value ta_letters ta_fault ta_signsF ta_wordsF (by first | omega | assumption | decide) (by first | omega | assumption | decide)) (va_cwS 4 hts gX7_readBend_X7_readMeasure rfl rfl rfl (by decide +kernel) (by rw [hR]; exact ⟨Nat.le_of_ble_eq_true rfl, Nat.le_of_ble_eq_true rfl⟩)) [1, 2, 3] [0] rfl rfl (by decide) (by decide) (by decide) rfl hl.1 rfl (Nat.le_of_ble_eq_true rfl) dX7_readBend_24 (by rw [hR]; exact ⟨Nat.le_of_ble_eq_true rfl, Nat.le_of_ble_eq_true rfl⟩) (fun r2 u2 H locs hw2 hP hD hS => ?_)
    obtain ⟨u_ta_32, u_ta_42, u_ta_52, u_ta_62, u_ta_72, u_ta_82⟩ := u2
    try dsimp only at hw2
    have hP : va_P D vwCl [(t, kO 7 [.ref t_names, .ref t_kinds, .ref t_yards, .ref t_paces, .ref t_skills, .ref t_snow, .ref tw, .int (nI t_guests), .int (nI t_snows), .int t_bend, .int t_hour, .int 1, .int (bB t_hourTold)]), (ta, kO 6 [.ref ta_signs, .ref ta_words, .int (nI ta_length), .int (nI u_ta_32), .int u_ta_42, .int u_ta_52, .int u_ta_62, .long u_ta_72, .int u_ta_82]), (ta_signs, kB k 1000 ta_signsF), (ta_words, kJ k 23 ta_wordsF)] H := hP
    have hD : va_D A [(t, kO 7 [.ref t_names, .ref t_kinds, .ref t_yards, .ref t_paces, .ref t_skills, .ref t_snow, .ref tw, .int (nI t_guests), .int (nI t_snows), .int t_bend, .int t_hour, .int 1, .int (bB t_hourTold)]), (ta, kO 6 [.ref ta_signs, .ref ta_words, .int (nI ta_length), .int (nI u_ta_32), .int u_ta_42, .int u_ta_52, .int u_ta_62, .long u_ta_72, .int u_ta_82]), (ta_signs, kB k 1000 ta_signsF), (ta_words, kJ k 23 ta_wordsF)] := hD
    obtain ⟨hw2_0, hw2_1⟩ := hw2
    have hZ := bn7_e hw2_1 hZ
    refine va_put (D := D) (ci := 7) (v := .int r2) (ty := .int) (C := RX7) (T := TX7) (N := 13) hx hb hts hi7 tyX7 tyX7_ok nmX7 hown hK hP hD hS 0 rfl rfl 9 (by decide) lf38 (fun _ h9 => h9) rfl (by decide +kernel) rfl rfl (Nat.le_of_ble_eq_true rfl) dX7_readBend_27 (fun H locs hP hD hS => ?_)
    have hP : va_P D vwCl [(t, kO 7 [.ref t_names, .ref t_kinds, .ref t_yards, .ref t_paces, .ref t_skills, .ref t_snow, .ref tw, .int (nI t_guests), .int (nI t_snows), .int r2, .int t_hour, .int 1, .int (bB t_hourTold)]), (ta, kO 6 [.ref ta_signs, .ref ta_words, .int (nI ta_length), .int (nI u_ta_32), .int u_ta_42, .int u_ta_52, .int u_ta_62, .long u_ta_72, .int u_ta_82]), (ta_signs, kB k 1000 ta_signsF), (ta_words, kJ k 23 ta_wordsF)] H := hP
    have hD : va_D A [(t, kO 7 [.ref t_names, .ref t_kinds, .ref t_yards, .ref t_paces, .ref t_skills, .ref t_snow, .ref tw, .int (nI t_guests), .int (nI t_snows), .int r2, .int t_hour, .int 1, .int (bB t_hourTold)]), (ta, kO 6 [.ref ta_signs, .ref ta_words, .int (nI ta_length), .int (nI u_ta_32), .int u_ta_42, .int u_ta_52, .int u_ta_62, .long u_ta_72, .int u_ta_82]), (ta_signs, kB k 1000 ta_signsF), (ta_words, kJ k 23 ta_wordsF)] := hD
    refine lv_aload_n hx hb dX7_readBend_30 rfl (lv_at hl 0 rfl) ?_
    refine va_get (D := D) (ci := 7) (v := .int r2) (C := RX7) (T := TX7) (N := 13) hx hb hts hi7 hown hK hP 0 rfl rfl 9 (by decide) lf38 (fun _ h9 => h9) rfl dX7_readBend_31 ?_
    refine lv_iconst (v := (-1)) hx hb dX7_readBend_34 (by decide) ?_
    have hj43_3 : ∀ (s0_43 : Bool) (H : Heap) (locs : List Loc) (ls : Array Slot), ((fX7_readBend_J43a u_ta_32 u_ta_42 u_ta_52 u_ta_62 u_ta_72 u_ta_82 r2) s0_43 = E0) → va_P D vwCl [(t, kO 7 [.ref t_names, .ref t_kinds, .ref t_yards, .ref t_paces, .ref t_skills, .ref t_snow, .ref tw, .int (nI t_guests), .int (nI t_snows), .int r2, .int t_hour, .int 1, .int (bB t_hourTold)]), (ta, kO 6 [.ref ta_signs, .ref ta_words, .int (nI ta_length), .int (nI u_ta_32), .int u_ta_42, .int u_ta_52, .int u_ta_62, .long u_ta_72, .int u_ta_82]), (ta_signs, kB k 1000 ta_signsF), (ta_words, kJ k 23 ta_wordsF)] H → va_D A [(t, kO 7 [.ref t_names, .ref t_kinds, .ref t_yards, .ref t_paces, .ref t_skills, .ref t_snow, .ref tw, .int (nI t_guests), .int (nI t_snows), .int r2, .int t_hour, .int 1, .int (bB t_hourTold)]), (ta, kO 6 [.ref ta_signs, .ref ta_words, .int (nI ta_length), .int (nI u_ta_32), .int u_ta_42, .int u_ta_52, .int u_ta_62, .long u_ta_72, .int u_ta_82]), (ta_signs, kB k 1000 ta_signsF), (ta_words, kJ k 23 ta_wordsF)] → va_S A s.heap H locs → lv_has ls 2 [(0, .ref t), (1, .ref ta)] → W p l e R s m args below meth c H locs 0 0 Q (F0 m 43 ls [.int (bB s0_43)]) := by
      intro s0_43 H locs ls hZ hP hD hS hl
      rw [hQ]
      have hP9 := hP.sub (ws' := [(t, kO 7 [.ref t_names, .ref t_kinds, .ref t_yards, .ref t_paces, .ref t_skills, .ref t_snow, .ref tw, .int (nI t_guests), .int (nI t_snows), .int r2, .int t_hour, .int (bB true), .int (bB t_hourTold)]), (ta, kO 6 [.ref ta_signs, .ref ta_words, .int (nI ta_length), .int (nI u_ta_32), .int u_ta_42, .int u_ta_52, .int u_ta_62, .long u_ta_72, .int u_ta_82]), (ta_signs, kB k 1000 ta_signsF), (ta_words, kJ k 23 ta_wordsF)]) [0, 1, 2, 3] rfl
      have hD9 := hD.sub (ws' := [(t, kO 7 [.ref t_names, .ref t_kinds, .ref t_yards, .ref t_paces, .ref t_skills, .ref t_snow, .ref tw, .int (nI t_guests), .int (nI t_snows), .int r2, .int t_hour, .int (bB true), .int (bB t_hourTold)]), (ta, kO 6 [.ref ta_signs, .ref ta_words, .int (nI ta_length), .int (nI u_ta_32), .int u_ta_42, .int u_ta_52, .int u_ta_62, .long u_ta_72, .int u_ta_82]), (ta_signs, kB k 1000 ta_signsF), (ta_words, kJ k 23 ta_wordsF)]) [0, 1, 2, 3] (by decide) rfl
      exact W.zret (v := (bB s0_43)) hx hb hr (narrow_bB _) (fun zt ht hW => ⟨⟨(bB s0_43), ⟨r2, true, u_ta_32, u_ta_42, u_ta_52, u_ta_62, u_ta_72, u_ta_82, s0_43⟩, rfl, ⟨rfl, (by first | omega | (dsimp only; omega) | assumption), (hZ.trans hE0)⟩, by rw [ht]; exact hP9, hD9⟩, hS.F ht⟩) hS.2.2 dX7_readBend_43
    refine lv_icmp_eq (tgt := 42) hx hb dX7_readBend_35 (by decide) (fun c_4 => ?_) (fun c_4 => ?_)
    · skip
      have t_4 : (Int32.toInt r2) = (-1) := tI_eq rfl (by decide) c_4
      have hZ := (if_pos c_4).symm.trans hZ
      refine lv_iconst (v := 0) hx hb dX7_readBend_42 (by decide) ?_
      exact hj43_3 false _ _ _ hZ (hP.sub [0, 1, 2, 3] rfl) (hD.sub [0, 1, 2, 3] (by decide) rfl) hS (lv_sub hl [0, 1] rfl)
    · skip
      have t_4 : (Int32.toInt r2) ≠ (-1) := tI_ne rfl (by decide) c_4
      have hZ := (if_neg c_4).symm.trans hZ
      refine lv_iconst (v := 1) hx hb dX7_readBend_38 (by decide) ?_
      refine lv_goto (tgt := 43) hx hb dX7_readBend_39 (by decide) ?_
      exact hj43_3 true _ _ _ hZ (hP.sub [0, 1, 2, 3] rfl) (hD.sub [0, 1, 2, 3] (by decide) rfl) hS (lv_sub hl [0, 1] rfl)
  · skip
    have b_1 : t_bendTold = true := bB_1 c_1
    have hZ := (if_pos b_1).symm.trans hZ
    refine lv_aload_n hx hb dX7_readBend_7 rfl (lv_at hl 1 rfl) ?_
    refine lv_iconst (v := 3) hx hb dX7_readBend_8 (by decide) ?_
    refine kz_Vi (As := [.int 3]) (rest := []) (wc := [(ta, kO 6 [.ref ta_signs, .ref ta_words, .int (nI ta_length), .int (nI ta_next), .int ta_place, .int ta_kind, .int ta_value, .long ta_letters, .int ta_fault])]) (wr := [(t, kO 7 [.ref t_names, .ref t_kinds, .ref t_yards, .ref t_paces, .ref t_skills, .ref t_snow, .ref tw, .int (nI t_guests), .int (nI t_snows), .int t_bend, .int t_hour, .int (bB t_bendTold), .int (bB t_hourTold)]), (ta_signs, kB k 1000 ta_signsF), (ta_words, kJ k 23 ta_wordsF)]) ⟨hx, hb, hml, hown, hts⟩ hK hE hP hD hS hA (sX6_wrong l D k H.size ta 3 ta_signs ta_words ta_length ta_next ta_place ta_kind ta_value ta_letters ta_fault (by first | omega | assumption | decide) (by first | omega | assumption | decide)) (cwV 1 hts gX7_readBend_X6_wrong rfl rfl rfl (by decide +kernel) (by rw [hR]; exact ⟨Nat.le_of_ble_eq_true rfl, Nat.le_of_ble_eq_true rfl⟩)) [1] [0, 2, 3] rfl rfl (by decide) (by decide) (by decide) 0 rfl rfl rfl hl.1 rfl (Nat.le_of_ble_eq_true rfl) dX7_readBend_9 (by rw [hR]; exact ⟨Nat.le_of_ble_eq_true rfl, Nat.le_of_ble_eq_true rfl⟩) (fun r5 u5 H locs hw5 hP hD hS => ?_)
    obtain ⟨u_ta_85, ub5⟩ := u5
    try dsimp only at hw5
    obtain ⟨rfl, hw5⟩ := hw5
    have hP : va_P D vwCl [(t, kO 7 [.ref t_names, .ref t_kinds, .ref t_yards, .ref t_paces, .ref t_skills, .ref t_snow, .ref tw, .int (nI t_guests), .int (nI t_snows), .int t_bend, .int t_hour, .int (bB t_bendTold), .int (bB t_hourTold)]), (ta_signs, kB k 1000 ta_signsF), (ta_words, kJ k 23 ta_wordsF), (ta, kO 6 [.ref ta_signs, .ref ta_words, .int (nI ta_length), .int (nI ta_next), .int ta_place, .int ta_kind, .int ta_value, .long ta_letters, .int u_ta_85])] H := hP
    have hD : va_D A [(t, kO 7 [.ref t_names, .ref t_kinds, .ref t_yards, .ref t_paces, .ref t_skills, .ref t_snow, .ref tw, .int (nI t_guests), .int (nI t_snows), .int t_bend, .int t_hour, .int (bB t_bendTold), .int (bB t_hourTold)]), (ta_signs, kB k 1000 ta_signsF), (ta_words, kJ k 23 ta_wordsF), (ta, kO 6 [.ref ta_signs, .ref ta_words, .int (nI ta_length), .int (nI ta_next), .int ta_place, .int ta_kind, .int ta_value, .long ta_letters, .int u_ta_85])] := hD
    have hw5_0 := hw5
    have hZ := bn2_e hw5_0 hZ
    rw [hQ]
    have hP9 := hP.sub (ws' := [(t, kO 7 [.ref t_names, .ref t_kinds, .ref t_yards, .ref t_paces, .ref t_skills, .ref t_snow, .ref tw, .int (nI t_guests), .int (nI t_snows), .int t_bend, .int t_hour, .int (bB t_bendTold), .int (bB t_hourTold)]), (ta, kO 6 [.ref ta_signs, .ref ta_words, .int (nI ta_length), .int (nI ta_next), .int ta_place, .int ta_kind, .int ta_value, .long ta_letters, .int u_ta_85]), (ta_signs, kB k 1000 ta_signsF), (ta_words, kJ k 23 ta_wordsF)]) [0, 3, 1, 2] rfl
    have hD9 := hD.sub (ws' := [(t, kO 7 [.ref t_names, .ref t_kinds, .ref t_yards, .ref t_paces, .ref t_skills, .ref t_snow, .ref tw, .int (nI t_guests), .int (nI t_snows), .int t_bend, .int t_hour, .int (bB t_bendTold), .int (bB t_hourTold)]), (ta, kO 6 [.ref ta_signs, .ref ta_words, .int (nI ta_length), .int (nI ta_next), .int ta_place, .int ta_kind, .int ta_value, .long ta_letters, .int u_ta_85]), (ta_signs, kB k 1000 ta_signsF), (ta_words, kJ k 23 ta_wordsF)]) [0, 3, 1, 2] (by decide) rfl
    exact W.zret (v := (bB ub5)) hx hb hr (narrow_bB _) (fun zt ht hW => ⟨⟨(bB ub5), ⟨t_bend, t_bendTold, ta_next, ta_place, ta_kind, ta_value, ta_letters, u_ta_85, ub5⟩, rfl, ⟨rfl, (by first | omega | (dsimp only; omega) | assumption), (hZ.trans hE0)⟩, by rw [ht]; exact hP9, hD9⟩, hS.F ht⟩) hS.2.2 dX7_readBend_12
theorem dX7_readHour_0 : decode cX7_readHour 0 = .ok (.aload_n 0, 1) := by decide +kernel
theorem dX7_readHour_1 : decode cX7_readHour 1 = .ok (.getfield 58, 3) := by decide +kernel
theorem dX7_readHour_4 : decode cX7_readHour 4 = .ok (.ifCond .eq 9, 3) := by decide +kernel
theorem dX7_readHour_7 : decode cX7_readHour 7 = .ok (.aload_n 1, 1) := by decide +kernel
theorem dX7_readHour_8 : decode cX7_readHour 8 = .ok (.iconst 3, 1) := by decide +kernel
theorem dX7_readHour_9 : decode cX7_readHour 9 = .ok (.invokevirtual 92, 3) := by decide +kernel
theorem dX7_readHour_12 : decode cX7_readHour 12 = .ok (.ireturn, 1) := by decide +kernel
theorem dX7_readHour_13 : decode cX7_readHour 13 = .ok (.aload_n 0, 1) := by decide +kernel
theorem dX7_readHour_14 : decode cX7_readHour 14 = .ok (.iconst 1, 1) := by decide +kernel
theorem dX7_readHour_15 : decode cX7_readHour 15 = .ok (.putfield 58, 3) := by decide +kernel
theorem dX7_readHour_18 : decode cX7_readHour 18 = .ok (.aload_n 0, 1) := by decide +kernel
theorem dX7_readHour_19 : decode cX7_readHour 19 = .ok (.aload_n 1, 1) := by decide +kernel
theorem dX7_readHour_20 : decode cX7_readHour 20 = .ok (.iconst 5, 1) := by decide +kernel
theorem dX7_readHour_21 : decode cX7_readHour 21 = .ok (.iconst 1, 1) := by decide +kernel
theorem dX7_readHour_22 : decode cX7_readHour 22 = .ok (.sipush 200, 3) := by decide +kernel
theorem dX7_readHour_25 : decode cX7_readHour 25 = .ok (.invokestatic 114, 3) := by decide +kernel
theorem dX7_readHour_28 : decode cX7_readHour 28 = .ok (.putfield 42, 3) := by decide +kernel
theorem dX7_readHour_31 : decode cX7_readHour 31 = .ok (.aload_n 0, 1) := by decide +kernel
theorem dX7_readHour_32 : decode cX7_readHour 32 = .ok (.getfield 42, 3) := by decide +kernel
theorem dX7_readHour_35 : decode cX7_readHour 35 = .ok (.iconst (-1), 1) := by decide +kernel
theorem dX7_readHour_36 : decode cX7_readHour 36 = .ok (.if_icmp .eq 7, 3) := by decide +kernel
theorem dX7_readHour_39 : decode cX7_readHour 39 = .ok (.iconst 1, 1) := by decide +kernel
theorem dX7_readHour_40 : decode cX7_readHour 40 = .ok (.goto 4, 3) := by decide +kernel
theorem dX7_readHour_43 : decode cX7_readHour 43 = .ok (.iconst 0, 1) := by decide +kernel
theorem dX7_readHour_44 : decode cX7_readHour 44 = .ok (.ireturn, 1) := by decide +kernel
set_option maxRecDepth 20000 in
theorem ggX7_readHour_X7_readMeasure : GoodIn wsX7_readHour wsX7_readMeasure := goodIn_r _ [13, 14, 15, 16, 6, 17, 18, 19, 20, 21, 22, 23, 24, 4, 5, 7, 8, 9, 25, 26, 27, 28, 29, 30, 31, 32, 33, 34, 35, 36, 37, 38, 39, 40, 41, 42, 43, 44, 45, 46, 47, 48, 49, 50, 51, 52, 53, 54, 55, 56, 57, 58, 59, 60, 61, 62, 63, 64, 65, 66, 67, 68, 69, 70, 71, 72, 73, 74, 75, 76, 77, 78, 79, 80, 81, 82, 83, 84, 85, 86, 87, 88, 89, 90, 91, 92, 93, 94, 95, 96, 97, 98, 99, 100, 101, 102, 103, 104, 105, 106, 107, 108, 109, 110, 111, 112, 113, 114, 115, 116, 117, 118, 119, 120, 121, 122, 123, 124, 125, 126, 127, 128, 129, 130, 131, 132, 133, 134, 135, 136, 137, 138, 139, 140, 141, 142, 143, 144, 145, 146, 147, 148, 149, 150, 151, 165, 166, 167, 168, 169, 170, 171, 172, 173] rfl (by decide +kernel)
set_option maxRecDepth 20000 in
theorem gX7_readHour_X7_readMeasure : GoodIn wsX7_readHour (va_wsS RX7 114 yX7_readMeasure wsX7_readMeasure) := goodIn_app (goodIn_of _ (by decide +kernel)) ggX7_readHour_X7_readMeasure
set_option maxRecDepth 20000 in
theorem ggX7_readHour_X6_wrong : GoodIn wsX7_readHour wsX6_wrong := goodIn_r _ [7, 8, 9, 165, 166, 167, 168, 169, 170, 171, 172, 173] rfl (by decide +kernel)
set_option maxRecDepth 20000 in
theorem gX7_readHour_X6_wrong : GoodIn wsX7_readHour (wsV RX7 92 RX6 yX6_wrong wsX6_wrong) := goodIn_app (goodIn_of _ (by decide +kernel)) ggX7_readHour_X6_wrong
set_option maxHeartbeats 4000000 in
set_option maxRecDepth 100000 in
theorem sX7_readHour (l : Launch) (D : va_G) (k : Nat → ClassId) (a0 sa sv : Nat) (f : Nat → Int32) (sz : Nat) (t : Nat) (ta : Nat) (t_names : Nat) (t_kinds : Nat) (t_yards : Nat) (t_paces : Nat) (t_skills : Nat) (t_snow : Nat) (tw : Nat) (t_guests : Nat) (t_snows : Nat) (t_bend : Int32) (t_hour : Int32) (t_bendTold : Bool) (t_hourTold : Bool) (ta_signs : Nat) (ta_words : Nat) (ta_length : Nat) (ta_next : Nat) (ta_place : Int32) (ta_kind : Int32) (ta_value : Int32) (ta_letters : Int64) (ta_fault : Int32) (ta_signsF : Nat → Int32) (ta_wordsF : Nat → Int64) (h_t_guests : t_guests ≤ 6) (h_t_snows : t_snows ≤ 12) (h_ta_length : ta_length ≤ 1000) (h_ta_next : ta_next ≤ 1000) : Met l yX7_readHour wsX7_readHour ({ frames := 7, cells := 0, slots := 0, locals := 490 }) (va_Pc [.ref t, .ref ta] (kz_PreY D k [(t, kO 7 [.ref t_names, .ref t_kinds, .ref t_yards, .ref t_paces, .ref t_skills, .ref t_snow, .ref tw, .int (nI t_guests), .int (nI t_snows), .int t_bend, .int t_hour, .int (bB t_bendTold), .int (bB t_hourTold)]), (ta, kO 6 [.ref ta_signs, .ref ta_words, .int (nI ta_length), .int (nI ta_next), .int ta_place, .int ta_kind, .int ta_value, .long ta_letters, .int ta_fault]), (ta_signs, kB k 1000 ta_signsF), (ta_words, kJ k 23 ta_wordsF)] a0 sa sv f sz)) (va_Qi (fun (rr : Int32) (uu : Int32 × Bool × Nat × Int32 × Int32 × Int32 × Int64 × Int32 × Bool) => rr = bB uu.2.2.2.2.2.2.2.2 ∧ (uu.2.2.1 ≤ 1000) ∧ ((uu.1, uu.2.1, uu.2.2.1, uu.2.2.2.1, uu.2.2.2.2.1, uu.2.2.2.2.2.1, uu.2.2.2.2.2.2.1, uu.2.2.2.2.2.2.2.1, uu.2.2.2.2.2.2.2.2) = (fX7_readHour t_hour t_hourTold ta_length ta_next ta_place ta_kind ta_value ta_letters ta_fault ta_signsF ta_wordsF f))) (fun uu zt => kz_B D (va_A [(t, kO 7 [.ref t_names, .ref t_kinds, .ref t_yards, .ref t_paces, .ref t_skills, .ref t_snow, .ref tw, .int (nI t_guests), .int (nI t_snows), .int t_bend, .int t_hour, .int (bB t_bendTold), .int (bB t_hourTold)]), (ta, kO 6 [.ref ta_signs, .ref ta_words, .int (nI ta_length), .int (nI ta_next), .int ta_place, .int ta_kind, .int ta_value, .long ta_letters, .int ta_fault]), (ta_signs, kB k 1000 ta_signsF), (ta_words, kJ k 23 ta_wordsF)] sz) [(t, kO 7 [.ref t_names, .ref t_kinds, .ref t_yards, .ref t_paces, .ref t_skills, .ref t_snow, .ref tw, .int (nI t_guests), .int (nI t_snows), .int t_bend, .int uu.1, .int (bB t_bendTold), .int (bB uu.2.1)]), (ta, kO 6 [.ref ta_signs, .ref ta_words, .int (nI ta_length), .int (nI uu.2.2.1), .int uu.2.2.2.1, .int uu.2.2.2.2.1, .int uu.2.2.2.2.2.1, .long uu.2.2.2.2.2.2.1, .int uu.2.2.2.2.2.2.2.1]), (ta_signs, kB k 1000 ta_signsF), (ta_words, kJ k 23 ta_wordsF)] zt) (va_A [(t, kO 7 [.ref t_names, .ref t_kinds, .ref t_yards, .ref t_paces, .ref t_skills, .ref t_snow, .ref tw, .int (nI t_guests), .int (nI t_snows), .int t_bend, .int t_hour, .int (bB t_bendTold), .int (bB t_hourTold)]), (ta, kO 6 [.ref ta_signs, .ref ta_words, .int (nI ta_length), .int (nI ta_next), .int ta_place, .int ta_kind, .int ta_value, .long ta_letters, .int ta_fault]), (ta_signs, kB k 1000 ta_signsF), (ta_words, kJ k 23 ta_wordsF)] sz)) 0 0 (va_A [(t, kO 7 [.ref t_names, .ref t_kinds, .ref t_yards, .ref t_paces, .ref t_skills, .ref t_snow, .ref tw, .int (nI t_guests), .int (nI t_snows), .int t_bend, .int t_hour, .int (bB t_bendTold), .int (bB t_hourTold)]), (ta, kO 6 [.ref ta_signs, .ref ta_words, .int (nI ta_length), .int (nI ta_next), .int ta_place, .int ta_kind, .int ta_value, .long ta_letters, .int ta_fault]), (ta_signs, kB k 1000 ta_signsF), (ta_words, kJ k 23 ta_wordsF)] sz) := by
  refine Met.ofW (cc := cX7_readHour) (maxL := 2) (ret := (some .boolean)) (by decide) rfl ?_
  intro p e s m args below meth c s₁ B hml hv
  obtain ⟨hav, ⟨hsz, hP, hK, hD0, hE⟩, ha0, hDa, hX⟩ := hv
  have hx := B.exec
  have hb := B.bytes
  have hr := B.returns
  have hts := atoms_spec (ws := wsX7_readHour) B.pre
  have hown : s.vm.findClass RX7 = some m.cls := findClass_of_methodNamed B.named
  have hlocks := B.notSynchronized
  have hi7 : ∀ w ∈ u_ws RX7 TX7 13, w ∈ wsX7_readHour := by decide +kernel
  have lf58 := hts (.fieldLink RX7 58 "LastCook$Told" "hourTold" "Z") (by decide +kernel)
  have lf42 := hts (.fieldLink RX7 42 "LastCook$Told" "hour" "I") (by decide +kernel)
  subst hsz
  have hD := hD0.self (sz := s.heap.size)
  generalize hAe : va_A [(t, kO 7 [.ref t_names, .ref t_kinds, .ref t_yards, .ref t_paces, .ref t_skills, .ref t_snow, .ref tw, .int (nI t_guests), .int (nI t_snows), .int t_bend, .int t_hour, .int (bB t_bendTold), .int (bB t_hourTold)]), (ta, kO 6 [.ref ta_signs, .ref ta_words, .int (nI ta_length), .int (nI ta_next), .int ta_place, .int ta_kind, .int ta_value, .long ta_letters, .int ta_fault]), (ta_signs, kB k 1000 ta_signsF), (ta_words, kJ k 23 ta_wordsF)] s.heap.size = A at hD ⊢
  have hA : ∀ q : Nat, s.heap.size ≤ q → A q := fun q h => by rw [← hAe]; exact Or.inr h
  have hAX : ∀ q, A q → a0 ≤ q := fun q h => by rw [← hAe] at h; exact h.elim (fun ⟨k9, e9, h9⟩ => hDa.2 k9 _ h9) (fun e => Nat.le_trans ha0 e)
  obtain ⟨tx71, hR71⟩ := hX.1
  have hS : va_S A s.heap s.heap [] := va_S.rf
  have hl := lv_entry ([.ref t, .ref ta]) (n := 2) (Nat.le_of_ble_eq_true rfl)
  rw [show entryFrame m args 2 = entryFrame m ([.ref t, .ref ta] : List Value).toArray 2 by rw [hav], lg_entry_eq]
  generalize (lg_sl ([.ref t, .ref ta]) ++ List.replicate (2 - (lg_sl ([.ref t, .ref ta])).length) Slot.unset).toArray = ls at hl ⊢
  have hl : lv_has ls 2 [(0, .ref t), (1, .ref ta)] := hl
  obtain ⟨R, hR⟩ : ∃ R, R = (headSpec wsX7_readHour ({ frames := 7, cells := 0, slots := 0, locals := 490 } : Room)).room := ⟨_, rfl⟩
  rw [← hR]
  generalize hQ : MQ below _ args s 0 0 A = Q
  replace hQ := hQ.symm
  obtain ⟨H, hH⟩ : ∃ H, H = s.heap := ⟨_, rfl⟩
  rw [← hH] at hP ⊢
  have hS : va_S A s.heap H [] := by rw [hH]; exact hS
  obtain ⟨E0, hE0⟩ : ∃ E0 : Int32 × Bool × Nat × Int32 × Int32 × Int32 × Int64 × Int32 × Bool, E0 = (fX7_readHour t_hour t_hourTold ta_length ta_next ta_place ta_kind ta_value ta_letters ta_fault ta_signsF ta_wordsF f) := ⟨_, rfl⟩
  have hZ : (fX7_readHour t_hour t_hourTold ta_length ta_next ta_place ta_kind ta_value ta_letters ta_fault ta_signsF ta_wordsF f) = E0 := hE0.symm
  refine lv_aload_n hx hb dX7_readHour_0 rfl (lv_at hl 0 rfl) ?_
  refine va_get (D := D) (ci := 7) (v := .int (bB t_hourTold)) (C := RX7) (T := TX7) (N := 13) hx hb hts hi7 hown hK hP 0 rfl rfl 12 (by decide) lf58 (fun _ h9 => h9) rfl dX7_readHour_1 ?_
  refine lv_if_eq (tgt := 13) hx hb dX7_readHour_4 (by decide) (fun c_1 => ?_) (fun c_1 => ?_)
  · skip
    have b_1 : t_hourTold = false := bB_0 c_1
    have hZ := (if_neg (bF b_1)).symm.trans hZ
    refine lv_aload_n hx hb dX7_readHour_13 rfl (lv_at hl 0 rfl) ?_
    refine lv_iconst (v := 1) hx hb dX7_readHour_14 (by decide) ?_
    refine va_put (D := D) (ci := 7) (v := .int 1) (ty := .boolean) (C := RX7) (T := TX7) (N := 13) hx hb hts hi7 tyX7 tyX7_ok nmX7 hown hK hP hD hS 0 rfl rfl 12 (by decide) lf58 (fun _ h9 => h9) rfl (by decide +kernel) rfl rfl (Nat.le_of_ble_eq_true rfl) dX7_readHour_15 (fun H locs hP hD hS => ?_)
    have hP : va_P D vwCl [(t, kO 7 [.ref t_names, .ref t_kinds, .ref t_yards, .ref t_paces, .ref t_skills, .ref t_snow, .ref tw, .int (nI t_guests), .int (nI t_snows), .int t_bend, .int t_hour, .int (bB t_bendTold), .int 1]), (ta, kO 6 [.ref ta_signs, .ref ta_words, .int (nI ta_length), .int (nI ta_next), .int ta_place, .int ta_kind, .int ta_value, .long ta_letters, .int ta_fault]), (ta_signs, kB k 1000 ta_signsF), (ta_words, kJ k 23 ta_wordsF)] H := hP
    have hD : va_D A [(t, kO 7 [.ref t_names, .ref t_kinds, .ref t_yards, .ref t_paces, .ref t_skills, .ref t_snow, .ref tw, .int (nI t_guests), .int (nI t_snows), .int t_bend, .int t_hour, .int (bB t_bendTold), .int 1]), (ta, kO 6 [.ref ta_signs, .ref ta_words, .int (nI ta_length), .int (nI ta_next), .int ta_place, .int ta_kind, .int ta_value, .long ta_letters, .int ta_fault]), (ta_signs, kB k 1000 ta_signsF), (ta_words, kJ k 23 ta_wordsF)] := hD
    refine lv_aload_n hx hb dX7_readHour_18 rfl (lv_at hl 0 rfl) ?_
    refine lv_aload_n hx hb dX7_readHour_19 rfl (lv_at hl 1 rfl) ?_
    refine lv_iconst (v := 5) hx hb dX7_readHour_20 (by decide) ?_
    refine lv_iconst (v := 1) hx hb dX7_readHour_21 (by decide) ?_
    refine lv_sipush (v := 200) hx hb dX7_readHour_22 (by decide) ?_
    refine kz_SiY (As := [.ref ta, .int 5, .int 1, .int 200]) (rest := [.ref t]) (wc := [(ta, kO 6 [.ref ta_signs, .ref ta_words, .int (nI ta_length), .int (nI ta_next), .int ta_place, .int ta_kind, .int ta_value, .long ta_letters, .int ta_fault]), (ta_signs, kB k 1000 ta_signsF), (ta_words, kJ k 23 ta_wordsF)]) (wr := [(t, kO 7 [.ref t_names, .ref t_kinds, .ref t_yards, .ref t_paces, .ref t_skills, .ref t_snow, .ref tw, .int (nI t_guests), .int (nI t_snows), .int t_bend, .int t_hour, .int (bB t_bendTold), .int 1])]) ⟨hx, hb, hml, hown, hts⟩ hX hAX ha0 hK hE hP hD hS hA (sX7_readMeasure l D k a0 sa sv f H.size ta 5 1 200 ta_signs ta_words ta_length ta_next ta_place ta_kind ta_value ta_letters ta_fault ta_signsF ta_wordsF (by first | omega | assumption | decide) (by first | omega | assumption | decide)) (va_cwS 4 hts gX7_readHour_X7_readMeasure rfl rfl rfl (by decide +kernel) (by rw [hR]; exact ⟨Nat.le_of_ble_eq_true rfl, Nat.le_of_ble_eq_true rfl⟩)) [1, 2, 3] [0] rfl rfl (by decide) (by decide) (by decide) rfl hl.1 rfl (Nat.le_of_ble_eq_true rfl) dX7_readHour_25 (by rw [hR]; exact ⟨Nat.le_of_ble_eq_true rfl, Nat.le_of_ble_eq_true rfl⟩) (fun r2 u2 H locs hw2 hP hD hS => ?_)
    obtain ⟨u_ta_32, u_ta_42, u_ta_52, u_ta_62, u_ta_72, u_ta_82⟩ := u2
    try dsimp only at hw2
    have hP : va_P D vwCl [(t, kO 7 [.ref t_names, .ref t_kinds, .ref t_yards, .ref t_paces, .ref t_skills, .ref t_snow, .ref tw, .int (nI t_guests), .int (nI t_snows), .int t_bend, .int t_hour, .int (bB t_bendTold), .int 1]), (ta, kO 6 [.ref ta_signs, .ref ta_words, .int (nI ta_length), .int (nI u_ta_32), .int u_ta_42, .int u_ta_52, .int u_ta_62, .long u_ta_72, .int u_ta_82]), (ta_signs, kB k 1000 ta_signsF), (ta_words, kJ k 23 ta_wordsF)] H := hP
    have hD : va_D A [(t, kO 7 [.ref t_names, .ref t_kinds, .ref t_yards, .ref t_paces, .ref t_skills, .ref t_snow, .ref tw, .int (nI t_guests), .int (nI t_snows), .int t_bend, .int t_hour, .int (bB t_bendTold), .int 1]), (ta, kO 6 [.ref ta_signs, .ref ta_words, .int (nI ta_length), .int (nI u_ta_32), .int u_ta_42, .int u_ta_52, .int u_ta_62, .long u_ta_72, .int u_ta_82]), (ta_signs, kB k 1000 ta_signsF), (ta_words, kJ k 23 ta_wordsF)] := hD
    obtain ⟨hw2_0, hw2_1⟩ := hw2
    have hZ := bn7_e hw2_1 hZ
    refine va_put (D := D) (ci := 7) (v := .int r2) (ty := .int) (C := RX7) (T := TX7) (N := 13) hx hb hts hi7 tyX7 tyX7_ok nmX7 hown hK hP hD hS 0 rfl rfl 10 (by decide) lf42 (fun _ h9 => h9) rfl (by decide +kernel) rfl rfl (Nat.le_of_ble_eq_true rfl) dX7_readHour_28 (fun H locs hP hD hS => ?_)
    have hP : va_P D vwCl [(t, kO 7 [.ref t_names, .ref t_kinds, .ref t_yards, .ref t_paces, .ref t_skills, .ref t_snow, .ref tw, .int (nI t_guests), .int (nI t_snows), .int t_bend, .int r2, .int (bB t_bendTold), .int 1]), (ta, kO 6 [.ref ta_signs, .ref ta_words, .int (nI ta_length), .int (nI u_ta_32), .int u_ta_42, .int u_ta_52, .int u_ta_62, .long u_ta_72, .int u_ta_82]), (ta_signs, kB k 1000 ta_signsF), (ta_words, kJ k 23 ta_wordsF)] H := hP
    have hD : va_D A [(t, kO 7 [.ref t_names, .ref t_kinds, .ref t_yards, .ref t_paces, .ref t_skills, .ref t_snow, .ref tw, .int (nI t_guests), .int (nI t_snows), .int t_bend, .int r2, .int (bB t_bendTold), .int 1]), (ta, kO 6 [.ref ta_signs, .ref ta_words, .int (nI ta_length), .int (nI u_ta_32), .int u_ta_42, .int u_ta_52, .int u_ta_62, .long u_ta_72, .int u_ta_82]), (ta_signs, kB k 1000 ta_signsF), (ta_words, kJ k 23 ta_wordsF)] := hD
    refine lv_aload_n hx hb dX7_readHour_31 rfl (lv_at hl 0 rfl) ?_
    refine va_get (D := D) (ci := 7) (v := .int r2) (C := RX7) (T := TX7) (N := 13) hx hb hts hi7 hown hK hP 0 rfl rfl 10 (by decide) lf42 (fun _ h9 => h9) rfl dX7_readHour_32 ?_
    refine lv_iconst (v := (-1)) hx hb dX7_readHour_35 (by decide) ?_
    have hj44_3 : ∀ (s0_44 : Bool) (H : Heap) (locs : List Loc) (ls : Array Slot), ((fX7_readHour_J44a u_ta_32 u_ta_42 u_ta_52 u_ta_62 u_ta_72 u_ta_82 r2) s0_44 = E0) → va_P D vwCl [(t, kO 7 [.ref t_names, .ref t_kinds, .ref t_yards, .ref t_paces, .ref t_skills, .ref t_snow, .ref tw, .int (nI t_guests), .int (nI t_snows), .int t_bend, .int r2, .int (bB t_bendTold), .int 1]), (ta, kO 6 [.ref ta_signs, .ref ta_words, .int (nI ta_length), .int (nI u_ta_32), .int u_ta_42, .int u_ta_52, .int u_ta_62, .long u_ta_72, .int u_ta_82]), (ta_signs, kB k 1000 ta_signsF), (ta_words, kJ k 23 ta_wordsF)] H → va_D A [(t, kO 7 [.ref t_names, .ref t_kinds, .ref t_yards, .ref t_paces, .ref t_skills, .ref t_snow, .ref tw, .int (nI t_guests), .int (nI t_snows), .int t_bend, .int r2, .int (bB t_bendTold), .int 1]), (ta, kO 6 [.ref ta_signs, .ref ta_words, .int (nI ta_length), .int (nI u_ta_32), .int u_ta_42, .int u_ta_52, .int u_ta_62, .long u_ta_72, .int u_ta_82]), (ta_signs, kB k 1000 ta_signsF), (ta_words, kJ k 23 ta_wordsF)] → va_S A s.heap H locs → lv_has ls 2 [(0, .ref t), (1, .ref ta)] → W p l e R s m args below meth c H locs 0 0 Q (F0 m 44 ls [.int (bB s0_44)]) := by
      intro s0_44 H locs ls hZ hP hD hS hl
      rw [hQ]
      have hP9 := hP.sub (ws' := [(t, kO 7 [.ref t_names, .ref t_kinds, .ref t_yards, .ref t_paces, .ref t_skills, .ref t_snow, .ref tw, .int (nI t_guests), .int (nI t_snows), .int t_bend, .int r2, .int (bB t_bendTold), .int (bB true)]), (ta, kO 6 [.ref ta_signs, .ref ta_words, .int (nI ta_length), .int (nI u_ta_32), .int u_ta_42, .int u_ta_52, .int u_ta_62, .long u_ta_72, .int u_ta_82]), (ta_signs, kB k 1000 ta_signsF), (ta_words, kJ k 23 ta_wordsF)]) [0, 1, 2, 3] rfl
      have hD9 := hD.sub (ws' := [(t, kO 7 [.ref t_names, .ref t_kinds, .ref t_yards, .ref t_paces, .ref t_skills, .ref t_snow, .ref tw, .int (nI t_guests), .int (nI t_snows), .int t_bend, .int r2, .int (bB t_bendTold), .int (bB true)]), (ta, kO 6 [.ref ta_signs, .ref ta_words, .int (nI ta_length), .int (nI u_ta_32), .int u_ta_42, .int u_ta_52, .int u_ta_62, .long u_ta_72, .int u_ta_82]), (ta_signs, kB k 1000 ta_signsF), (ta_words, kJ k 23 ta_wordsF)]) [0, 1, 2, 3] (by decide) rfl
      exact W.zret (v := (bB s0_44)) hx hb hr (narrow_bB _) (fun zt ht hW => ⟨⟨(bB s0_44), ⟨r2, true, u_ta_32, u_ta_42, u_ta_52, u_ta_62, u_ta_72, u_ta_82, s0_44⟩, rfl, ⟨rfl, (by first | omega | (dsimp only; omega) | assumption), (hZ.trans hE0)⟩, by rw [ht]; exact hP9, hD9⟩, hS.F ht⟩) hS.2.2 dX7_readHour_44
    refine lv_icmp_eq (tgt := 43) hx hb dX7_readHour_36 (by decide) (fun c_4 => ?_) (fun c_4 => ?_)
    · skip
      have t_4 : (Int32.toInt r2) = (-1) := tI_eq rfl (by decide) c_4
      have hZ := (if_pos c_4).symm.trans hZ
      refine lv_iconst (v := 0) hx hb dX7_readHour_43 (by decide) ?_
      exact hj44_3 false _ _ _ hZ (hP.sub [0, 1, 2, 3] rfl) (hD.sub [0, 1, 2, 3] (by decide) rfl) hS (lv_sub hl [0, 1] rfl)
    · skip
      have t_4 : (Int32.toInt r2) ≠ (-1) := tI_ne rfl (by decide) c_4
      have hZ := (if_neg c_4).symm.trans hZ
      refine lv_iconst (v := 1) hx hb dX7_readHour_39 (by decide) ?_
      refine lv_goto (tgt := 44) hx hb dX7_readHour_40 (by decide) ?_
      exact hj44_3 true _ _ _ hZ (hP.sub [0, 1, 2, 3] rfl) (hD.sub [0, 1, 2, 3] (by decide) rfl) hS (lv_sub hl [0, 1] rfl)
  · skip
    have b_1 : t_hourTold = true := bB_1 c_1
    have hZ := (if_pos b_1).symm.trans hZ
    refine lv_aload_n hx hb dX7_readHour_7 rfl (lv_at hl 1 rfl) ?_
    refine lv_iconst (v := 3) hx hb dX7_readHour_8 (by decide) ?_
    refine kz_Vi (As := [.int 3]) (rest := []) (wc := [(ta, kO 6 [.ref ta_signs, .ref ta_words, .int (nI ta_length), .int (nI ta_next), .int ta_place, .int ta_kind, .int ta_value, .long ta_letters, .int ta_fault])]) (wr := [(t, kO 7 [.ref t_names, .ref t_kinds, .ref t_yards, .ref t_paces, .ref t_skills, .ref t_snow, .ref tw, .int (nI t_guests), .int (nI t_snows), .int t_bend, .int t_hour, .int (bB t_bendTold), .int (bB t_hourTold)]), (ta_signs, kB k 1000 ta_signsF), (ta_words, kJ k 23 ta_wordsF)]) ⟨hx, hb, hml, hown, hts⟩ hK hE hP hD hS hA (sX6_wrong l D k H.size ta 3 ta_signs ta_words ta_length ta_next ta_place ta_kind ta_value ta_letters ta_fault (by first | omega | assumption | decide) (by first | omega | assumption | decide)) (cwV 1 hts gX7_readHour_X6_wrong rfl rfl rfl (by decide +kernel) (by rw [hR]; exact ⟨Nat.le_of_ble_eq_true rfl, Nat.le_of_ble_eq_true rfl⟩)) [1] [0, 2, 3] rfl rfl (by decide) (by decide) (by decide) 0 rfl rfl rfl hl.1 rfl (Nat.le_of_ble_eq_true rfl) dX7_readHour_9 (by rw [hR]; exact ⟨Nat.le_of_ble_eq_true rfl, Nat.le_of_ble_eq_true rfl⟩) (fun r5 u5 H locs hw5 hP hD hS => ?_)
    obtain ⟨u_ta_85, ub5⟩ := u5
    try dsimp only at hw5
    obtain ⟨rfl, hw5⟩ := hw5
    have hP : va_P D vwCl [(t, kO 7 [.ref t_names, .ref t_kinds, .ref t_yards, .ref t_paces, .ref t_skills, .ref t_snow, .ref tw, .int (nI t_guests), .int (nI t_snows), .int t_bend, .int t_hour, .int (bB t_bendTold), .int (bB t_hourTold)]), (ta_signs, kB k 1000 ta_signsF), (ta_words, kJ k 23 ta_wordsF), (ta, kO 6 [.ref ta_signs, .ref ta_words, .int (nI ta_length), .int (nI ta_next), .int ta_place, .int ta_kind, .int ta_value, .long ta_letters, .int u_ta_85])] H := hP
    have hD : va_D A [(t, kO 7 [.ref t_names, .ref t_kinds, .ref t_yards, .ref t_paces, .ref t_skills, .ref t_snow, .ref tw, .int (nI t_guests), .int (nI t_snows), .int t_bend, .int t_hour, .int (bB t_bendTold), .int (bB t_hourTold)]), (ta_signs, kB k 1000 ta_signsF), (ta_words, kJ k 23 ta_wordsF), (ta, kO 6 [.ref ta_signs, .ref ta_words, .int (nI ta_length), .int (nI ta_next), .int ta_place, .int ta_kind, .int ta_value, .long ta_letters, .int u_ta_85])] := hD
    have hw5_0 := hw5
    have hZ := bn2_e hw5_0 hZ
    rw [hQ]
    have hP9 := hP.sub (ws' := [(t, kO 7 [.ref t_names, .ref t_kinds, .ref t_yards, .ref t_paces, .ref t_skills, .ref t_snow, .ref tw, .int (nI t_guests), .int (nI t_snows), .int t_bend, .int t_hour, .int (bB t_bendTold), .int (bB t_hourTold)]), (ta, kO 6 [.ref ta_signs, .ref ta_words, .int (nI ta_length), .int (nI ta_next), .int ta_place, .int ta_kind, .int ta_value, .long ta_letters, .int u_ta_85]), (ta_signs, kB k 1000 ta_signsF), (ta_words, kJ k 23 ta_wordsF)]) [0, 3, 1, 2] rfl
    have hD9 := hD.sub (ws' := [(t, kO 7 [.ref t_names, .ref t_kinds, .ref t_yards, .ref t_paces, .ref t_skills, .ref t_snow, .ref tw, .int (nI t_guests), .int (nI t_snows), .int t_bend, .int t_hour, .int (bB t_bendTold), .int (bB t_hourTold)]), (ta, kO 6 [.ref ta_signs, .ref ta_words, .int (nI ta_length), .int (nI ta_next), .int ta_place, .int ta_kind, .int ta_value, .long ta_letters, .int u_ta_85]), (ta_signs, kB k 1000 ta_signsF), (ta_words, kJ k 23 ta_wordsF)]) [0, 3, 1, 2] (by decide) rfl
    exact W.zret (v := (bB ub5)) hx hb hr (narrow_bB _) (fun zt ht hW => ⟨⟨(bB ub5), ⟨t_hour, t_hourTold, ta_next, ta_place, ta_kind, ta_value, ta_letters, u_ta_85, ub5⟩, rfl, ⟨rfl, (by first | omega | (dsimp only; omega) | assumption), (hZ.trans hE0)⟩, by rw [ht]; exact hP9, hD9⟩, hS.F ht⟩) hS.2.2 dX7_readHour_12
theorem dX7_readSnow_0 : decode cX7_readSnow 0 = .ok (.aload_n 0, 1) := by decide +kernel
theorem dX7_readSnow_1 : decode cX7_readSnow 1 = .ok (.getfield 51, 3) := by decide +kernel
theorem dX7_readSnow_4 : decode cX7_readSnow 4 = .ok (.ifCond .le 9, 3) := by decide +kernel
theorem dX7_readSnow_7 : decode cX7_readSnow 7 = .ok (.aload_n 1, 1) := by decide +kernel
theorem dX7_readSnow_8 : decode cX7_readSnow 8 = .ok (.iconst 3, 1) := by decide +kernel
theorem dX7_readSnow_9 : decode cX7_readSnow 9 = .ok (.invokevirtual 92, 3) := by decide +kernel
theorem dX7_readSnow_12 : decode cX7_readSnow 12 = .ok (.ireturn, 1) := by decide +kernel
theorem dX7_readSnow_13 : decode cX7_readSnow 13 = .ok (.aload_n 1, 1) := by decide +kernel
theorem dX7_readSnow_14 : decode cX7_readSnow 14 = .ok (.invokevirtual 100, 3) := by decide +kernel
theorem dX7_readSnow_17 : decode cX7_readSnow 17 = .ok (.iconst 0, 1) := by decide +kernel
theorem dX7_readSnow_18 : decode cX7_readSnow 18 = .ok (.istore_n 2, 1) := by decide +kernel
theorem dX7_readSnow_19 : decode cX7_readSnow 19 = .ok (.iload_n 2, 1) := by decide +kernel
theorem dX7_readSnow_20 : decode cX7_readSnow 20 = .ok (.aload_n 0, 1) := by decide +kernel
theorem dX7_readSnow_21 : decode cX7_readSnow 21 = .ok (.getfield 28, 3) := by decide +kernel
theorem dX7_readSnow_24 : decode cX7_readSnow 24 = .ok (.arraylength, 1) := by decide +kernel
theorem dX7_readSnow_25 : decode cX7_readSnow 25 = .ok (.if_icmp .gt 80, 3) := by decide +kernel
theorem dX7_readSnow_28 : decode cX7_readSnow 28 = .ok (.aload_n 0, 1) := by decide +kernel
theorem dX7_readSnow_29 : decode cX7_readSnow 29 = .ok (.getfield 51, 3) := by decide +kernel
theorem dX7_readSnow_32 : decode cX7_readSnow 32 = .ok (.ifCond .eq 10, 3) := by decide +kernel
theorem dX7_readSnow_35 : decode cX7_readSnow 35 = .ok (.aload_n 1, 1) := by decide +kernel
theorem dX7_readSnow_36 : decode cX7_readSnow 36 = .ok (.invokevirtual 125, 3) := by decide +kernel
theorem dX7_readSnow_39 : decode cX7_readSnow 39 = .ok (.ifCond .eq 66, 3) := by decide +kernel
theorem dX7_readSnow_42 : decode cX7_readSnow 42 = .ok (.aload_n 1, 1) := by decide +kernel
theorem dX7_readSnow_43 : decode cX7_readSnow 43 = .ok (.iconst 0, 1) := by decide +kernel
theorem dX7_readSnow_44 : decode cX7_readSnow 44 = .ok (.bipush 9, 2) := by decide +kernel
theorem dX7_readSnow_46 : decode cX7_readSnow 46 = .ok (.invokevirtual 128, 3) := by decide +kernel
theorem dX7_readSnow_49 : decode cX7_readSnow 49 = .ok (.ifCond .ne 5, 3) := by decide +kernel
theorem dX7_readSnow_52 : decode cX7_readSnow 52 = .ok (.iconst 0, 1) := by decide +kernel
theorem dX7_readSnow_53 : decode cX7_readSnow 53 = .ok (.ireturn, 1) := by decide +kernel
theorem dX7_readSnow_54 : decode cX7_readSnow 54 = .ok (.aload_n 0, 1) := by decide +kernel
theorem dX7_readSnow_55 : decode cX7_readSnow 55 = .ok (.getfield 51, 3) := by decide +kernel
theorem dX7_readSnow_58 : decode cX7_readSnow 58 = .ok (.aload_n 0, 1) := by decide +kernel
theorem dX7_readSnow_59 : decode cX7_readSnow 59 = .ok (.getfield 28, 3) := by decide +kernel
theorem dX7_readSnow_62 : decode cX7_readSnow 62 = .ok (.arraylength, 1) := by decide +kernel
theorem dX7_readSnow_63 : decode cX7_readSnow 63 = .ok (.if_icmp .lt 9, 3) := by decide +kernel
theorem dX7_readSnow_66 : decode cX7_readSnow 66 = .ok (.aload_n 1, 1) := by decide +kernel
theorem dX7_readSnow_67 : decode cX7_readSnow 67 = .ok (.iconst 5, 1) := by decide +kernel
theorem dX7_readSnow_68 : decode cX7_readSnow 68 = .ok (.invokevirtual 92, 3) := by decide +kernel
theorem dX7_readSnow_71 : decode cX7_readSnow 71 = .ok (.ireturn, 1) := by decide +kernel
theorem dX7_readSnow_72 : decode cX7_readSnow 72 = .ok (.aload_n 0, 1) := by decide +kernel
theorem dX7_readSnow_73 : decode cX7_readSnow 73 = .ok (.getfield 28, 3) := by decide +kernel
theorem dX7_readSnow_76 : decode cX7_readSnow 76 = .ok (.aload_n 0, 1) := by decide +kernel
theorem dX7_readSnow_77 : decode cX7_readSnow 77 = .ok (.getfield 51, 3) := by decide +kernel
theorem dX7_readSnow_80 : decode cX7_readSnow 80 = .ok (.aload_n 1, 1) := by decide +kernel
theorem dX7_readSnow_81 : decode cX7_readSnow 81 = .ok (.getfield 132, 3) := by decide +kernel
theorem dX7_readSnow_84 : decode cX7_readSnow 84 = .ok (.iastore, 1) := by decide +kernel
theorem dX7_readSnow_85 : decode cX7_readSnow 85 = .ok (.aload_n 0, 1) := by decide +kernel
theorem dX7_readSnow_86 : decode cX7_readSnow 86 = .ok (.dup, 1) := by decide +kernel
theorem dX7_readSnow_87 : decode cX7_readSnow 87 = .ok (.getfield 51, 3) := by decide +kernel
theorem dX7_readSnow_90 : decode cX7_readSnow 90 = .ok (.iconst 1, 1) := by decide +kernel
theorem dX7_readSnow_91 : decode cX7_readSnow 91 = .ok (.iadd, 1) := by decide +kernel
theorem dX7_readSnow_92 : decode cX7_readSnow 92 = .ok (.putfield 51, 3) := by decide +kernel
theorem dX7_readSnow_95 : decode cX7_readSnow 95 = .ok (.aload_n 1, 1) := by decide +kernel
theorem dX7_readSnow_96 : decode cX7_readSnow 96 = .ok (.invokevirtual 100, 3) := by decide +kernel
theorem dX7_readSnow_99 : decode cX7_readSnow 99 = .ok (.iinc 2 1, 3) := by decide +kernel
theorem dX7_readSnow_102 : decode cX7_readSnow 102 = .ok (.goto (-83), 3) := by decide +kernel
theorem dX7_readSnow_105 : decode cX7_readSnow 105 = .ok (.iconst 1, 1) := by decide +kernel
theorem dX7_readSnow_106 : decode cX7_readSnow 106 = .ok (.ireturn, 1) := by decide +kernel
set_option maxRecDepth 20000 in
theorem ggX7_readSnow_X6_advance : GoodIn wsX7_readSnow wsX6_advance := goodIn_r _ [14, 15, 16, 17, 9, 18, 19, 20, 21, 7, 22, 23, 24, 25, 26, 27, 28, 29, 30, 31, 32, 33, 34, 35, 36, 37, 38, 39, 40, 41, 42, 43, 44, 45, 46, 47, 48, 49, 50, 51, 52, 53, 54, 55, 56, 57, 58, 59, 60, 61, 62, 63, 64, 65, 66, 67, 68, 69, 70, 71, 72, 73, 74, 75, 76, 77, 78, 79, 80, 81, 82, 83, 84, 85, 86, 87, 88, 89, 90, 91, 92, 93, 94, 95, 96, 97, 98, 99, 100, 101, 102, 103, 104, 105, 106, 107, 108, 109, 110, 111, 112, 113, 114, 115, 116, 117, 118, 119, 120, 121, 122, 123, 124, 125, 126, 127, 128, 154, 155, 156, 157, 158, 159, 160, 161, 162] rfl (by decide +kernel)
set_option maxRecDepth 20000 in
theorem gX7_readSnow_X6_advance : GoodIn wsX7_readSnow (wsV RX7 100 RX6 yX6_advance wsX6_advance) := goodIn_app (goodIn_of _ (by decide +kernel)) ggX7_readSnow_X6_advance
set_option maxRecDepth 20000 in
theorem ggX7_readSnow_X6_checkNumber : GoodIn wsX7_readSnow wsX6_checkNumber := goodIn_r _ [136, 19, 18, 137, 5, 6, 7, 8, 9, 10, 138, 139, 140, 154, 155, 156, 157, 158, 159, 160, 161, 162] rfl (by decide +kernel)
set_option maxRecDepth 20000 in
theorem gX7_readSnow_X6_checkNumber : GoodIn wsX7_readSnow (wsV RX7 128 RX6 yX6_checkNumber wsX6_checkNumber) := goodIn_app (goodIn_of _ (by decide +kernel)) ggX7_readSnow_X6_checkNumber
set_option maxRecDepth 20000 in
theorem ggX7_readSnow_X6_wrong : GoodIn wsX7_readSnow wsX6_wrong := goodIn_r _ [8, 9, 10, 154, 155, 156, 157, 158, 159, 160, 161, 162] rfl (by decide +kernel)
set_option maxRecDepth 20000 in
theorem gX7_readSnow_X6_wrong : GoodIn wsX7_readSnow (wsV RX7 92 RX6 yX6_wrong wsX6_wrong) := goodIn_app (goodIn_of _ (by decide +kernel)) ggX7_readSnow_X6_wrong
set_option maxRecDepth 20000 in
theorem ggX7_readSnow_X6_isNumber : GoodIn wsX7_readSnow wsX6_isNumber := goodIn_r _ [132, 19, 154, 155, 156, 157, 158, 159, 160, 161, 162] rfl (by decide +kernel)
set_option maxRecDepth 20000 in
theorem gX7_readSnow_X6_isNumber : GoodIn wsX7_readSnow (wsV RX7 125 RX6 yX6_isNumber wsX6_isNumber) := goodIn_app (goodIn_of _ (by decide +kernel)) ggX7_readSnow_X6_isNumber
set_option maxHeartbeats 4000000 in
set_option maxRecDepth 100000 in
theorem sX7_readSnow (l : Launch) (D : va_G) (k : Nat → ClassId) (a0 sa sv : Nat) (f : Nat → Int32) (sz : Nat) (t : Nat) (ta : Nat) (t_names : Nat) (t_kinds : Nat) (t_yards : Nat) (t_paces : Nat) (t_skills : Nat) (t_snow : Nat) (tw : Nat) (t_guests : Nat) (t_snows : Nat) (t_bend : Int32) (t_hour : Int32) (t_bendTold : Bool) (t_hourTold : Bool) (t_snowF : Nat → Int32) (ta_signs : Nat) (ta_words : Nat) (ta_length : Nat) (ta_next : Nat) (ta_place : Int32) (ta_kind : Int32) (ta_value : Int32) (ta_letters : Int64) (ta_fault : Int32) (ta_signsF : Nat → Int32) (ta_wordsF : Nat → Int64) (h_t_guests : t_guests ≤ 6) (h_t_snows : t_snows ≤ 12) (h_ta_length : ta_length ≤ 1000) (h_ta_next : ta_next ≤ 1000) : Met l yX7_readSnow wsX7_readSnow ({ frames := 5, cells := 0, slots := 0, locals := 350 }) (va_Pc [.ref t, .ref ta] (kz_PreY D k [(t, kO 7 [.ref t_names, .ref t_kinds, .ref t_yards, .ref t_paces, .ref t_skills, .ref t_snow, .ref tw, .int (nI t_guests), .int (nI t_snows), .int t_bend, .int t_hour, .int (bB t_bendTold), .int (bB t_hourTold)]), (t_snow, kI k 12 t_snowF), (ta, kO 6 [.ref ta_signs, .ref ta_words, .int (nI ta_length), .int (nI ta_next), .int ta_place, .int ta_kind, .int ta_value, .long ta_letters, .int ta_fault]), (ta_signs, kB k 1000 ta_signsF), (ta_words, kJ k 23 ta_wordsF)] a0 sa sv f sz)) (va_Qi (fun (rr : Int32) (uu : Nat × (Nat → Int32) × Nat × Int32 × Int32 × Int32 × Int64 × Int32 × Bool) => rr = bB uu.2.2.2.2.2.2.2.2 ∧ (uu.1 ≤ 12) ∧ (uu.2.2.1 ≤ 1000) ∧ ((uu.1, uu.2.1, uu.2.2.1, uu.2.2.2.1, uu.2.2.2.2.1, uu.2.2.2.2.2.1, uu.2.2.2.2.2.2.1, uu.2.2.2.2.2.2.2.1, uu.2.2.2.2.2.2.2.2) = (fX7_readSnow t_snows t_snowF ta_length ta_next ta_place ta_kind ta_value ta_letters ta_fault ta_signsF ta_wordsF f))) (fun uu zt => kz_B D (va_A [(t, kO 7 [.ref t_names, .ref t_kinds, .ref t_yards, .ref t_paces, .ref t_skills, .ref t_snow, .ref tw, .int (nI t_guests), .int (nI t_snows), .int t_bend, .int t_hour, .int (bB t_bendTold), .int (bB t_hourTold)]), (t_snow, kI k 12 t_snowF), (ta, kO 6 [.ref ta_signs, .ref ta_words, .int (nI ta_length), .int (nI ta_next), .int ta_place, .int ta_kind, .int ta_value, .long ta_letters, .int ta_fault]), (ta_signs, kB k 1000 ta_signsF), (ta_words, kJ k 23 ta_wordsF)] sz) [(t, kO 7 [.ref t_names, .ref t_kinds, .ref t_yards, .ref t_paces, .ref t_skills, .ref t_snow, .ref tw, .int (nI t_guests), .int (nI uu.1), .int t_bend, .int t_hour, .int (bB t_bendTold), .int (bB t_hourTold)]), (t_snow, kI k 12 uu.2.1), (ta, kO 6 [.ref ta_signs, .ref ta_words, .int (nI ta_length), .int (nI uu.2.2.1), .int uu.2.2.2.1, .int uu.2.2.2.2.1, .int uu.2.2.2.2.2.1, .long uu.2.2.2.2.2.2.1, .int uu.2.2.2.2.2.2.2.1]), (ta_signs, kB k 1000 ta_signsF), (ta_words, kJ k 23 ta_wordsF)] zt) (va_A [(t, kO 7 [.ref t_names, .ref t_kinds, .ref t_yards, .ref t_paces, .ref t_skills, .ref t_snow, .ref tw, .int (nI t_guests), .int (nI t_snows), .int t_bend, .int t_hour, .int (bB t_bendTold), .int (bB t_hourTold)]), (t_snow, kI k 12 t_snowF), (ta, kO 6 [.ref ta_signs, .ref ta_words, .int (nI ta_length), .int (nI ta_next), .int ta_place, .int ta_kind, .int ta_value, .long ta_letters, .int ta_fault]), (ta_signs, kB k 1000 ta_signsF), (ta_words, kJ k 23 ta_wordsF)] sz)) 0 0 (va_A [(t, kO 7 [.ref t_names, .ref t_kinds, .ref t_yards, .ref t_paces, .ref t_skills, .ref t_snow, .ref tw, .int (nI t_guests), .int (nI t_snows), .int t_bend, .int t_hour, .int (bB t_bendTold), .int (bB t_hourTold)]), (t_snow, kI k 12 t_snowF), (ta, kO 6 [.ref ta_signs, .ref ta_words, .int (nI ta_length), .int (nI ta_next), .int ta_place, .int ta_kind, .int ta_value, .long ta_letters, .int ta_fault]), (ta_signs, kB k 1000 ta_signsF), (ta_words, kJ k 23 ta_wordsF)] sz) := by
  refine Met.ofW (cc := cX7_readSnow) (maxL := 3) (ret := (some .boolean)) (by decide) rfl ?_
  intro p e s m args below meth c s₁ B hml hv
  obtain ⟨hav, ⟨hsz, hP, hK, hD0, hE⟩, ha0, hDa, hX⟩ := hv
  have hx := B.exec
  have hb := B.bytes
  have hr := B.returns
  have hts := atoms_spec (ws := wsX7_readSnow) B.pre
  have hown : s.vm.findClass RX7 = some m.cls := findClass_of_methodNamed B.named
  have hlocks := B.notSynchronized
  have hi6 : ∀ w ∈ u_ws RX6 TX6 9, w ∈ wsX7_readSnow := by decide +kernel
  have hi7 : ∀ w ∈ u_ws RX7 TX7 13, w ∈ wsX7_readSnow := by decide +kernel
  have lf51 := hts (.fieldLink RX7 51 "LastCook$Told" "snows" "I") (by decide +kernel)
  have lf28 := hts (.fieldLink RX7 28 "LastCook$Told" "snow" "[I") (by decide +kernel)
  have lf132 := hts (.fieldLink RX7 132 "LastCook$Tape" "value" "I") (by decide +kernel)
  subst hsz
  have hD := hD0.self (sz := s.heap.size)
  generalize hAe : va_A [(t, kO 7 [.ref t_names, .ref t_kinds, .ref t_yards, .ref t_paces, .ref t_skills, .ref t_snow, .ref tw, .int (nI t_guests), .int (nI t_snows), .int t_bend, .int t_hour, .int (bB t_bendTold), .int (bB t_hourTold)]), (t_snow, kI k 12 t_snowF), (ta, kO 6 [.ref ta_signs, .ref ta_words, .int (nI ta_length), .int (nI ta_next), .int ta_place, .int ta_kind, .int ta_value, .long ta_letters, .int ta_fault]), (ta_signs, kB k 1000 ta_signsF), (ta_words, kJ k 23 ta_wordsF)] s.heap.size = A at hD ⊢
  have hA : ∀ q : Nat, s.heap.size ≤ q → A q := fun q h => by rw [← hAe]; exact Or.inr h
  have hAX : ∀ q, A q → a0 ≤ q := fun q h => by rw [← hAe] at h; exact h.elim (fun ⟨k9, e9, h9⟩ => hDa.2 k9 _ h9) (fun e => Nat.le_trans ha0 e)
  obtain ⟨tx71, hR71⟩ := hX.1
  have hS : va_S A s.heap s.heap [] := va_S.rf
  have hl := lv_entry ([.ref t, .ref ta]) (n := 3) (Nat.le_of_ble_eq_true rfl)
  rw [show entryFrame m args 3 = entryFrame m ([.ref t, .ref ta] : List Value).toArray 3 by rw [hav], lg_entry_eq]
  generalize (lg_sl ([.ref t, .ref ta]) ++ List.replicate (3 - (lg_sl ([.ref t, .ref ta])).length) Slot.unset).toArray = ls at hl ⊢
  have hl : lv_has ls 3 [(0, .ref t), (1, .ref ta)] := hl
  obtain ⟨R, hR⟩ : ∃ R, R = (headSpec wsX7_readSnow ({ frames := 5, cells := 0, slots := 0, locals := 350 } : Room)).room := ⟨_, rfl⟩
  rw [← hR]
  generalize hQ : MQ below _ args s 0 0 A = Q
  replace hQ := hQ.symm
  obtain ⟨H, hH⟩ : ∃ H, H = s.heap := ⟨_, rfl⟩
  rw [← hH] at hP ⊢
  have hS : va_S A s.heap H [] := by rw [hH]; exact hS
  obtain ⟨E0, hE0⟩ : ∃ E0 : Nat × (Nat → Int32) × Nat × Int32 × Int32 × Int32 × Int64 × Int32 × Bool, E0 = (fX7_readSnow t_snows t_snowF ta_length ta_next ta_place ta_kind ta_value ta_letters ta_fault ta_signsF ta_wordsF f) := ⟨_, rfl⟩
  have hZ : (fX7_readSnow t_snows t_snowF ta_length ta_next ta_place ta_kind ta_value ta_letters ta_fault ta_signsF ta_wordsF f) = E0 := hE0.symm
  refine lv_aload_n hx hb dX7_readSnow_0 rfl (lv_at hl 0 rfl) ?_
  refine va_get (D := D) (ci := 7) (v := .int (nI t_snows)) (C := RX7) (T := TX7) (N := 13) hx hb hts hi7 hown hK hP 0 rfl rfl 8 (by decide) lf51 (fun _ h9 => h9) rfl dX7_readSnow_1 ?_
  refine lv_if_le (tgt := 13) hx hb dX7_readSnow_4 (by decide) (fun c_1 => ?_) (fun c_1 => ?_)
  · skip
    have k_1 : t_snows ≤ 0 := (nI_leI (a := t_snows) (b := 0) (by omega) (by omega)).mp c_1
    have hZ := (if_pos k_1).symm.trans hZ
    refine lv_aload_n hx hb dX7_readSnow_13 rfl (lv_at hl 1 rfl) ?_
    refine kz_VvY (As := []) (rest := []) (wc := [(ta, kO 6 [.ref ta_signs, .ref ta_words, .int (nI ta_length), .int (nI ta_next), .int ta_place, .int ta_kind, .int ta_value, .long ta_letters, .int ta_fault]), (ta_signs, kB k 1000 ta_signsF), (ta_words, kJ k 23 ta_wordsF)]) (wr := [(t, kO 7 [.ref t_names, .ref t_kinds, .ref t_yards, .ref t_paces, .ref t_skills, .ref t_snow, .ref tw, .int (nI t_guests), .int (nI t_snows), .int t_bend, .int t_hour, .int (bB t_bendTold), .int (bB t_hourTold)]), (t_snow, kI k 12 t_snowF)]) ⟨hx, hb, hml, hown, hts⟩ hX hAX ha0 hK hE hP hD hS hA (sX6_advance l D k a0 sa sv f H.size ta ta_signs ta_words ta_length ta_next ta_place ta_kind ta_value ta_letters ta_fault ta_signsF ta_wordsF (by first | omega | assumption | decide) (by first | omega | assumption | decide)) (cwV 0 hts gX7_readSnow_X6_advance rfl rfl rfl (by decide +kernel) (by rw [hR]; exact ⟨Nat.le_of_ble_eq_true rfl, Nat.le_of_ble_eq_true rfl⟩)) [2, 3, 4] [0, 1] rfl rfl (by decide) (by decide) (by decide) 0 rfl rfl rfl hl.1 rfl (Nat.le_of_ble_eq_true rfl) dX7_readSnow_14 (by rw [hR]; exact ⟨Nat.le_of_ble_eq_true rfl, Nat.le_of_ble_eq_true rfl⟩) (fun u2 H locs hw2 hP hD hS => ?_)
    obtain ⟨u_ta_32, u_ta_42, u_ta_52, u_ta_62, u_ta_72⟩ := u2
    try dsimp only at hw2
    have hP : va_P D vwCl [(t, kO 7 [.ref t_names, .ref t_kinds, .ref t_yards, .ref t_paces, .ref t_skills, .ref t_snow, .ref tw, .int (nI t_guests), .int (nI t_snows), .int t_bend, .int t_hour, .int (bB t_bendTold), .int (bB t_hourTold)]), (t_snow, kI k 12 t_snowF), (ta, kO 6 [.ref ta_signs, .ref ta_words, .int (nI ta_length), .int (nI u_ta_32), .int u_ta_42, .int u_ta_52, .int u_ta_62, .long u_ta_72, .int ta_fault]), (ta_signs, kB k 1000 ta_signsF), (ta_words, kJ k 23 ta_wordsF)] H := hP
    have hD : va_D A [(t, kO 7 [.ref t_names, .ref t_kinds, .ref t_yards, .ref t_paces, .ref t_skills, .ref t_snow, .ref tw, .int (nI t_guests), .int (nI t_snows), .int t_bend, .int t_hour, .int (bB t_bendTold), .int (bB t_hourTold)]), (t_snow, kI k 12 t_snowF), (ta, kO 6 [.ref ta_signs, .ref ta_words, .int (nI ta_length), .int (nI u_ta_32), .int u_ta_42, .int u_ta_52, .int u_ta_62, .long u_ta_72, .int ta_fault]), (ta_signs, kB k 1000 ta_signsF), (ta_words, kJ k 23 ta_wordsF)] := hD
    obtain ⟨hw2_0, hw2_1⟩ := hw2
    have hZ := bn5_e hw2_1 hZ
    refine lv_iconst (v := 0) hx hb dX7_readSnow_17 (by decide) ?_
    refine lv_istore_n (lv' := [(2, .int 0), (0, .ref t), (1, .ref ta)]) hx hb dX7_readSnow_18 rfl hl (by decide) rfl (fun ls hl => ?_)
    have hloop19 : ∀ (nq : Nat) (l2_19 : Nat) (ft_8_19 : Nat) (at_snow_19 : Nat → Int32) (fta_3_19 : Nat) (fta_4_19 : Int32) (fta_5_19 : Int32) (fta_6_19 : Int32) (fta_7_19 : Int64) (fta_8_19 : Int32) (H : Heap) (locs : List Loc) (ls : Array Slot), (13 + 1 - l2_19) < nq → (l2_19 ≤ 13) → (ft_8_19 ≤ 12) → (fta_3_19 ≤ 1000) → (lp (fun _ _ _ _ _ _ _ _ _ => (0, (fun _ => 0), 0, (0 : Int32), (0 : Int32), (0 : Int32), (0 : Int64), (0 : Int32), false)) (fX7_readSnow_B19a ta_length ta_signsF ta_wordsF f) nq l2_19 ft_8_19 at_snow_19 fta_3_19 fta_4_19 fta_5_19 fta_6_19 fta_7_19 fta_8_19 = E0) → va_P D vwCl [(t, kO 7 [.ref t_names, .ref t_kinds, .ref t_yards, .ref t_paces, .ref t_skills, .ref t_snow, .ref tw, .int (nI t_guests), .int (nI ft_8_19), .int t_bend, .int t_hour, .int (bB t_bendTold), .int (bB t_hourTold)]), (t_snow, kI k 12 at_snow_19), (ta, kO 6 [.ref ta_signs, .ref ta_words, .int (nI ta_length), .int (nI fta_3_19), .int fta_4_19, .int fta_5_19, .int fta_6_19, .long fta_7_19, .int fta_8_19]), (ta_signs, kB k 1000 ta_signsF), (ta_words, kJ k 23 ta_wordsF)] H → va_D A [(t, kO 7 [.ref t_names, .ref t_kinds, .ref t_yards, .ref t_paces, .ref t_skills, .ref t_snow, .ref tw, .int (nI t_guests), .int (nI ft_8_19), .int t_bend, .int t_hour, .int (bB t_bendTold), .int (bB t_hourTold)]), (t_snow, kI k 12 at_snow_19), (ta, kO 6 [.ref ta_signs, .ref ta_words, .int (nI ta_length), .int (nI fta_3_19), .int fta_4_19, .int fta_5_19, .int fta_6_19, .long fta_7_19, .int fta_8_19]), (ta_signs, kB k 1000 ta_signsF), (ta_words, kJ k 23 ta_wordsF)] → va_S A s.heap H locs → lv_has ls 3 [(0, .ref t), (1, .ref ta), (2, .int (nI l2_19))] → W p l e R s m args below meth c H locs 0 0 Q (F0 m 19 ls []) := by
      intro n19
      induction n19 with
      | zero => intro l2_19 ft_8_19 at_snow_19 fta_3_19 fta_4_19 fta_5_19 fta_6_19 fta_7_19 fta_8_19 H locs ls hm; exact absurd hm (Nat.not_lt_zero _)
      | succ n19 ih19 =>
        intro l2_19 ft_8_19 at_snow_19 fta_3_19 fta_4_19 fta_5_19 fta_6_19 fta_7_19 fta_8_19 H locs ls hm19 i_l2_19 i_ft_8_19 i_fta_3_19 hZ hP hD hS hl
        obtain ⟨rc19_3, hrc19_3⟩ : ∃ r : Nat → Nat → (Nat → Int32) → Nat → Int32 → Int32 → Int32 → Int64 → Int32 → Nat × (Nat → Int32) × Nat × Int32 × Int32 × Int32 × Int64 × Int32 × Bool, r = lp (fun _ _ _ _ _ _ _ _ _ => (0, (fun _ => 0), 0, (0 : Int32), (0 : Int32), (0 : Int32), (0 : Int64), (0 : Int32), false)) (fX7_readSnow_B19a ta_length ta_signsF ta_wordsF f) n19 := ⟨_, rfl⟩
        have hZ : (fX7_readSnow_B19a ta_length ta_signsF ta_wordsF f) rc19_3 l2_19 ft_8_19 at_snow_19 fta_3_19 fta_4_19 fta_5_19 fta_6_19 fta_7_19 fta_8_19 = E0 := by rw [hrc19_3]; exact hZ
        refine lv_iload_n hx hb dX7_readSnow_19 rfl (lv_at hl 2 rfl) ?_
        refine lv_aload_n hx hb dX7_readSnow_20 rfl (lv_at hl 0 rfl) ?_
        refine va_get (D := D) (ci := 7) (v := .ref t_snow) (C := RX7) (T := TX7) (N := 13) hx hb hts hi7 hown hK hP 0 rfl rfl 5 (by decide) lf28 (fun _ h9 => h9) rfl dX7_readSnow_21 ?_
        refine va_alen (v := 12) hx hb hK hP 1 0 rfl rfl rfl dX7_readSnow_24 ?_
        have hj105_4 : ∀ (H : Heap) (locs : List Loc) (ls : Array Slot), ((fX7_readSnow_J105a ft_8_19 at_snow_19 fta_3_19 fta_4_19 fta_5_19 fta_6_19 fta_7_19 fta_8_19) = E0) → va_P D vwCl [(t, kO 7 [.ref t_names, .ref t_kinds, .ref t_yards, .ref t_paces, .ref t_skills, .ref t_snow, .ref tw, .int (nI t_guests), .int (nI ft_8_19), .int t_bend, .int t_hour, .int (bB t_bendTold), .int (bB t_hourTold)]), (t_snow, kI k 12 at_snow_19), (ta, kO 6 [.ref ta_signs, .ref ta_words, .int (nI ta_length), .int (nI fta_3_19), .int fta_4_19, .int fta_5_19, .int fta_6_19, .long fta_7_19, .int fta_8_19]), (ta_signs, kB k 1000 ta_signsF), (ta_words, kJ k 23 ta_wordsF)] H → va_D A [(t, kO 7 [.ref t_names, .ref t_kinds, .ref t_yards, .ref t_paces, .ref t_skills, .ref t_snow, .ref tw, .int (nI t_guests), .int (nI ft_8_19), .int t_bend, .int t_hour, .int (bB t_bendTold), .int (bB t_hourTold)]), (t_snow, kI k 12 at_snow_19), (ta, kO 6 [.ref ta_signs, .ref ta_words, .int (nI ta_length), .int (nI fta_3_19), .int fta_4_19, .int fta_5_19, .int fta_6_19, .long fta_7_19, .int fta_8_19]), (ta_signs, kB k 1000 ta_signsF), (ta_words, kJ k 23 ta_wordsF)] → va_S A s.heap H locs → lv_has ls 3 [(0, .ref t), (1, .ref ta), (2, .int (nI l2_19))] → W p l e R s m args below meth c H locs 0 0 Q (F0 m 105 ls []) := by
          intro H locs ls hZ hP hD hS hl
          refine lv_iconst (v := 1) hx hb dX7_readSnow_105 (by decide) ?_
          rw [hQ]
          have hP9 := hP.sub (ws' := [(t, kO 7 [.ref t_names, .ref t_kinds, .ref t_yards, .ref t_paces, .ref t_skills, .ref t_snow, .ref tw, .int (nI t_guests), .int (nI ft_8_19), .int t_bend, .int t_hour, .int (bB t_bendTold), .int (bB t_hourTold)]), (t_snow, kI k 12 at_snow_19), (ta, kO 6 [.ref ta_signs, .ref ta_words, .int (nI ta_length), .int (nI fta_3_19), .int fta_4_19, .int fta_5_19, .int fta_6_19, .long fta_7_19, .int fta_8_19]), (ta_signs, kB k 1000 ta_signsF), (ta_words, kJ k 23 ta_wordsF)]) [0, 1, 2, 3, 4] rfl
          have hD9 := hD.sub (ws' := [(t, kO 7 [.ref t_names, .ref t_kinds, .ref t_yards, .ref t_paces, .ref t_skills, .ref t_snow, .ref tw, .int (nI t_guests), .int (nI ft_8_19), .int t_bend, .int t_hour, .int (bB t_bendTold), .int (bB t_hourTold)]), (t_snow, kI k 12 at_snow_19), (ta, kO 6 [.ref ta_signs, .ref ta_words, .int (nI ta_length), .int (nI fta_3_19), .int fta_4_19, .int fta_5_19, .int fta_6_19, .long fta_7_19, .int fta_8_19]), (ta_signs, kB k 1000 ta_signsF), (ta_words, kJ k 23 ta_wordsF)]) [0, 1, 2, 3, 4] (by decide) rfl
          exact W.zret (v := 1) hx hb hr rfl (fun zt ht hW => ⟨⟨1, ⟨ft_8_19, at_snow_19, fta_3_19, fta_4_19, fta_5_19, fta_6_19, fta_7_19, fta_8_19, true⟩, rfl, ⟨rfl, (by first | omega | (dsimp only; omega) | assumption), (by first | omega | (dsimp only; omega) | assumption), (hZ.trans hE0)⟩, by rw [ht]; exact hP9, hD9⟩, hS.F ht⟩) hS.2.2 dX7_readSnow_106
        refine lv_icmp_gt (tgt := 105) hx hb dX7_readSnow_25 (by decide) (fun c_5 => ?_) (fun c_5 => ?_)
        · skip
          have k_5 : 12 < l2_19 := (nI_ltI (a := 12) (b := l2_19) (by omega) (by omega)).mp c_5
          have hZ := (if_pos k_5).symm.trans hZ
          exact hj105_4 _ _ _ hZ (hP.sub [0, 1, 2, 3, 4] rfl) (hD.sub [0, 1, 2, 3, 4] (by decide) rfl) hS (lv_sub hl [0, 1, 2] rfl)
        · skip
          have k_5 : ¬ (12 < l2_19) := fun h => c_5 ((nI_ltI (a := 12) (b := l2_19) (by omega) (by omega)).mpr h)
          have hZ := (if_neg k_5).symm.trans hZ
          refine lv_aload_n hx hb dX7_readSnow_28 rfl (lv_at hl 0 rfl) ?_
          refine va_get (D := D) (ci := 7) (v := .int (nI ft_8_19)) (C := RX7) (T := TX7) (N := 13) hx hb hts hi7 hown hK hP 0 rfl rfl 8 (by decide) lf51 (fun _ h9 => h9) rfl dX7_readSnow_29 ?_
          have hj42_6 : ∀ (H : Heap) (locs : List Loc) (ls : Array Slot), ((fX7_readSnow_J42a ta_length ta_signsF ta_wordsF f l2_19 ft_8_19 at_snow_19 fta_3_19 fta_4_19 fta_5_19 fta_6_19 fta_7_19 fta_8_19 rc19_3) = E0) → va_P D vwCl [(t, kO 7 [.ref t_names, .ref t_kinds, .ref t_yards, .ref t_paces, .ref t_skills, .ref t_snow, .ref tw, .int (nI t_guests), .int (nI ft_8_19), .int t_bend, .int t_hour, .int (bB t_bendTold), .int (bB t_hourTold)]), (t_snow, kI k 12 at_snow_19), (ta, kO 6 [.ref ta_signs, .ref ta_words, .int (nI ta_length), .int (nI fta_3_19), .int fta_4_19, .int fta_5_19, .int fta_6_19, .long fta_7_19, .int fta_8_19]), (ta_signs, kB k 1000 ta_signsF), (ta_words, kJ k 23 ta_wordsF)] H → va_D A [(t, kO 7 [.ref t_names, .ref t_kinds, .ref t_yards, .ref t_paces, .ref t_skills, .ref t_snow, .ref tw, .int (nI t_guests), .int (nI ft_8_19), .int t_bend, .int t_hour, .int (bB t_bendTold), .int (bB t_hourTold)]), (t_snow, kI k 12 at_snow_19), (ta, kO 6 [.ref ta_signs, .ref ta_words, .int (nI ta_length), .int (nI fta_3_19), .int fta_4_19, .int fta_5_19, .int fta_6_19, .long fta_7_19, .int fta_8_19]), (ta_signs, kB k 1000 ta_signsF), (ta_words, kJ k 23 ta_wordsF)] → va_S A s.heap H locs → lv_has ls 3 [(0, .ref t), (1, .ref ta), (2, .int (nI l2_19))] → W p l e R s m args below meth c H locs 0 0 Q (F0 m 42 ls []) := by
            intro H locs ls hZ hP hD hS hl
            refine lv_aload_n hx hb dX7_readSnow_42 rfl (lv_at hl 1 rfl) ?_
            refine lv_iconst (v := 0) hx hb dX7_readSnow_43 (by decide) ?_
            refine lv_bipush (v := 9) hx hb dX7_readSnow_44 (by decide) ?_
            refine kz_Vi (As := [.int 0, .int 9]) (rest := []) (wc := [(ta, kO 6 [.ref ta_signs, .ref ta_words, .int (nI ta_length), .int (nI fta_3_19), .int fta_4_19, .int fta_5_19, .int fta_6_19, .long fta_7_19, .int fta_8_19])]) (wr := [(t, kO 7 [.ref t_names, .ref t_kinds, .ref t_yards, .ref t_paces, .ref t_skills, .ref t_snow, .ref tw, .int (nI t_guests), .int (nI ft_8_19), .int t_bend, .int t_hour, .int (bB t_bendTold), .int (bB t_hourTold)]), (t_snow, kI k 12 at_snow_19), (ta_signs, kB k 1000 ta_signsF), (ta_words, kJ k 23 ta_wordsF)]) ⟨hx, hb, hml, hown, hts⟩ hK hE hP hD hS hA (sX6_checkNumber l D k H.size ta 0 9 ta_signs ta_words ta_length fta_3_19 fta_4_19 fta_5_19 fta_6_19 fta_7_19 fta_8_19 (by first | omega | assumption | decide) (by first | omega | assumption | decide)) (cwV 2 hts gX7_readSnow_X6_checkNumber rfl rfl rfl (by decide +kernel) (by rw [hR]; exact ⟨Nat.le_of_ble_eq_true rfl, Nat.le_of_ble_eq_true rfl⟩)) [2] [0, 1, 3, 4] rfl rfl (by decide) (by decide) (by decide) 0 rfl rfl rfl hl.1 rfl (Nat.le_of_ble_eq_true rfl) dX7_readSnow_46 (by rw [hR]; exact ⟨Nat.le_of_ble_eq_true rfl, Nat.le_of_ble_eq_true rfl⟩) (fun r7 u7 H locs hw7 hP hD hS => ?_)
            obtain ⟨u_ta_87, ub7⟩ := u7
            try dsimp only at hw7
            obtain ⟨rfl, hw7⟩ := hw7
            have hP : va_P D vwCl [(t, kO 7 [.ref t_names, .ref t_kinds, .ref t_yards, .ref t_paces, .ref t_skills, .ref t_snow, .ref tw, .int (nI t_guests), .int (nI ft_8_19), .int t_bend, .int t_hour, .int (bB t_bendTold), .int (bB t_hourTold)]), (t_snow, kI k 12 at_snow_19), (ta_signs, kB k 1000 ta_signsF), (ta_words, kJ k 23 ta_wordsF), (ta, kO 6 [.ref ta_signs, .ref ta_words, .int (nI ta_length), .int (nI fta_3_19), .int fta_4_19, .int fta_5_19, .int fta_6_19, .long fta_7_19, .int u_ta_87])] H := hP
            have hD : va_D A [(t, kO 7 [.ref t_names, .ref t_kinds, .ref t_yards, .ref t_paces, .ref t_skills, .ref t_snow, .ref tw, .int (nI t_guests), .int (nI ft_8_19), .int t_bend, .int t_hour, .int (bB t_bendTold), .int (bB t_hourTold)]), (t_snow, kI k 12 at_snow_19), (ta_signs, kB k 1000 ta_signsF), (ta_words, kJ k 23 ta_wordsF), (ta, kO 6 [.ref ta_signs, .ref ta_words, .int (nI ta_length), .int (nI fta_3_19), .int fta_4_19, .int fta_5_19, .int fta_6_19, .long fta_7_19, .int u_ta_87])] := hD
            have hw7_0 := hw7
            have hZ := bn2_e hw7_0 hZ
            refine lv_if_ne (tgt := 54) hx hb dX7_readSnow_49 (by decide) (fun c_8 => ?_) (fun c_8 => ?_)
            · skip
              have b_8 : ub7 = true := bB_1 c_8
              have hZ := (if_pos b_8).symm.trans hZ
              refine lv_aload_n hx hb dX7_readSnow_54 rfl (lv_at hl 0 rfl) ?_
              refine va_get (D := D) (ci := 7) (v := .int (nI ft_8_19)) (C := RX7) (T := TX7) (N := 13) hx hb hts hi7 hown hK hP 0 rfl rfl 8 (by decide) lf51 (fun _ h9 => h9) rfl dX7_readSnow_55 ?_
              refine lv_aload_n hx hb dX7_readSnow_58 rfl (lv_at hl 0 rfl) ?_
              refine va_get (D := D) (ci := 7) (v := .ref t_snow) (C := RX7) (T := TX7) (N := 13) hx hb hts hi7 hown hK hP 0 rfl rfl 5 (by decide) lf28 (fun _ h9 => h9) rfl dX7_readSnow_59 ?_
              refine va_alen (v := 12) hx hb hK hP 1 0 rfl rfl rfl dX7_readSnow_62 ?_
              refine lv_icmp_lt (tgt := 72) hx hb dX7_readSnow_63 (by decide) (fun c_9 => ?_) (fun c_9 => ?_)
              · skip
                have k_9 : ft_8_19 < 12 := (nI_ltI (a := ft_8_19) (b := 12) (by omega) (by omega)).mp c_9
                have hZ := (if_pos k_9).symm.trans hZ
                refine lv_aload_n hx hb dX7_readSnow_72 rfl (lv_at hl 0 rfl) ?_
                refine va_get (D := D) (ci := 7) (v := .ref t_snow) (C := RX7) (T := TX7) (N := 13) hx hb hts hi7 hown hK hP 0 rfl rfl 5 (by decide) lf28 (fun _ h9 => h9) rfl dX7_readSnow_73 ?_
                refine lv_aload_n hx hb dX7_readSnow_76 rfl (lv_at hl 0 rfl) ?_
                refine va_get (D := D) (ci := 7) (v := .int (nI ft_8_19)) (C := RX7) (T := TX7) (N := 13) hx hb hts hi7 hown hK hP 0 rfl rfl 8 (by decide) lf51 (fun _ h9 => h9) rfl dX7_readSnow_77 ?_
                refine lv_aload_n hx hb dX7_readSnow_80 rfl (lv_at hl 1 rfl) ?_
                refine va_get (D := D) (ci := 6) (v := .int fta_6_19) (C := RX6) (T := TX6) (N := 9) hx hb hts hi6 hown hK hP 4 rfl rfl 6 (by decide) lf132 (fun _ h9 => h9) rfl dX7_readSnow_81 ?_
                refine va_iast hx hb hK hP hD hS 1 0 rfl rfl (vp_in_nI (n := ft_8_19) (by omega) (by omega)) dX7_readSnow_84 (fun H locs hP hD hS => ?_)
                have hP : va_P D vwCl [(t, kO 7 [.ref t_names, .ref t_kinds, .ref t_yards, .ref t_paces, .ref t_skills, .ref t_snow, .ref tw, .int (nI t_guests), .int (nI ft_8_19), .int t_bend, .int t_hour, .int (bB t_bendTold), .int (bB t_hourTold)]), (t_snow, kI k 12 (upd at_snow_19 (Int32.toNatClampNeg (nI ft_8_19)) fta_6_19)), (ta_signs, kB k 1000 ta_signsF), (ta_words, kJ k 23 ta_wordsF), (ta, kO 6 [.ref ta_signs, .ref ta_words, .int (nI ta_length), .int (nI fta_3_19), .int fta_4_19, .int fta_5_19, .int fta_6_19, .long fta_7_19, .int u_ta_87])] H := hP
                have hD : va_D A [(t, kO 7 [.ref t_names, .ref t_kinds, .ref t_yards, .ref t_paces, .ref t_skills, .ref t_snow, .ref tw, .int (nI t_guests), .int (nI ft_8_19), .int t_bend, .int t_hour, .int (bB t_bendTold), .int (bB t_hourTold)]), (t_snow, kI k 12 (upd at_snow_19 (Int32.toNatClampNeg (nI ft_8_19)) fta_6_19)), (ta_signs, kB k 1000 ta_signsF), (ta_words, kJ k 23 ta_wordsF), (ta, kO 6 [.ref ta_signs, .ref ta_words, .int (nI ta_length), .int (nI fta_3_19), .int fta_4_19, .int fta_5_19, .int fta_6_19, .long fta_7_19, .int u_ta_87])] := hD
                refine lv_aload_n hx hb dX7_readSnow_85 rfl (lv_at hl 0 rfl) ?_
                refine lv_dup hx hb dX7_readSnow_86 rfl ?_
                refine va_get (D := D) (ci := 7) (v := .int (nI ft_8_19)) (C := RX7) (T := TX7) (N := 13) hx hb hts hi7 hown hK hP 0 rfl rfl 8 (by decide) lf51 (fun _ h9 => h9) rfl dX7_readSnow_87 ?_
                refine lv_iconst (v := 1) hx hb dX7_readSnow_90 (by decide) ?_
                refine lv_iadd hx hb dX7_readSnow_91 ?_
                refine lv_topi (fun x10 ex10 => ?_)
                obtain rfl : x10 = (nI (ft_8_19 + 1)) := ex10.trans (nI_add ft_8_19 1)
                refine va_put (D := D) (ci := 7) (v := .int (nI (ft_8_19 + 1))) (ty := .int) (C := RX7) (T := TX7) (N := 13) hx hb hts hi7 tyX7 tyX7_ok nmX7 hown hK hP hD hS 0 rfl rfl 8 (by decide) lf51 (fun _ h9 => h9) rfl (by decide +kernel) rfl rfl (Nat.le_of_ble_eq_true rfl) dX7_readSnow_92 (fun H locs hP hD hS => ?_)
                have hP : va_P D vwCl [(t, kO 7 [.ref t_names, .ref t_kinds, .ref t_yards, .ref t_paces, .ref t_skills, .ref t_snow, .ref tw, .int (nI t_guests), .int (nI (ft_8_19 + 1)), .int t_bend, .int t_hour, .int (bB t_bendTold), .int (bB t_hourTold)]), (t_snow, kI k 12 (upd at_snow_19 (Int32.toNatClampNeg (nI ft_8_19)) fta_6_19)), (ta_signs, kB k 1000 ta_signsF), (ta_words, kJ k 23 ta_wordsF), (ta, kO 6 [.ref ta_signs, .ref ta_words, .int (nI ta_length), .int (nI fta_3_19), .int fta_4_19, .int fta_5_19, .int fta_6_19, .long fta_7_19, .int u_ta_87])] H := hP
                have hD : va_D A [(t, kO 7 [.ref t_names, .ref t_kinds, .ref t_yards, .ref t_paces, .ref t_skills, .ref t_snow, .ref tw, .int (nI t_guests), .int (nI (ft_8_19 + 1)), .int t_bend, .int t_hour, .int (bB t_bendTold), .int (bB t_hourTold)]), (t_snow, kI k 12 (upd at_snow_19 (Int32.toNatClampNeg (nI ft_8_19)) fta_6_19)), (ta_signs, kB k 1000 ta_signsF), (ta_words, kJ k 23 ta_wordsF), (ta, kO 6 [.ref ta_signs, .ref ta_words, .int (nI ta_length), .int (nI fta_3_19), .int fta_4_19, .int fta_5_19, .int fta_6_19, .long fta_7_19, .int u_ta_87])] := hD
                refine lv_aload_n hx hb dX7_readSnow_95 rfl (lv_at hl 1 rfl) ?_
                refine kz_VvY (As := []) (rest := []) (wc := [(ta, kO 6 [.ref ta_signs, .ref ta_words, .int (nI ta_length), .int (nI fta_3_19), .int fta_4_19, .int fta_5_19, .int fta_6_19, .long fta_7_19, .int u_ta_87]), (ta_signs, kB k 1000 ta_signsF), (ta_words, kJ k 23 ta_wordsF)]) (wr := [(t, kO 7 [.ref t_names, .ref t_kinds, .ref t_yards, .ref t_paces, .ref t_skills, .ref t_snow, .ref tw, .int (nI t_guests), .int (nI (ft_8_19 + 1)), .int t_bend, .int t_hour, .int (bB t_bendTold), .int (bB t_hourTold)]), (t_snow, kI k 12 (upd at_snow_19 (Int32.toNatClampNeg (nI ft_8_19)) fta_6_19))]) ⟨hx, hb, hml, hown, hts⟩ hX hAX ha0 hK hE hP hD hS hA (sX6_advance l D k a0 sa sv f H.size ta ta_signs ta_words ta_length fta_3_19 fta_4_19 fta_5_19 fta_6_19 fta_7_19 u_ta_87 ta_signsF ta_wordsF (by first | omega | assumption | decide) (by first | omega | assumption | decide)) (cwV 0 hts gX7_readSnow_X6_advance rfl rfl rfl (by decide +kernel) (by rw [hR]; exact ⟨Nat.le_of_ble_eq_true rfl, Nat.le_of_ble_eq_true rfl⟩)) [4, 2, 3] [0, 1] rfl rfl (by decide) (by decide) (by decide) 0 rfl rfl rfl hl.1 rfl (Nat.le_of_ble_eq_true rfl) dX7_readSnow_96 (by rw [hR]; exact ⟨Nat.le_of_ble_eq_true rfl, Nat.le_of_ble_eq_true rfl⟩) (fun u11 H locs hw11 hP hD hS => ?_)
                obtain ⟨u_ta_311, u_ta_411, u_ta_511, u_ta_611, u_ta_711⟩ := u11
                try dsimp only at hw11
                have hP : va_P D vwCl [(t, kO 7 [.ref t_names, .ref t_kinds, .ref t_yards, .ref t_paces, .ref t_skills, .ref t_snow, .ref tw, .int (nI t_guests), .int (nI (ft_8_19 + 1)), .int t_bend, .int t_hour, .int (bB t_bendTold), .int (bB t_hourTold)]), (t_snow, kI k 12 (upd at_snow_19 (Int32.toNatClampNeg (nI ft_8_19)) fta_6_19)), (ta, kO 6 [.ref ta_signs, .ref ta_words, .int (nI ta_length), .int (nI u_ta_311), .int u_ta_411, .int u_ta_511, .int u_ta_611, .long u_ta_711, .int u_ta_87]), (ta_signs, kB k 1000 ta_signsF), (ta_words, kJ k 23 ta_wordsF)] H := hP
                have hD : va_D A [(t, kO 7 [.ref t_names, .ref t_kinds, .ref t_yards, .ref t_paces, .ref t_skills, .ref t_snow, .ref tw, .int (nI t_guests), .int (nI (ft_8_19 + 1)), .int t_bend, .int t_hour, .int (bB t_bendTold), .int (bB t_hourTold)]), (t_snow, kI k 12 (upd at_snow_19 (Int32.toNatClampNeg (nI ft_8_19)) fta_6_19)), (ta, kO 6 [.ref ta_signs, .ref ta_words, .int (nI ta_length), .int (nI u_ta_311), .int u_ta_411, .int u_ta_511, .int u_ta_611, .long u_ta_711, .int u_ta_87]), (ta_signs, kB k 1000 ta_signsF), (ta_words, kJ k 23 ta_wordsF)] := hD
                obtain ⟨hw11_0, hw11_1⟩ := hw11
                have hZ := bn5_e hw11_1 hZ
                refine lv_iinc (v := (nI (l2_19 + 1))) (lv' := [(2, .int (nI (l2_19 + 1))), (0, .ref t), (1, .ref ta)]) hx hb dX7_readSnow_99 hl (k := 2) rfl (nI_1 _) (by decide) rfl (fun ls hl => ?_)
                refine lv_goto (tgt := 19) hx hb dX7_readSnow_102 (by decide) ?_
                exact ih19 (l2_19 + 1) (ft_8_19 + 1) (upd at_snow_19 (Int32.toNatClampNeg (nI ft_8_19)) fta_6_19) u_ta_311 u_ta_411 u_ta_511 u_ta_611 u_ta_711 u_ta_87 _ _ _ (by omega) (by first | omega | assumption) (by first | omega | assumption) (by first | omega | assumption) (by rw [← hrc19_3]; exact hZ) (hP.sub [0, 1, 2, 3, 4] rfl) (hD.sub [0, 1, 2, 3, 4] (by decide) rfl) hS (lv_sub hl [1, 2, 0] rfl)
              · skip
                have k_9 : ¬ (ft_8_19 < 12) := fun h => c_9 ((nI_ltI (a := ft_8_19) (b := 12) (by omega) (by omega)).mpr h)
                have hZ := (if_neg k_9).symm.trans hZ
                refine lv_aload_n hx hb dX7_readSnow_66 rfl (lv_at hl 1 rfl) ?_
                refine lv_iconst (v := 5) hx hb dX7_readSnow_67 (by decide) ?_
                refine kz_Vi (As := [.int 5]) (rest := []) (wc := [(ta, kO 6 [.ref ta_signs, .ref ta_words, .int (nI ta_length), .int (nI fta_3_19), .int fta_4_19, .int fta_5_19, .int fta_6_19, .long fta_7_19, .int u_ta_87])]) (wr := [(t, kO 7 [.ref t_names, .ref t_kinds, .ref t_yards, .ref t_paces, .ref t_skills, .ref t_snow, .ref tw, .int (nI t_guests), .int (nI ft_8_19), .int t_bend, .int t_hour, .int (bB t_bendTold), .int (bB t_hourTold)]), (t_snow, kI k 12 at_snow_19), (ta_signs, kB k 1000 ta_signsF), (ta_words, kJ k 23 ta_wordsF)]) ⟨hx, hb, hml, hown, hts⟩ hK hE hP hD hS hA (sX6_wrong l D k H.size ta 5 ta_signs ta_words ta_length fta_3_19 fta_4_19 fta_5_19 fta_6_19 fta_7_19 u_ta_87 (by first | omega | assumption | decide) (by first | omega | assumption | decide)) (cwV 1 hts gX7_readSnow_X6_wrong rfl rfl rfl (by decide +kernel) (by rw [hR]; exact ⟨Nat.le_of_ble_eq_true rfl, Nat.le_of_ble_eq_true rfl⟩)) [4] [0, 1, 2, 3] rfl rfl (by decide) (by decide) (by decide) 0 rfl rfl rfl hl.1 rfl (Nat.le_of_ble_eq_true rfl) dX7_readSnow_68 (by rw [hR]; exact ⟨Nat.le_of_ble_eq_true rfl, Nat.le_of_ble_eq_true rfl⟩) (fun r12 u12 H locs hw12 hP hD hS => ?_)
                obtain ⟨u_ta_812, ub12⟩ := u12
                try dsimp only at hw12
                obtain ⟨rfl, hw12⟩ := hw12
                have hP : va_P D vwCl [(t, kO 7 [.ref t_names, .ref t_kinds, .ref t_yards, .ref t_paces, .ref t_skills, .ref t_snow, .ref tw, .int (nI t_guests), .int (nI ft_8_19), .int t_bend, .int t_hour, .int (bB t_bendTold), .int (bB t_hourTold)]), (t_snow, kI k 12 at_snow_19), (ta_signs, kB k 1000 ta_signsF), (ta_words, kJ k 23 ta_wordsF), (ta, kO 6 [.ref ta_signs, .ref ta_words, .int (nI ta_length), .int (nI fta_3_19), .int fta_4_19, .int fta_5_19, .int fta_6_19, .long fta_7_19, .int u_ta_812])] H := hP
                have hD : va_D A [(t, kO 7 [.ref t_names, .ref t_kinds, .ref t_yards, .ref t_paces, .ref t_skills, .ref t_snow, .ref tw, .int (nI t_guests), .int (nI ft_8_19), .int t_bend, .int t_hour, .int (bB t_bendTold), .int (bB t_hourTold)]), (t_snow, kI k 12 at_snow_19), (ta_signs, kB k 1000 ta_signsF), (ta_words, kJ k 23 ta_wordsF), (ta, kO 6 [.ref ta_signs, .ref ta_words, .int (nI ta_length), .int (nI fta_3_19), .int fta_4_19, .int fta_5_19, .int fta_6_19, .long fta_7_19, .int u_ta_812])] := hD
                have hw12_0 := hw12
                have hZ := bn2_e hw12_0 hZ
                rw [hQ]
                have hP9 := hP.sub (ws' := [(t, kO 7 [.ref t_names, .ref t_kinds, .ref t_yards, .ref t_paces, .ref t_skills, .ref t_snow, .ref tw, .int (nI t_guests), .int (nI ft_8_19), .int t_bend, .int t_hour, .int (bB t_bendTold), .int (bB t_hourTold)]), (t_snow, kI k 12 at_snow_19), (ta, kO 6 [.ref ta_signs, .ref ta_words, .int (nI ta_length), .int (nI fta_3_19), .int fta_4_19, .int fta_5_19, .int fta_6_19, .long fta_7_19, .int u_ta_812]), (ta_signs, kB k 1000 ta_signsF), (ta_words, kJ k 23 ta_wordsF)]) [0, 1, 4, 2, 3] rfl
                have hD9 := hD.sub (ws' := [(t, kO 7 [.ref t_names, .ref t_kinds, .ref t_yards, .ref t_paces, .ref t_skills, .ref t_snow, .ref tw, .int (nI t_guests), .int (nI ft_8_19), .int t_bend, .int t_hour, .int (bB t_bendTold), .int (bB t_hourTold)]), (t_snow, kI k 12 at_snow_19), (ta, kO 6 [.ref ta_signs, .ref ta_words, .int (nI ta_length), .int (nI fta_3_19), .int fta_4_19, .int fta_5_19, .int fta_6_19, .long fta_7_19, .int u_ta_812]), (ta_signs, kB k 1000 ta_signsF), (ta_words, kJ k 23 ta_wordsF)]) [0, 1, 4, 2, 3] (by decide) rfl
                exact W.zret (v := (bB ub12)) hx hb hr (narrow_bB _) (fun zt ht hW => ⟨⟨(bB ub12), ⟨ft_8_19, at_snow_19, fta_3_19, fta_4_19, fta_5_19, fta_6_19, fta_7_19, u_ta_812, ub12⟩, rfl, ⟨rfl, (by first | omega | (dsimp only; omega) | assumption), (by first | omega | (dsimp only; omega) | assumption), (hZ.trans hE0)⟩, by rw [ht]; exact hP9, hD9⟩, hS.F ht⟩) hS.2.2 dX7_readSnow_71
            · skip
              have b_8 : ub7 = false := bB_0 c_8
              have hZ := (if_neg (bF b_8)).symm.trans hZ
              refine lv_iconst (v := 0) hx hb dX7_readSnow_52 (by decide) ?_
              rw [hQ]
              have hP9 := hP.sub (ws' := [(t, kO 7 [.ref t_names, .ref t_kinds, .ref t_yards, .ref t_paces, .ref t_skills, .ref t_snow, .ref tw, .int (nI t_guests), .int (nI ft_8_19), .int t_bend, .int t_hour, .int (bB t_bendTold), .int (bB t_hourTold)]), (t_snow, kI k 12 at_snow_19), (ta, kO 6 [.ref ta_signs, .ref ta_words, .int (nI ta_length), .int (nI fta_3_19), .int fta_4_19, .int fta_5_19, .int fta_6_19, .long fta_7_19, .int u_ta_87]), (ta_signs, kB k 1000 ta_signsF), (ta_words, kJ k 23 ta_wordsF)]) [0, 1, 4, 2, 3] rfl
              have hD9 := hD.sub (ws' := [(t, kO 7 [.ref t_names, .ref t_kinds, .ref t_yards, .ref t_paces, .ref t_skills, .ref t_snow, .ref tw, .int (nI t_guests), .int (nI ft_8_19), .int t_bend, .int t_hour, .int (bB t_bendTold), .int (bB t_hourTold)]), (t_snow, kI k 12 at_snow_19), (ta, kO 6 [.ref ta_signs, .ref ta_words, .int (nI ta_length), .int (nI fta_3_19), .int fta_4_19, .int fta_5_19, .int fta_6_19, .long fta_7_19, .int u_ta_87]), (ta_signs, kB k 1000 ta_signsF), (ta_words, kJ k 23 ta_wordsF)]) [0, 1, 4, 2, 3] (by decide) rfl
              exact W.zret (v := 0) hx hb hr rfl (fun zt ht hW => ⟨⟨0, ⟨ft_8_19, at_snow_19, fta_3_19, fta_4_19, fta_5_19, fta_6_19, fta_7_19, u_ta_87, false⟩, rfl, ⟨rfl, (by first | omega | (dsimp only; omega) | assumption), (by first | omega | (dsimp only; omega) | assumption), (hZ.trans hE0)⟩, by rw [ht]; exact hP9, hD9⟩, hS.F ht⟩) hS.2.2 dX7_readSnow_53
          refine lv_if_eq (tgt := 42) hx hb dX7_readSnow_32 (by decide) (fun c_13 => ?_) (fun c_13 => ?_)
          · skip
            have k_13 : ft_8_19 = 0 := (nI_eq (a := ft_8_19) (b := 0) (by omega) (by omega)).mp c_13
            have hZ := (if_pos k_13).symm.trans hZ
            exact hj42_6 _ _ _ hZ (hP.sub [0, 1, 2, 3, 4] rfl) (hD.sub [0, 1, 2, 3, 4] (by decide) rfl) hS (lv_sub hl [0, 1, 2] rfl)
          · skip
            have k_13 : ¬ (ft_8_19 = 0) := fun h => c_13 ((nI_eq (a := ft_8_19) (b := 0) (by omega) (by omega)).mpr h)
            have hZ := (if_neg k_13).symm.trans hZ
            refine lv_aload_n hx hb dX7_readSnow_35 rfl (lv_at hl 1 rfl) ?_
            refine kz_Vi (As := []) (rest := []) (wc := [(ta, kO 6 [.ref ta_signs, .ref ta_words, .int (nI ta_length), .int (nI fta_3_19), .int fta_4_19, .int fta_5_19, .int fta_6_19, .long fta_7_19, .int fta_8_19])]) (wr := [(t, kO 7 [.ref t_names, .ref t_kinds, .ref t_yards, .ref t_paces, .ref t_skills, .ref t_snow, .ref tw, .int (nI t_guests), .int (nI ft_8_19), .int t_bend, .int t_hour, .int (bB t_bendTold), .int (bB t_hourTold)]), (t_snow, kI k 12 at_snow_19), (ta_signs, kB k 1000 ta_signsF), (ta_words, kJ k 23 ta_wordsF)]) ⟨hx, hb, hml, hown, hts⟩ hK hE hP hD hS hA (sX6_isNumber l D k H.size ta ta_signs ta_words ta_length fta_3_19 fta_4_19 fta_5_19 fta_6_19 fta_7_19 fta_8_19 (by first | omega | assumption | decide) (by first | omega | assumption | decide)) (cwV 0 hts gX7_readSnow_X6_isNumber rfl rfl rfl (by decide +kernel) (by rw [hR]; exact ⟨Nat.le_of_ble_eq_true rfl, Nat.le_of_ble_eq_true rfl⟩)) [2] [0, 1, 3, 4] rfl rfl (by decide) (by decide) (by decide) 0 rfl rfl rfl hl.1 rfl (Nat.le_of_ble_eq_true rfl) dX7_readSnow_36 (by rw [hR]; exact ⟨Nat.le_of_ble_eq_true rfl, Nat.le_of_ble_eq_true rfl⟩) (fun r14 u14 H locs hw14 hP hD hS => ?_)
            try dsimp only at hw14
            obtain ⟨rfl, hw14⟩ := hw14
            have hP : va_P D vwCl [(t, kO 7 [.ref t_names, .ref t_kinds, .ref t_yards, .ref t_paces, .ref t_skills, .ref t_snow, .ref tw, .int (nI t_guests), .int (nI ft_8_19), .int t_bend, .int t_hour, .int (bB t_bendTold), .int (bB t_hourTold)]), (t_snow, kI k 12 at_snow_19), (ta_signs, kB k 1000 ta_signsF), (ta_words, kJ k 23 ta_wordsF), (ta, kO 6 [.ref ta_signs, .ref ta_words, .int (nI ta_length), .int (nI fta_3_19), .int fta_4_19, .int fta_5_19, .int fta_6_19, .long fta_7_19, .int fta_8_19])] H := hP
            have hD : va_D A [(t, kO 7 [.ref t_names, .ref t_kinds, .ref t_yards, .ref t_paces, .ref t_skills, .ref t_snow, .ref tw, .int (nI t_guests), .int (nI ft_8_19), .int t_bend, .int t_hour, .int (bB t_bendTold), .int (bB t_hourTold)]), (t_snow, kI k 12 at_snow_19), (ta_signs, kB k 1000 ta_signsF), (ta_words, kJ k 23 ta_wordsF), (ta, kO 6 [.ref ta_signs, .ref ta_words, .int (nI ta_length), .int (nI fta_3_19), .int fta_4_19, .int fta_5_19, .int fta_6_19, .long fta_7_19, .int fta_8_19])] := hD
            have hw14_0 := hw14
            have hZ := bn1_e hw14_0 hZ
            refine lv_if_eq (tgt := 105) hx hb dX7_readSnow_39 (by decide) (fun c_15 => ?_) (fun c_15 => ?_)
            · skip
              have b_15 : u14 = false := bB_0 c_15
              have hZ := (if_neg (bF b_15)).symm.trans hZ
              exact hj105_4 _ _ _ hZ (hP.sub [0, 1, 4, 2, 3] rfl) (hD.sub [0, 1, 4, 2, 3] (by decide) rfl) hS (lv_sub hl [0, 1, 2] rfl)
            · skip
              have b_15 : u14 = true := bB_1 c_15
              have hZ := (if_pos b_15).symm.trans hZ
              exact hj42_6 _ _ _ hZ (hP.sub [0, 1, 4, 2, 3] rfl) (hD.sub [0, 1, 4, 2, 3] (by decide) rfl) hS (lv_sub hl [0, 1, 2] rfl)
    exact hloop19 ((13 + 1 - 0) + 1) 0 t_snows t_snowF u_ta_32 u_ta_42 u_ta_52 u_ta_62 u_ta_72 ta_fault _ _ _ (Nat.lt_succ_self _) (by first | omega | assumption) (by first | omega | assumption) (by first | omega | assumption) hZ (hP.sub [0, 1, 2, 3, 4] rfl) (hD.sub [0, 1, 2, 3, 4] (by decide) rfl) hS (lv_sub hl [1, 2, 0] rfl)
  · skip
    have k_1 : ¬ (t_snows ≤ 0) := fun h => c_1 ((nI_leI (a := t_snows) (b := 0) (by omega) (by omega)).mpr h)
    have hZ := (if_neg k_1).symm.trans hZ
    refine lv_aload_n hx hb dX7_readSnow_7 rfl (lv_at hl 1 rfl) ?_
    refine lv_iconst (v := 3) hx hb dX7_readSnow_8 (by decide) ?_
    refine kz_Vi (As := [.int 3]) (rest := []) (wc := [(ta, kO 6 [.ref ta_signs, .ref ta_words, .int (nI ta_length), .int (nI ta_next), .int ta_place, .int ta_kind, .int ta_value, .long ta_letters, .int ta_fault])]) (wr := [(t, kO 7 [.ref t_names, .ref t_kinds, .ref t_yards, .ref t_paces, .ref t_skills, .ref t_snow, .ref tw, .int (nI t_guests), .int (nI t_snows), .int t_bend, .int t_hour, .int (bB t_bendTold), .int (bB t_hourTold)]), (t_snow, kI k 12 t_snowF), (ta_signs, kB k 1000 ta_signsF), (ta_words, kJ k 23 ta_wordsF)]) ⟨hx, hb, hml, hown, hts⟩ hK hE hP hD hS hA (sX6_wrong l D k H.size ta 3 ta_signs ta_words ta_length ta_next ta_place ta_kind ta_value ta_letters ta_fault (by first | omega | assumption | decide) (by first | omega | assumption | decide)) (cwV 1 hts gX7_readSnow_X6_wrong rfl rfl rfl (by decide +kernel) (by rw [hR]; exact ⟨Nat.le_of_ble_eq_true rfl, Nat.le_of_ble_eq_true rfl⟩)) [2] [0, 1, 3, 4] rfl rfl (by decide) (by decide) (by decide) 0 rfl rfl rfl hl.1 rfl (Nat.le_of_ble_eq_true rfl) dX7_readSnow_9 (by rw [hR]; exact ⟨Nat.le_of_ble_eq_true rfl, Nat.le_of_ble_eq_true rfl⟩) (fun r16 u16 H locs hw16 hP hD hS => ?_)
    obtain ⟨u_ta_816, ub16⟩ := u16
    try dsimp only at hw16
    obtain ⟨rfl, hw16⟩ := hw16
    have hP : va_P D vwCl [(t, kO 7 [.ref t_names, .ref t_kinds, .ref t_yards, .ref t_paces, .ref t_skills, .ref t_snow, .ref tw, .int (nI t_guests), .int (nI t_snows), .int t_bend, .int t_hour, .int (bB t_bendTold), .int (bB t_hourTold)]), (t_snow, kI k 12 t_snowF), (ta_signs, kB k 1000 ta_signsF), (ta_words, kJ k 23 ta_wordsF), (ta, kO 6 [.ref ta_signs, .ref ta_words, .int (nI ta_length), .int (nI ta_next), .int ta_place, .int ta_kind, .int ta_value, .long ta_letters, .int u_ta_816])] H := hP
    have hD : va_D A [(t, kO 7 [.ref t_names, .ref t_kinds, .ref t_yards, .ref t_paces, .ref t_skills, .ref t_snow, .ref tw, .int (nI t_guests), .int (nI t_snows), .int t_bend, .int t_hour, .int (bB t_bendTold), .int (bB t_hourTold)]), (t_snow, kI k 12 t_snowF), (ta_signs, kB k 1000 ta_signsF), (ta_words, kJ k 23 ta_wordsF), (ta, kO 6 [.ref ta_signs, .ref ta_words, .int (nI ta_length), .int (nI ta_next), .int ta_place, .int ta_kind, .int ta_value, .long ta_letters, .int u_ta_816])] := hD
    have hw16_0 := hw16
    have hZ := bn2_e hw16_0 hZ
    rw [hQ]
    have hP9 := hP.sub (ws' := [(t, kO 7 [.ref t_names, .ref t_kinds, .ref t_yards, .ref t_paces, .ref t_skills, .ref t_snow, .ref tw, .int (nI t_guests), .int (nI t_snows), .int t_bend, .int t_hour, .int (bB t_bendTold), .int (bB t_hourTold)]), (t_snow, kI k 12 t_snowF), (ta, kO 6 [.ref ta_signs, .ref ta_words, .int (nI ta_length), .int (nI ta_next), .int ta_place, .int ta_kind, .int ta_value, .long ta_letters, .int u_ta_816]), (ta_signs, kB k 1000 ta_signsF), (ta_words, kJ k 23 ta_wordsF)]) [0, 1, 4, 2, 3] rfl
    have hD9 := hD.sub (ws' := [(t, kO 7 [.ref t_names, .ref t_kinds, .ref t_yards, .ref t_paces, .ref t_skills, .ref t_snow, .ref tw, .int (nI t_guests), .int (nI t_snows), .int t_bend, .int t_hour, .int (bB t_bendTold), .int (bB t_hourTold)]), (t_snow, kI k 12 t_snowF), (ta, kO 6 [.ref ta_signs, .ref ta_words, .int (nI ta_length), .int (nI ta_next), .int ta_place, .int ta_kind, .int ta_value, .long ta_letters, .int u_ta_816]), (ta_signs, kB k 1000 ta_signsF), (ta_words, kJ k 23 ta_wordsF)]) [0, 1, 4, 2, 3] (by decide) rfl
    exact W.zret (v := (bB ub16)) hx hb hr (narrow_bB _) (fun zt ht hW => ⟨⟨(bB ub16), ⟨t_snows, t_snowF, ta_next, ta_place, ta_kind, ta_value, ta_letters, u_ta_816, ub16⟩, rfl, ⟨rfl, (by first | omega | (dsimp only; omega) | assumption), (by first | omega | (dsimp only; omega) | assumption), (hZ.trans hE0)⟩, by rw [ht]; exact hP9, hD9⟩, hS.F ht⟩) hS.2.2 dX7_readSnow_12
theorem dX7_readGuest_0 : decode cX7_readGuest 0 = .ok (.aload_n 0, 1) := by decide +kernel
theorem dX7_readGuest_1 : decode cX7_readGuest 1 = .ok (.getfield 48, 3) := by decide +kernel
theorem dX7_readGuest_4 : decode cX7_readGuest 4 = .ok (.aload_n 0, 1) := by decide +kernel
theorem dX7_readGuest_5 : decode cX7_readGuest 5 = .ok (.getfield 9, 3) := by decide +kernel
theorem dX7_readGuest_8 : decode cX7_readGuest 8 = .ok (.arraylength, 1) := by decide +kernel
theorem dX7_readGuest_9 : decode cX7_readGuest 9 = .ok (.if_icmp .lt 9, 3) := by decide +kernel
theorem dX7_readGuest_12 : decode cX7_readGuest 12 = .ok (.aload_n 1, 1) := by decide +kernel
theorem dX7_readGuest_13 : decode cX7_readGuest 13 = .ok (.iconst 5, 1) := by decide +kernel
theorem dX7_readGuest_14 : decode cX7_readGuest 14 = .ok (.invokevirtual 92, 3) := by decide +kernel
theorem dX7_readGuest_17 : decode cX7_readGuest 17 = .ok (.ireturn, 1) := by decide +kernel
theorem dX7_readGuest_18 : decode cX7_readGuest 18 = .ok (.aload_n 0, 1) := by decide +kernel
theorem dX7_readGuest_19 : decode cX7_readGuest 19 = .ok (.getfield 48, 3) := by decide +kernel
theorem dX7_readGuest_22 : decode cX7_readGuest 22 = .ok (.istore_n 2, 1) := by decide +kernel
theorem dX7_readGuest_23 : decode cX7_readGuest 23 = .ok (.aload_n 1, 1) := by decide +kernel
theorem dX7_readGuest_24 : decode cX7_readGuest 24 = .ok (.invokevirtual 100, 3) := by decide +kernel
theorem dX7_readGuest_27 : decode cX7_readGuest 27 = .ok (.aload_n 1, 1) := by decide +kernel
theorem dX7_readGuest_28 : decode cX7_readGuest 28 = .ok (.invokevirtual 103, 3) := by decide +kernel
theorem dX7_readGuest_31 : decode cX7_readGuest 31 = .ok (.ifCond .ne 9, 3) := by decide +kernel
theorem dX7_readGuest_34 : decode cX7_readGuest 34 = .ok (.aload_n 1, 1) := by decide +kernel
theorem dX7_readGuest_35 : decode cX7_readGuest 35 = .ok (.iconst 1, 1) := by decide +kernel
theorem dX7_readGuest_36 : decode cX7_readGuest 36 = .ok (.invokevirtual 92, 3) := by decide +kernel
theorem dX7_readGuest_39 : decode cX7_readGuest 39 = .ok (.ireturn, 1) := by decide +kernel
theorem dX7_readGuest_40 : decode cX7_readGuest 40 = .ok (.aload_n 0, 1) := by decide +kernel
theorem dX7_readGuest_41 : decode cX7_readGuest 41 = .ok (.aload_n 1, 1) := by decide +kernel
theorem dX7_readGuest_42 : decode cX7_readGuest 42 = .ok (.getfield 106, 3) := by decide +kernel
theorem dX7_readGuest_45 : decode cX7_readGuest 45 = .ok (.invokevirtual 110, 3) := by decide +kernel
theorem dX7_readGuest_48 : decode cX7_readGuest 48 = .ok (.iconst (-1), 1) := by decide +kernel
theorem dX7_readGuest_49 : decode cX7_readGuest 49 = .ok (.if_icmp .eq 9, 3) := by decide +kernel
theorem dX7_readGuest_52 : decode cX7_readGuest 52 = .ok (.aload_n 1, 1) := by decide +kernel
theorem dX7_readGuest_53 : decode cX7_readGuest 53 = .ok (.iconst 3, 1) := by decide +kernel
theorem dX7_readGuest_54 : decode cX7_readGuest 54 = .ok (.invokevirtual 92, 3) := by decide +kernel
theorem dX7_readGuest_57 : decode cX7_readGuest 57 = .ok (.ireturn, 1) := by decide +kernel
theorem dX7_readGuest_58 : decode cX7_readGuest 58 = .ok (.aload_n 0, 1) := by decide +kernel
theorem dX7_readGuest_59 : decode cX7_readGuest 59 = .ok (.getfield 9, 3) := by decide +kernel
theorem dX7_readGuest_62 : decode cX7_readGuest 62 = .ok (.iload_n 2, 1) := by decide +kernel
theorem dX7_readGuest_63 : decode cX7_readGuest 63 = .ok (.aload_n 1, 1) := by decide +kernel
theorem dX7_readGuest_64 : decode cX7_readGuest 64 = .ok (.getfield 106, 3) := by decide +kernel
theorem dX7_readGuest_67 : decode cX7_readGuest 67 = .ok (.lastore, 1) := by decide +kernel
theorem dX7_readGuest_68 : decode cX7_readGuest 68 = .ok (.aload_n 1, 1) := by decide +kernel
theorem dX7_readGuest_69 : decode cX7_readGuest 69 = .ok (.invokevirtual 100, 3) := by decide +kernel
theorem dX7_readGuest_72 : decode cX7_readGuest 72 = .ok (.aload_n 1, 1) := by decide +kernel
theorem dX7_readGuest_73 : decode cX7_readGuest 73 = .ok (.invokevirtual 68, 3) := by decide +kernel
theorem dX7_readGuest_76 : decode cX7_readGuest 76 = .ok (.istore_n 3, 1) := by decide +kernel
theorem dX7_readGuest_77 : decode cX7_readGuest 77 = .ok (.iload_n 3, 1) := by decide +kernel
theorem dX7_readGuest_78 : decode cX7_readGuest 78 = .ok (.bipush 12, 2) := by decide +kernel
theorem dX7_readGuest_80 : decode cX7_readGuest 80 = .ok (.if_icmp .lt 9, 3) := by decide +kernel
theorem dX7_readGuest_83 : decode cX7_readGuest 83 = .ok (.iload_n 3, 1) := by decide +kernel
theorem dX7_readGuest_84 : decode cX7_readGuest 84 = .ok (.bipush 15, 2) := by decide +kernel
theorem dX7_readGuest_86 : decode cX7_readGuest 86 = .ok (.if_icmp .le 9, 3) := by decide +kernel
theorem dX7_readGuest_89 : decode cX7_readGuest 89 = .ok (.aload_n 1, 1) := by decide +kernel
theorem dX7_readGuest_90 : decode cX7_readGuest 90 = .ok (.iconst 1, 1) := by decide +kernel
theorem dX7_readGuest_91 : decode cX7_readGuest 91 = .ok (.invokevirtual 92, 3) := by decide +kernel
theorem dX7_readGuest_94 : decode cX7_readGuest 94 = .ok (.ireturn, 1) := by decide +kernel
theorem dX7_readGuest_95 : decode cX7_readGuest 95 = .ok (.aload_n 0, 1) := by decide +kernel
theorem dX7_readGuest_96 : decode cX7_readGuest 96 = .ok (.getfield 15, 3) := by decide +kernel
theorem dX7_readGuest_99 : decode cX7_readGuest 99 = .ok (.iload_n 2, 1) := by decide +kernel
theorem dX7_readGuest_100 : decode cX7_readGuest 100 = .ok (.iload_n 3, 1) := by decide +kernel
theorem dX7_readGuest_101 : decode cX7_readGuest 101 = .ok (.bipush 12, 2) := by decide +kernel
theorem dX7_readGuest_103 : decode cX7_readGuest 103 = .ok (.isub, 1) := by decide +kernel
theorem dX7_readGuest_104 : decode cX7_readGuest 104 = .ok (.iastore, 1) := by decide +kernel
theorem dX7_readGuest_105 : decode cX7_readGuest 105 = .ok (.aload_n 1, 1) := by decide +kernel
theorem dX7_readGuest_106 : decode cX7_readGuest 106 = .ok (.invokevirtual 100, 3) := by decide +kernel
theorem dX7_readGuest_109 : decode cX7_readGuest 109 = .ok (.aload_n 0, 1) := by decide +kernel
theorem dX7_readGuest_110 : decode cX7_readGuest 110 = .ok (.getfield 19, 3) := by decide +kernel
theorem dX7_readGuest_113 : decode cX7_readGuest 113 = .ok (.iload_n 2, 1) := by decide +kernel
theorem dX7_readGuest_114 : decode cX7_readGuest 114 = .ok (.aload_n 1, 1) := by decide +kernel
theorem dX7_readGuest_115 : decode cX7_readGuest 115 = .ok (.iconst 1, 1) := by decide +kernel
theorem dX7_readGuest_116 : decode cX7_readGuest 116 = .ok (.iconst 1, 1) := by decide +kernel
theorem dX7_readGuest_117 : decode cX7_readGuest 117 = .ok (.sipush 300, 3) := by decide +kernel
theorem dX7_readGuest_120 : decode cX7_readGuest 120 = .ok (.invokestatic 114, 3) := by decide +kernel
theorem dX7_readGuest_123 : decode cX7_readGuest 123 = .ok (.iastore, 1) := by decide +kernel
theorem dX7_readGuest_124 : decode cX7_readGuest 124 = .ok (.aload_n 0, 1) := by decide +kernel
theorem dX7_readGuest_125 : decode cX7_readGuest 125 = .ok (.getfield 19, 3) := by decide +kernel
theorem dX7_readGuest_128 : decode cX7_readGuest 128 = .ok (.iload_n 2, 1) := by decide +kernel
theorem dX7_readGuest_129 : decode cX7_readGuest 129 = .ok (.iaload, 1) := by decide +kernel
theorem dX7_readGuest_130 : decode cX7_readGuest 130 = .ok (.iconst (-1), 1) := by decide +kernel
theorem dX7_readGuest_131 : decode cX7_readGuest 131 = .ok (.if_icmp .ne 5, 3) := by decide +kernel
theorem dX7_readGuest_134 : decode cX7_readGuest 134 = .ok (.iconst 0, 1) := by decide +kernel
theorem dX7_readGuest_135 : decode cX7_readGuest 135 = .ok (.ireturn, 1) := by decide +kernel
theorem dX7_readGuest_136 : decode cX7_readGuest 136 = .ok (.aload_n 0, 1) := by decide +kernel
theorem dX7_readGuest_137 : decode cX7_readGuest 137 = .ok (.getfield 22, 3) := by decide +kernel
theorem dX7_readGuest_140 : decode cX7_readGuest 140 = .ok (.iload_n 2, 1) := by decide +kernel
theorem dX7_readGuest_141 : decode cX7_readGuest 141 = .ok (.aload_n 1, 1) := by decide +kernel
theorem dX7_readGuest_142 : decode cX7_readGuest 142 = .ok (.iconst 2, 1) := by decide +kernel
theorem dX7_readGuest_143 : decode cX7_readGuest 143 = .ok (.iconst 1, 1) := by decide +kernel
theorem dX7_readGuest_144 : decode cX7_readGuest 144 = .ok (.bipush 30, 2) := by decide +kernel
theorem dX7_readGuest_146 : decode cX7_readGuest 146 = .ok (.invokestatic 114, 3) := by decide +kernel
theorem dX7_readGuest_149 : decode cX7_readGuest 149 = .ok (.iastore, 1) := by decide +kernel
theorem dX7_readGuest_150 : decode cX7_readGuest 150 = .ok (.aload_n 0, 1) := by decide +kernel
theorem dX7_readGuest_151 : decode cX7_readGuest 151 = .ok (.getfield 22, 3) := by decide +kernel
theorem dX7_readGuest_154 : decode cX7_readGuest 154 = .ok (.iload_n 2, 1) := by decide +kernel
theorem dX7_readGuest_155 : decode cX7_readGuest 155 = .ok (.iaload, 1) := by decide +kernel
theorem dX7_readGuest_156 : decode cX7_readGuest 156 = .ok (.iconst (-1), 1) := by decide +kernel
theorem dX7_readGuest_157 : decode cX7_readGuest 157 = .ok (.if_icmp .ne 5, 3) := by decide +kernel
theorem dX7_readGuest_160 : decode cX7_readGuest 160 = .ok (.iconst 0, 1) := by decide +kernel
theorem dX7_readGuest_161 : decode cX7_readGuest 161 = .ok (.ireturn, 1) := by decide +kernel
theorem dX7_readGuest_162 : decode cX7_readGuest 162 = .ok (.aload_n 0, 1) := by decide +kernel
theorem dX7_readGuest_163 : decode cX7_readGuest 163 = .ok (.getfield 25, 3) := by decide +kernel
theorem dX7_readGuest_166 : decode cX7_readGuest 166 = .ok (.iload_n 2, 1) := by decide +kernel
theorem dX7_readGuest_167 : decode cX7_readGuest 167 = .ok (.aload_n 1, 1) := by decide +kernel
theorem dX7_readGuest_168 : decode cX7_readGuest 168 = .ok (.iconst 3, 1) := by decide +kernel
theorem dX7_readGuest_169 : decode cX7_readGuest 169 = .ok (.iconst 0, 1) := by decide +kernel
theorem dX7_readGuest_170 : decode cX7_readGuest 170 = .ok (.bipush 20, 2) := by decide +kernel
theorem dX7_readGuest_172 : decode cX7_readGuest 172 = .ok (.invokestatic 114, 3) := by decide +kernel
theorem dX7_readGuest_175 : decode cX7_readGuest 175 = .ok (.iastore, 1) := by decide +kernel
theorem dX7_readGuest_176 : decode cX7_readGuest 176 = .ok (.aload_n 0, 1) := by decide +kernel
theorem dX7_readGuest_177 : decode cX7_readGuest 177 = .ok (.dup, 1) := by decide +kernel
theorem dX7_readGuest_178 : decode cX7_readGuest 178 = .ok (.getfield 48, 3) := by decide +kernel
theorem dX7_readGuest_181 : decode cX7_readGuest 181 = .ok (.iconst 1, 1) := by decide +kernel
theorem dX7_readGuest_182 : decode cX7_readGuest 182 = .ok (.iadd, 1) := by decide +kernel
theorem dX7_readGuest_183 : decode cX7_readGuest 183 = .ok (.putfield 48, 3) := by decide +kernel
theorem dX7_readGuest_186 : decode cX7_readGuest 186 = .ok (.aload_n 0, 1) := by decide +kernel
theorem dX7_readGuest_187 : decode cX7_readGuest 187 = .ok (.getfield 25, 3) := by decide +kernel
theorem dX7_readGuest_190 : decode cX7_readGuest 190 = .ok (.iload_n 2, 1) := by decide +kernel
theorem dX7_readGuest_191 : decode cX7_readGuest 191 = .ok (.iaload, 1) := by decide +kernel
theorem dX7_readGuest_192 : decode cX7_readGuest 192 = .ok (.iconst (-1), 1) := by decide +kernel
theorem dX7_readGuest_193 : decode cX7_readGuest 193 = .ok (.if_icmp .eq 7, 3) := by decide +kernel
theorem dX7_readGuest_196 : decode cX7_readGuest 196 = .ok (.iconst 1, 1) := by decide +kernel
theorem dX7_readGuest_197 : decode cX7_readGuest 197 = .ok (.goto 4, 3) := by decide +kernel
theorem dX7_readGuest_200 : decode cX7_readGuest 200 = .ok (.iconst 0, 1) := by decide +kernel
theorem dX7_readGuest_201 : decode cX7_readGuest 201 = .ok (.ireturn, 1) := by decide +kernel
set_option maxRecDepth 20000 in
theorem ggX7_readGuest_X6_advance : GoodIn wsX7_readGuest wsX6_advance := goodIn_r _ [18, 19, 20, 21, 13, 22, 23, 24, 25, 11, 26, 27, 28, 29, 30, 31, 32, 33, 34, 35, 36, 37, 38, 39, 40, 41, 42, 43, 44, 45, 46, 47, 48, 49, 50, 51, 52, 53, 54, 55, 56, 57, 58, 59, 60, 61, 62, 63, 64, 65, 66, 67, 68, 69, 70, 71, 72, 73, 74, 75, 76, 77, 78, 79, 80, 81, 82, 83, 84, 85, 86, 87, 88, 89, 90, 91, 92, 93, 94, 95, 96, 97, 98, 99, 100, 101, 102, 103, 104, 105, 106, 107, 108, 109, 110, 111, 112, 113, 114, 115, 116, 117, 118, 119, 120, 121, 122, 123, 124, 125, 126, 127, 128, 129, 130, 131, 132, 183, 184, 185, 186, 187, 188, 189, 190, 191] rfl (by decide +kernel)
set_option maxRecDepth 20000 in
theorem gX7_readGuest_X6_advance : GoodIn wsX7_readGuest (wsV RX7 100 RX6 yX6_advance wsX6_advance) := goodIn_app (goodIn_of _ (by decide +kernel)) ggX7_readGuest_X6_advance
set_option maxRecDepth 20000 in
theorem ggX7_readGuest_X6_isName : GoodIn wsX7_readGuest wsX6_isName := goodIn_r _ [136, 23, 22, 183, 184, 185, 186, 187, 188, 189, 190, 191] rfl (by decide +kernel)
set_option maxRecDepth 20000 in
theorem gX7_readGuest_X6_isName : GoodIn wsX7_readGuest (wsV RX7 103 RX6 yX6_isName wsX6_isName) := goodIn_app (goodIn_of _ (by decide +kernel)) ggX7_readGuest_X6_isName
set_option maxRecDepth 20000 in
theorem ggX7_readGuest_X7_numberOf : GoodIn wsX7_readGuest wsX7_numberOf := goodIn_r _ [141, 1, 2, 170, 171, 172, 173, 174, 175, 176, 177, 178, 179, 180, 181, 182] rfl (by decide +kernel)
set_option maxRecDepth 20000 in
theorem gX7_readGuest_X7_numberOf : GoodIn wsX7_readGuest (wsV RX7 110 RX7 yX7_numberOf wsX7_numberOf) := goodIn_app (goodIn_of _ (by decide +kernel)) ggX7_readGuest_X7_numberOf
set_option maxRecDepth 20000 in
theorem ggX7_readGuest_X6_wordHere : GoodIn wsX7_readGuest wsX6_wordHere := goodIn_r _ [145, 23, 22, 183, 184, 185, 186, 187, 188, 189, 190, 191] rfl (by decide +kernel)
set_option maxRecDepth 20000 in
theorem gX7_readGuest_X6_wordHere : GoodIn wsX7_readGuest (wsV RX7 68 RX6 yX6_wordHere wsX6_wordHere) := goodIn_app (goodIn_of _ (by decide +kernel)) ggX7_readGuest_X6_wordHere
set_option maxRecDepth 20000 in
theorem ggX7_readGuest_X6_wrong : GoodIn wsX7_readGuest wsX6_wrong := goodIn_r _ [12, 13, 14, 183, 184, 185, 186, 187, 188, 189, 190, 191] rfl (by decide +kernel)
set_option maxRecDepth 20000 in
theorem gX7_readGuest_X6_wrong : GoodIn wsX7_readGuest (wsV RX7 92 RX6 yX6_wrong wsX6_wrong) := goodIn_app (goodIn_of _ (by decide +kernel)) ggX7_readGuest_X6_wrong
set_option maxRecDepth 20000 in
theorem ggX7_readGuest_X7_readMeasure : GoodIn wsX7_readGuest wsX7_readMeasure := goodIn_r _ [148, 149, 150, 151, 11, 152, 153, 154, 155, 156, 23, 22, 157, 9, 10, 12, 13, 14, 158, 16, 17, 18, 19, 20, 21, 24, 25, 26, 27, 28, 29, 30, 31, 32, 33, 34, 35, 36, 37, 38, 39, 40, 41, 42, 43, 44, 45, 46, 47, 48, 49, 50, 51, 52, 53, 54, 55, 56, 57, 58, 59, 60, 61, 62, 63, 64, 65, 66, 67, 68, 69, 70, 71, 72, 73, 74, 75, 76, 77, 78, 79, 80, 81, 82, 83, 84, 85, 86, 87, 88, 89, 90, 91, 92, 93, 94, 95, 96, 97, 98, 99, 100, 101, 102, 103, 104, 105, 106, 107, 108, 109, 110, 111, 112, 113, 114, 115, 116, 117, 118, 119, 120, 121, 122, 123, 124, 125, 126, 127, 128, 129, 130, 131, 132, 159, 160, 161, 162, 163, 164, 165, 166, 167, 168, 169, 183, 184, 185, 186, 187, 188, 189, 190, 191] rfl (by decide +kernel)
set_option maxRecDepth 20000 in
theorem gX7_readGuest_X7_readMeasure : GoodIn wsX7_readGuest (va_wsS RX7 114 yX7_readMeasure wsX7_readMeasure) := goodIn_app (goodIn_of _ (by decide +kernel)) ggX7_readGuest_X7_readMeasure
set_option maxHeartbeats 4000000 in
set_option maxRecDepth 100000 in
theorem sX7_readGuest (l : Launch) (D : va_G) (k : Nat → ClassId) (a0 sa sv : Nat) (f : Nat → Int32) (sz : Nat) (t : Nat) (ta : Nat) (t_names : Nat) (t_kinds : Nat) (t_yards : Nat) (t_paces : Nat) (t_skills : Nat) (t_snow : Nat) (tw : Nat) (t_guests : Nat) (t_snows : Nat) (t_bend : Int32) (t_hour : Int32) (t_bendTold : Bool) (t_hourTold : Bool) (t_namesF : Nat → Int64) (t_kindsF : Nat → Int32) (t_yardsF : Nat → Int32) (t_pacesF : Nat → Int32) (t_skillsF : Nat → Int32) (ta_signs : Nat) (ta_words : Nat) (ta_length : Nat) (ta_next : Nat) (ta_place : Int32) (ta_kind : Int32) (ta_value : Int32) (ta_letters : Int64) (ta_fault : Int32) (ta_signsF : Nat → Int32) (ta_wordsF : Nat → Int64) (h_t_guests : t_guests ≤ 6) (h_t_snows : t_snows ≤ 12) (h_ta_length : ta_length ≤ 1000) (h_ta_next : ta_next ≤ 1000) : Met l yX7_readGuest wsX7_readGuest ({ frames := 7, cells := 0, slots := 0, locals := 490 }) (va_Pc [.ref t, .ref ta] (kz_PreY D k [(t, kO 7 [.ref t_names, .ref t_kinds, .ref t_yards, .ref t_paces, .ref t_skills, .ref t_snow, .ref tw, .int (nI t_guests), .int (nI t_snows), .int t_bend, .int t_hour, .int (bB t_bendTold), .int (bB t_hourTold)]), (t_names, kJ k 6 t_namesF), (t_kinds, kI k 6 t_kindsF), (t_yards, kI k 6 t_yardsF), (t_paces, kI k 6 t_pacesF), (t_skills, kI k 6 t_skillsF), (ta, kO 6 [.ref ta_signs, .ref ta_words, .int (nI ta_length), .int (nI ta_next), .int ta_place, .int ta_kind, .int ta_value, .long ta_letters, .int ta_fault]), (ta_signs, kB k 1000 ta_signsF), (ta_words, kJ k 23 ta_wordsF)] a0 sa sv f sz)) (va_Qi (fun (rr : Int32) (uu : Nat × (Nat → Int64) × (Nat → Int32) × (Nat → Int32) × (Nat → Int32) × (Nat → Int32) × Nat × Int32 × Int32 × Int32 × Int64 × Int32 × Bool) => rr = bB uu.2.2.2.2.2.2.2.2.2.2.2.2 ∧ (uu.1 ≤ 6) ∧ (uu.2.2.2.2.2.2.1 ≤ 1000) ∧ ((uu.1, uu.2.1, uu.2.2.1, uu.2.2.2.1, uu.2.2.2.2.1, uu.2.2.2.2.2.1, uu.2.2.2.2.2.2.1, uu.2.2.2.2.2.2.2.1, uu.2.2.2.2.2.2.2.2.1, uu.2.2.2.2.2.2.2.2.2.1, uu.2.2.2.2.2.2.2.2.2.2.1, uu.2.2.2.2.2.2.2.2.2.2.2.1, uu.2.2.2.2.2.2.2.2.2.2.2.2) = (fX7_readGuest t_guests t_namesF t_kindsF t_yardsF t_pacesF t_skillsF ta_length ta_next ta_place ta_kind ta_value ta_letters ta_fault ta_signsF ta_wordsF f))) (fun uu zt => kz_B D (va_A [(t, kO 7 [.ref t_names, .ref t_kinds, .ref t_yards, .ref t_paces, .ref t_skills, .ref t_snow, .ref tw, .int (nI t_guests), .int (nI t_snows), .int t_bend, .int t_hour, .int (bB t_bendTold), .int (bB t_hourTold)]), (t_names, kJ k 6 t_namesF), (t_kinds, kI k 6 t_kindsF), (t_yards, kI k 6 t_yardsF), (t_paces, kI k 6 t_pacesF), (t_skills, kI k 6 t_skillsF), (ta, kO 6 [.ref ta_signs, .ref ta_words, .int (nI ta_length), .int (nI ta_next), .int ta_place, .int ta_kind, .int ta_value, .long ta_letters, .int ta_fault]), (ta_signs, kB k 1000 ta_signsF), (ta_words, kJ k 23 ta_wordsF)] sz) [(t, kO 7 [.ref t_names, .ref t_kinds, .ref t_yards, .ref t_paces, .ref t_skills, .ref t_snow, .ref tw, .int (nI uu.1), .int (nI t_snows), .int t_bend, .int t_hour, .int (bB t_bendTold), .int (bB t_hourTold)]), (t_names, kJ k 6 uu.2.1), (t_kinds, kI k 6 uu.2.2.1), (t_yards, kI k 6 uu.2.2.2.1), (t_paces, kI k 6 uu.2.2.2.2.1), (t_skills, kI k 6 uu.2.2.2.2.2.1), (ta, kO 6 [.ref ta_signs, .ref ta_words, .int (nI ta_length), .int (nI uu.2.2.2.2.2.2.1), .int uu.2.2.2.2.2.2.2.1, .int uu.2.2.2.2.2.2.2.2.1, .int uu.2.2.2.2.2.2.2.2.2.1, .long uu.2.2.2.2.2.2.2.2.2.2.1, .int uu.2.2.2.2.2.2.2.2.2.2.2.1]), (ta_signs, kB k 1000 ta_signsF), (ta_words, kJ k 23 ta_wordsF)] zt) (va_A [(t, kO 7 [.ref t_names, .ref t_kinds, .ref t_yards, .ref t_paces, .ref t_skills, .ref t_snow, .ref tw, .int (nI t_guests), .int (nI t_snows), .int t_bend, .int t_hour, .int (bB t_bendTold), .int (bB t_hourTold)]), (t_names, kJ k 6 t_namesF), (t_kinds, kI k 6 t_kindsF), (t_yards, kI k 6 t_yardsF), (t_paces, kI k 6 t_pacesF), (t_skills, kI k 6 t_skillsF), (ta, kO 6 [.ref ta_signs, .ref ta_words, .int (nI ta_length), .int (nI ta_next), .int ta_place, .int ta_kind, .int ta_value, .long ta_letters, .int ta_fault]), (ta_signs, kB k 1000 ta_signsF), (ta_words, kJ k 23 ta_wordsF)] sz)) 0 0 (va_A [(t, kO 7 [.ref t_names, .ref t_kinds, .ref t_yards, .ref t_paces, .ref t_skills, .ref t_snow, .ref tw, .int (nI t_guests), .int (nI t_snows), .int t_bend, .int t_hour, .int (bB t_bendTold), .int (bB t_hourTold)]), (t_names, kJ k 6 t_namesF), (t_kinds, kI k 6 t_kindsF), (t_yards, kI k 6 t_yardsF), (t_paces, kI k 6 t_pacesF), (t_skills, kI k 6 t_skillsF), (ta, kO 6 [.ref ta_signs, .ref ta_words, .int (nI ta_length), .int (nI ta_next), .int ta_place, .int ta_kind, .int ta_value, .long ta_letters, .int ta_fault]), (ta_signs, kB k 1000 ta_signsF), (ta_words, kJ k 23 ta_wordsF)] sz) := by
  refine Met.ofW (cc := cX7_readGuest) (maxL := 4) (ret := (some .boolean)) (by decide) rfl ?_
  intro p e s m args below meth c s₁ B hml hv
  obtain ⟨hav, ⟨hsz, hP, hK, hD0, hE⟩, ha0, hDa, hX⟩ := hv
  have hx := B.exec
  have hb := B.bytes
  have hr := B.returns
  have hts := atoms_spec (ws := wsX7_readGuest) B.pre
  have hown : s.vm.findClass RX7 = some m.cls := findClass_of_methodNamed B.named
  have hlocks := B.notSynchronized
  have hi6 : ∀ w ∈ u_ws RX6 TX6 9, w ∈ wsX7_readGuest := by decide +kernel
  have hi7 : ∀ w ∈ u_ws RX7 TX7 13, w ∈ wsX7_readGuest := by decide +kernel
  have lf48 := hts (.fieldLink RX7 48 "LastCook$Told" "guests" "I") (by decide +kernel)
  have lf9 := hts (.fieldLink RX7 9 "LastCook$Told" "names" "[J") (by decide +kernel)
  have lf106 := hts (.fieldLink RX7 106 "LastCook$Tape" "letters" "J") (by decide +kernel)
  have lf15 := hts (.fieldLink RX7 15 "LastCook$Told" "kinds" "[I") (by decide +kernel)
  have lf19 := hts (.fieldLink RX7 19 "LastCook$Told" "yards" "[I") (by decide +kernel)
  have lf22 := hts (.fieldLink RX7 22 "LastCook$Told" "paces" "[I") (by decide +kernel)
  have lf25 := hts (.fieldLink RX7 25 "LastCook$Told" "skills" "[I") (by decide +kernel)
  subst hsz
  have hD := hD0.self (sz := s.heap.size)
  generalize hAe : va_A [(t, kO 7 [.ref t_names, .ref t_kinds, .ref t_yards, .ref t_paces, .ref t_skills, .ref t_snow, .ref tw, .int (nI t_guests), .int (nI t_snows), .int t_bend, .int t_hour, .int (bB t_bendTold), .int (bB t_hourTold)]), (t_names, kJ k 6 t_namesF), (t_kinds, kI k 6 t_kindsF), (t_yards, kI k 6 t_yardsF), (t_paces, kI k 6 t_pacesF), (t_skills, kI k 6 t_skillsF), (ta, kO 6 [.ref ta_signs, .ref ta_words, .int (nI ta_length), .int (nI ta_next), .int ta_place, .int ta_kind, .int ta_value, .long ta_letters, .int ta_fault]), (ta_signs, kB k 1000 ta_signsF), (ta_words, kJ k 23 ta_wordsF)] s.heap.size = A at hD ⊢
  have hA : ∀ q : Nat, s.heap.size ≤ q → A q := fun q h => by rw [← hAe]; exact Or.inr h
  have hAX : ∀ q, A q → a0 ≤ q := fun q h => by rw [← hAe] at h; exact h.elim (fun ⟨k9, e9, h9⟩ => hDa.2 k9 _ h9) (fun e => Nat.le_trans ha0 e)
  obtain ⟨tx71, hR71⟩ := hX.1
  have hS : va_S A s.heap s.heap [] := va_S.rf
  have hl := lv_entry ([.ref t, .ref ta]) (n := 4) (Nat.le_of_ble_eq_true rfl)
  rw [show entryFrame m args 4 = entryFrame m ([.ref t, .ref ta] : List Value).toArray 4 by rw [hav], lg_entry_eq]
  generalize (lg_sl ([.ref t, .ref ta]) ++ List.replicate (4 - (lg_sl ([.ref t, .ref ta])).length) Slot.unset).toArray = ls at hl ⊢
  have hl : lv_has ls 4 [(0, .ref t), (1, .ref ta)] := hl
  obtain ⟨R, hR⟩ : ∃ R, R = (headSpec wsX7_readGuest ({ frames := 7, cells := 0, slots := 0, locals := 490 } : Room)).room := ⟨_, rfl⟩
  rw [← hR]
  generalize hQ : MQ below _ args s 0 0 A = Q
  replace hQ := hQ.symm
  obtain ⟨H, hH⟩ : ∃ H, H = s.heap := ⟨_, rfl⟩
  rw [← hH] at hP ⊢
  have hS : va_S A s.heap H [] := by rw [hH]; exact hS
  obtain ⟨E0, hE0⟩ : ∃ E0 : Nat × (Nat → Int64) × (Nat → Int32) × (Nat → Int32) × (Nat → Int32) × (Nat → Int32) × Nat × Int32 × Int32 × Int32 × Int64 × Int32 × Bool, E0 = (fX7_readGuest t_guests t_namesF t_kindsF t_yardsF t_pacesF t_skillsF ta_length ta_next ta_place ta_kind ta_value ta_letters ta_fault ta_signsF ta_wordsF f) := ⟨_, rfl⟩
  have hZ : (fX7_readGuest t_guests t_namesF t_kindsF t_yardsF t_pacesF t_skillsF ta_length ta_next ta_place ta_kind ta_value ta_letters ta_fault ta_signsF ta_wordsF f) = E0 := hE0.symm
  refine lv_aload_n hx hb dX7_readGuest_0 rfl (lv_at hl 0 rfl) ?_
  refine va_get (D := D) (ci := 7) (v := .int (nI t_guests)) (C := RX7) (T := TX7) (N := 13) hx hb hts hi7 hown hK hP 0 rfl rfl 7 (by decide) lf48 (fun _ h9 => h9) rfl dX7_readGuest_1 ?_
  refine lv_aload_n hx hb dX7_readGuest_4 rfl (lv_at hl 0 rfl) ?_
  refine va_get (D := D) (ci := 7) (v := .ref t_names) (C := RX7) (T := TX7) (N := 13) hx hb hts hi7 hown hK hP 0 rfl rfl 0 (by decide) lf9 (fun _ h9 => h9) rfl dX7_readGuest_5 ?_
  refine va_alen (v := 6) hx hb hK hP 1 1 rfl rfl rfl dX7_readGuest_8 ?_
  refine lv_icmp_lt (tgt := 18) hx hb dX7_readGuest_9 (by decide) (fun c_1 => ?_) (fun c_1 => ?_)
  · skip
    have k_1 : t_guests < 6 := (nI_ltI (a := t_guests) (b := 6) (by omega) (by omega)).mp c_1
    have hZ := (if_pos k_1).symm.trans hZ
    refine lv_aload_n hx hb dX7_readGuest_18 rfl (lv_at hl 0 rfl) ?_
    refine va_get (D := D) (ci := 7) (v := .int (nI t_guests)) (C := RX7) (T := TX7) (N := 13) hx hb hts hi7 hown hK hP 0 rfl rfl 7 (by decide) lf48 (fun _ h9 => h9) rfl dX7_readGuest_19 ?_
    refine lv_istore_n (lv' := [(2, .int (nI t_guests)), (0, .ref t), (1, .ref ta)]) hx hb dX7_readGuest_22 rfl hl (by decide) rfl (fun ls hl => ?_)
    refine lv_aload_n hx hb dX7_readGuest_23 rfl (lv_at hl 2 rfl) ?_
    refine kz_VvY (As := []) (rest := []) (wc := [(ta, kO 6 [.ref ta_signs, .ref ta_words, .int (nI ta_length), .int (nI ta_next), .int ta_place, .int ta_kind, .int ta_value, .long ta_letters, .int ta_fault]), (ta_signs, kB k 1000 ta_signsF), (ta_words, kJ k 23 ta_wordsF)]) (wr := [(t, kO 7 [.ref t_names, .ref t_kinds, .ref t_yards, .ref t_paces, .ref t_skills, .ref t_snow, .ref tw, .int (nI t_guests), .int (nI t_snows), .int t_bend, .int t_hour, .int (bB t_bendTold), .int (bB t_hourTold)]), (t_names, kJ k 6 t_namesF), (t_kinds, kI k 6 t_kindsF), (t_yards, kI k 6 t_yardsF), (t_paces, kI k 6 t_pacesF), (t_skills, kI k 6 t_skillsF)]) ⟨hx, hb, hml, hown, hts⟩ hX hAX ha0 hK hE hP hD hS hA (sX6_advance l D k a0 sa sv f H.size ta ta_signs ta_words ta_length ta_next ta_place ta_kind ta_value ta_letters ta_fault ta_signsF ta_wordsF (by first | omega | assumption | decide) (by first | omega | assumption | decide)) (cwV 0 hts gX7_readGuest_X6_advance rfl rfl rfl (by decide +kernel) (by rw [hR]; exact ⟨Nat.le_of_ble_eq_true rfl, Nat.le_of_ble_eq_true rfl⟩)) [6, 7, 8] [0, 1, 2, 3, 4, 5] rfl rfl (by decide) (by decide) (by decide) 0 rfl rfl rfl hl.1 rfl (Nat.le_of_ble_eq_true rfl) dX7_readGuest_24 (by rw [hR]; exact ⟨Nat.le_of_ble_eq_true rfl, Nat.le_of_ble_eq_true rfl⟩) (fun u2 H locs hw2 hP hD hS => ?_)
    obtain ⟨u_ta_32, u_ta_42, u_ta_52, u_ta_62, u_ta_72⟩ := u2
    try dsimp only at hw2
    have hP : va_P D vwCl [(t, kO 7 [.ref t_names, .ref t_kinds, .ref t_yards, .ref t_paces, .ref t_skills, .ref t_snow, .ref tw, .int (nI t_guests), .int (nI t_snows), .int t_bend, .int t_hour, .int (bB t_bendTold), .int (bB t_hourTold)]), (t_names, kJ k 6 t_namesF), (t_kinds, kI k 6 t_kindsF), (t_yards, kI k 6 t_yardsF), (t_paces, kI k 6 t_pacesF), (t_skills, kI k 6 t_skillsF), (ta, kO 6 [.ref ta_signs, .ref ta_words, .int (nI ta_length), .int (nI u_ta_32), .int u_ta_42, .int u_ta_52, .int u_ta_62, .long u_ta_72, .int ta_fault]), (ta_signs, kB k 1000 ta_signsF), (ta_words, kJ k 23 ta_wordsF)] H := hP
    have hD : va_D A [(t, kO 7 [.ref t_names, .ref t_kinds, .ref t_yards, .ref t_paces, .ref t_skills, .ref t_snow, .ref tw, .int (nI t_guests), .int (nI t_snows), .int t_bend, .int t_hour, .int (bB t_bendTold), .int (bB t_hourTold)]), (t_names, kJ k 6 t_namesF), (t_kinds, kI k 6 t_kindsF), (t_yards, kI k 6 t_yardsF), (t_paces, kI k 6 t_pacesF), (t_skills, kI k 6 t_skillsF), (ta, kO 6 [.ref ta_signs, .ref ta_words, .int (nI ta_length), .int (nI u_ta_32), .int u_ta_42, .int u_ta_52, .int u_ta_62, .long u_ta_72, .int ta_fault]), (ta_signs, kB k 1000 ta_signsF), (ta_words, kJ k 23 ta_wordsF)] := hD
    obtain ⟨hw2_0, hw2_1⟩ := hw2
    have hZ := bn5_e hw2_1 hZ
    refine lv_aload_n hx hb dX7_readGuest_27 rfl (lv_at hl 2 rfl) ?_
    refine kz_Vi (As := []) (rest := []) (wc := [(ta, kO 6 [.ref ta_signs, .ref ta_words, .int (nI ta_length), .int (nI u_ta_32), .int u_ta_42, .int u_ta_52, .int u_ta_62, .long u_ta_72, .int ta_fault])]) (wr := [(t, kO 7 [.ref t_names, .ref t_kinds, .ref t_yards, .ref t_paces, .ref t_skills, .ref t_snow, .ref tw, .int (nI t_guests), .int (nI t_snows), .int t_bend, .int t_hour, .int (bB t_bendTold), .int (bB t_hourTold)]), (t_names, kJ k 6 t_namesF), (t_kinds, kI k 6 t_kindsF), (t_yards, kI k 6 t_yardsF), (t_paces, kI k 6 t_pacesF), (t_skills, kI k 6 t_skillsF), (ta_signs, kB k 1000 ta_signsF), (ta_words, kJ k 23 ta_wordsF)]) ⟨hx, hb, hml, hown, hts⟩ hK hE hP hD hS hA (sX6_isName l D k H.size ta ta_signs ta_words ta_length u_ta_32 u_ta_42 u_ta_52 u_ta_62 u_ta_72 ta_fault (by first | omega | assumption | decide) (by first | omega | assumption | decide)) (cwV 0 hts gX7_readGuest_X6_isName rfl rfl rfl (by decide +kernel) (by rw [hR]; exact ⟨Nat.le_of_ble_eq_true rfl, Nat.le_of_ble_eq_true rfl⟩)) [6] [0, 1, 2, 3, 4, 5, 7, 8] rfl rfl (by decide) (by decide) (by decide) 0 rfl rfl rfl hl.1 rfl (Nat.le_of_ble_eq_true rfl) dX7_readGuest_28 (by rw [hR]; exact ⟨Nat.le_of_ble_eq_true rfl, Nat.le_of_ble_eq_true rfl⟩) (fun r3 u3 H locs hw3 hP hD hS => ?_)
    try dsimp only at hw3
    obtain ⟨rfl, hw3⟩ := hw3
    have hP : va_P D vwCl [(t, kO 7 [.ref t_names, .ref t_kinds, .ref t_yards, .ref t_paces, .ref t_skills, .ref t_snow, .ref tw, .int (nI t_guests), .int (nI t_snows), .int t_bend, .int t_hour, .int (bB t_bendTold), .int (bB t_hourTold)]), (t_names, kJ k 6 t_namesF), (t_kinds, kI k 6 t_kindsF), (t_yards, kI k 6 t_yardsF), (t_paces, kI k 6 t_pacesF), (t_skills, kI k 6 t_skillsF), (ta_signs, kB k 1000 ta_signsF), (ta_words, kJ k 23 ta_wordsF), (ta, kO 6 [.ref ta_signs, .ref ta_words, .int (nI ta_length), .int (nI u_ta_32), .int u_ta_42, .int u_ta_52, .int u_ta_62, .long u_ta_72, .int ta_fault])] H := hP
    have hD : va_D A [(t, kO 7 [.ref t_names, .ref t_kinds, .ref t_yards, .ref t_paces, .ref t_skills, .ref t_snow, .ref tw, .int (nI t_guests), .int (nI t_snows), .int t_bend, .int t_hour, .int (bB t_bendTold), .int (bB t_hourTold)]), (t_names, kJ k 6 t_namesF), (t_kinds, kI k 6 t_kindsF), (t_yards, kI k 6 t_yardsF), (t_paces, kI k 6 t_pacesF), (t_skills, kI k 6 t_skillsF), (ta_signs, kB k 1000 ta_signsF), (ta_words, kJ k 23 ta_wordsF), (ta, kO 6 [.ref ta_signs, .ref ta_words, .int (nI ta_length), .int (nI u_ta_32), .int u_ta_42, .int u_ta_52, .int u_ta_62, .long u_ta_72, .int ta_fault])] := hD
    have hw3_0 := hw3
    have hZ := bn1_e hw3_0 hZ
    refine lv_if_ne (tgt := 40) hx hb dX7_readGuest_31 (by decide) (fun c_4 => ?_) (fun c_4 => ?_)
    · skip
      have b_4 : u3 = true := bB_1 c_4
      have hZ := (if_pos b_4).symm.trans hZ
      refine lv_aload_n hx hb dX7_readGuest_40 rfl (lv_at hl 1 rfl) ?_
      refine lv_aload_n hx hb dX7_readGuest_41 rfl (lv_at hl 2 rfl) ?_
      refine va_get (D := D) (ci := 6) (v := .long u_ta_72) (C := RX6) (T := TX6) (N := 9) hx hb hts hi6 hown hK hP 8 rfl rfl 7 (by decide) lf106 (fun _ h9 => h9) rfl dX7_readGuest_42 ?_
      refine kz_Vi (As := [.long u_ta_72]) (rest := []) (wc := [(t, kO 7 [.ref t_names, .ref t_kinds, .ref t_yards, .ref t_paces, .ref t_skills, .ref t_snow, .ref tw, .int (nI t_guests), .int (nI t_snows), .int t_bend, .int t_hour, .int (bB t_bendTold), .int (bB t_hourTold)]), (t_names, kJ k 6 t_namesF)]) (wr := [(t_kinds, kI k 6 t_kindsF), (t_yards, kI k 6 t_yardsF), (t_paces, kI k 6 t_pacesF), (t_skills, kI k 6 t_skillsF), (ta_signs, kB k 1000 ta_signsF), (ta_words, kJ k 23 ta_wordsF), (ta, kO 6 [.ref ta_signs, .ref ta_words, .int (nI ta_length), .int (nI u_ta_32), .int u_ta_42, .int u_ta_52, .int u_ta_62, .long u_ta_72, .int ta_fault])]) ⟨hx, hb, hml, hown, hts⟩ hK hE hP hD hS hA (sX7_numberOf l D k H.size t u_ta_72 t_names t_kinds t_yards t_paces t_skills t_snow tw t_guests t_snows t_bend t_hour t_bendTold t_hourTold t_namesF (by first | omega | assumption | decide) (by first | omega | assumption | decide)) (cwV 1 hts gX7_readGuest_X7_numberOf rfl rfl rfl (by decide +kernel) (by rw [hR]; exact ⟨Nat.le_of_ble_eq_true rfl, Nat.le_of_ble_eq_true rfl⟩)) [0, 1] [2, 3, 4, 5, 6, 7, 8] rfl rfl (by decide) (by decide) (by decide) 0 rfl rfl rfl hl.1 rfl (Nat.le_of_ble_eq_true rfl) dX7_readGuest_45 (by rw [hR]; exact ⟨Nat.le_of_ble_eq_true rfl, Nat.le_of_ble_eq_true rfl⟩) (fun r5 u5 H locs hw5 hP hD hS => ?_)
      try dsimp only at hw5
      have hP : va_P D vwCl [(t_kinds, kI k 6 t_kindsF), (t_yards, kI k 6 t_yardsF), (t_paces, kI k 6 t_pacesF), (t_skills, kI k 6 t_skillsF), (ta_signs, kB k 1000 ta_signsF), (ta_words, kJ k 23 ta_wordsF), (ta, kO 6 [.ref ta_signs, .ref ta_words, .int (nI ta_length), .int (nI u_ta_32), .int u_ta_42, .int u_ta_52, .int u_ta_62, .long u_ta_72, .int ta_fault]), (t, kO 7 [.ref t_names, .ref t_kinds, .ref t_yards, .ref t_paces, .ref t_skills, .ref t_snow, .ref tw, .int (nI t_guests), .int (nI t_snows), .int t_bend, .int t_hour, .int (bB t_bendTold), .int (bB t_hourTold)]), (t_names, kJ k 6 t_namesF)] H := hP
      have hD : va_D A [(t_kinds, kI k 6 t_kindsF), (t_yards, kI k 6 t_yardsF), (t_paces, kI k 6 t_pacesF), (t_skills, kI k 6 t_skillsF), (ta_signs, kB k 1000 ta_signsF), (ta_words, kJ k 23 ta_wordsF), (ta, kO 6 [.ref ta_signs, .ref ta_words, .int (nI ta_length), .int (nI u_ta_32), .int u_ta_42, .int u_ta_52, .int u_ta_62, .long u_ta_72, .int ta_fault]), (t, kO 7 [.ref t_names, .ref t_kinds, .ref t_yards, .ref t_paces, .ref t_skills, .ref t_snow, .ref tw, .int (nI t_guests), .int (nI t_snows), .int t_bend, .int t_hour, .int (bB t_bendTold), .int (bB t_hourTold)]), (t_names, kJ k 6 t_namesF)] := hD
      have hw5_0 := hw5
      have hZ := bn1_e hw5_0 hZ
      refine lv_iconst (v := (-1)) hx hb dX7_readGuest_48 (by decide) ?_
      refine lv_icmp_eq (tgt := 58) hx hb dX7_readGuest_49 (by decide) (fun c_6 => ?_) (fun c_6 => ?_)
      · skip
        have t_6 : (Int32.toInt r5) = (-1) := tI_eq rfl (by decide) c_6
        have hZ := (if_pos c_6).symm.trans hZ
        refine lv_aload_n hx hb dX7_readGuest_58 rfl (lv_at hl 1 rfl) ?_
        refine va_get (D := D) (ci := 7) (v := .ref t_names) (C := RX7) (T := TX7) (N := 13) hx hb hts hi7 hown hK hP 7 rfl rfl 0 (by decide) lf9 (fun _ h9 => h9) rfl dX7_readGuest_59 ?_
        refine lv_iload_n hx hb dX7_readGuest_62 rfl (lv_at hl 0 rfl) ?_
        refine lv_aload_n hx hb dX7_readGuest_63 rfl (lv_at hl 2 rfl) ?_
        refine va_get (D := D) (ci := 6) (v := .long u_ta_72) (C := RX6) (T := TX6) (N := 9) hx hb hts hi6 hown hK hP 6 rfl rfl 7 (by decide) lf106 (fun _ h9 => h9) rfl dX7_readGuest_64 ?_
        refine va_last hx hb hK hP hD hS 8 1 rfl rfl (vp_in_nI (n := t_guests) (by omega) (by omega)) dX7_readGuest_67 (fun H locs hP hD hS => ?_)
        have hP : va_P D vwCl [(t_kinds, kI k 6 t_kindsF), (t_yards, kI k 6 t_yardsF), (t_paces, kI k 6 t_pacesF), (t_skills, kI k 6 t_skillsF), (ta_signs, kB k 1000 ta_signsF), (ta_words, kJ k 23 ta_wordsF), (ta, kO 6 [.ref ta_signs, .ref ta_words, .int (nI ta_length), .int (nI u_ta_32), .int u_ta_42, .int u_ta_52, .int u_ta_62, .long u_ta_72, .int ta_fault]), (t, kO 7 [.ref t_names, .ref t_kinds, .ref t_yards, .ref t_paces, .ref t_skills, .ref t_snow, .ref tw, .int (nI t_guests), .int (nI t_snows), .int t_bend, .int t_hour, .int (bB t_bendTold), .int (bB t_hourTold)]), (t_names, kJ k 6 (vp_updL t_namesF (Int32.toNatClampNeg (nI t_guests)) u_ta_72))] H := hP
        have hD : va_D A [(t_kinds, kI k 6 t_kindsF), (t_yards, kI k 6 t_yardsF), (t_paces, kI k 6 t_pacesF), (t_skills, kI k 6 t_skillsF), (ta_signs, kB k 1000 ta_signsF), (ta_words, kJ k 23 ta_wordsF), (ta, kO 6 [.ref ta_signs, .ref ta_words, .int (nI ta_length), .int (nI u_ta_32), .int u_ta_42, .int u_ta_52, .int u_ta_62, .long u_ta_72, .int ta_fault]), (t, kO 7 [.ref t_names, .ref t_kinds, .ref t_yards, .ref t_paces, .ref t_skills, .ref t_snow, .ref tw, .int (nI t_guests), .int (nI t_snows), .int t_bend, .int t_hour, .int (bB t_bendTold), .int (bB t_hourTold)]), (t_names, kJ k 6 (vp_updL t_namesF (Int32.toNatClampNeg (nI t_guests)) u_ta_72))] := hD
        refine lv_aload_n hx hb dX7_readGuest_68 rfl (lv_at hl 2 rfl) ?_
        refine kz_VvY (As := []) (rest := []) (wc := [(ta, kO 6 [.ref ta_signs, .ref ta_words, .int (nI ta_length), .int (nI u_ta_32), .int u_ta_42, .int u_ta_52, .int u_ta_62, .long u_ta_72, .int ta_fault]), (ta_signs, kB k 1000 ta_signsF), (ta_words, kJ k 23 ta_wordsF)]) (wr := [(t_kinds, kI k 6 t_kindsF), (t_yards, kI k 6 t_yardsF), (t_paces, kI k 6 t_pacesF), (t_skills, kI k 6 t_skillsF), (t, kO 7 [.ref t_names, .ref t_kinds, .ref t_yards, .ref t_paces, .ref t_skills, .ref t_snow, .ref tw, .int (nI t_guests), .int (nI t_snows), .int t_bend, .int t_hour, .int (bB t_bendTold), .int (bB t_hourTold)]), (t_names, kJ k 6 (vp_updL t_namesF (Int32.toNatClampNeg (nI t_guests)) u_ta_72))]) ⟨hx, hb, hml, hown, hts⟩ hX hAX ha0 hK hE hP hD hS hA (sX6_advance l D k a0 sa sv f H.size ta ta_signs ta_words ta_length u_ta_32 u_ta_42 u_ta_52 u_ta_62 u_ta_72 ta_fault ta_signsF ta_wordsF (by first | omega | assumption | decide) (by first | omega | assumption | decide)) (cwV 0 hts gX7_readGuest_X6_advance rfl rfl rfl (by decide +kernel) (by rw [hR]; exact ⟨Nat.le_of_ble_eq_true rfl, Nat.le_of_ble_eq_true rfl⟩)) [6, 4, 5] [0, 1, 2, 3, 7, 8] rfl rfl (by decide) (by decide) (by decide) 0 rfl rfl rfl hl.1 rfl (Nat.le_of_ble_eq_true rfl) dX7_readGuest_69 (by rw [hR]; exact ⟨Nat.le_of_ble_eq_true rfl, Nat.le_of_ble_eq_true rfl⟩) (fun u7 H locs hw7 hP hD hS => ?_)
        obtain ⟨u_ta_37, u_ta_47, u_ta_57, u_ta_67, u_ta_77⟩ := u7
        try dsimp only at hw7
        have hP : va_P D vwCl [(t_kinds, kI k 6 t_kindsF), (t_yards, kI k 6 t_yardsF), (t_paces, kI k 6 t_pacesF), (t_skills, kI k 6 t_skillsF), (t, kO 7 [.ref t_names, .ref t_kinds, .ref t_yards, .ref t_paces, .ref t_skills, .ref t_snow, .ref tw, .int (nI t_guests), .int (nI t_snows), .int t_bend, .int t_hour, .int (bB t_bendTold), .int (bB t_hourTold)]), (t_names, kJ k 6 (vp_updL t_namesF (Int32.toNatClampNeg (nI t_guests)) u_ta_72)), (ta, kO 6 [.ref ta_signs, .ref ta_words, .int (nI ta_length), .int (nI u_ta_37), .int u_ta_47, .int u_ta_57, .int u_ta_67, .long u_ta_77, .int ta_fault]), (ta_signs, kB k 1000 ta_signsF), (ta_words, kJ k 23 ta_wordsF)] H := hP
        have hD : va_D A [(t_kinds, kI k 6 t_kindsF), (t_yards, kI k 6 t_yardsF), (t_paces, kI k 6 t_pacesF), (t_skills, kI k 6 t_skillsF), (t, kO 7 [.ref t_names, .ref t_kinds, .ref t_yards, .ref t_paces, .ref t_skills, .ref t_snow, .ref tw, .int (nI t_guests), .int (nI t_snows), .int t_bend, .int t_hour, .int (bB t_bendTold), .int (bB t_hourTold)]), (t_names, kJ k 6 (vp_updL t_namesF (Int32.toNatClampNeg (nI t_guests)) u_ta_72)), (ta, kO 6 [.ref ta_signs, .ref ta_words, .int (nI ta_length), .int (nI u_ta_37), .int u_ta_47, .int u_ta_57, .int u_ta_67, .long u_ta_77, .int ta_fault]), (ta_signs, kB k 1000 ta_signsF), (ta_words, kJ k 23 ta_wordsF)] := hD
        obtain ⟨hw7_0, hw7_1⟩ := hw7
        have hZ := bn5_e hw7_1 hZ
        refine lv_aload_n hx hb dX7_readGuest_72 rfl (lv_at hl 2 rfl) ?_
        refine kz_Vi (As := []) (rest := []) (wc := [(ta, kO 6 [.ref ta_signs, .ref ta_words, .int (nI ta_length), .int (nI u_ta_37), .int u_ta_47, .int u_ta_57, .int u_ta_67, .long u_ta_77, .int ta_fault])]) (wr := [(t_kinds, kI k 6 t_kindsF), (t_yards, kI k 6 t_yardsF), (t_paces, kI k 6 t_pacesF), (t_skills, kI k 6 t_skillsF), (t, kO 7 [.ref t_names, .ref t_kinds, .ref t_yards, .ref t_paces, .ref t_skills, .ref t_snow, .ref tw, .int (nI t_guests), .int (nI t_snows), .int t_bend, .int t_hour, .int (bB t_bendTold), .int (bB t_hourTold)]), (t_names, kJ k 6 (vp_updL t_namesF (Int32.toNatClampNeg (nI t_guests)) u_ta_72)), (ta_signs, kB k 1000 ta_signsF), (ta_words, kJ k 23 ta_wordsF)]) ⟨hx, hb, hml, hown, hts⟩ hK hE hP hD hS hA (sX6_wordHere l D k H.size ta ta_signs ta_words ta_length u_ta_37 u_ta_47 u_ta_57 u_ta_67 u_ta_77 ta_fault (by first | omega | assumption | decide) (by first | omega | assumption | decide)) (cwV 0 hts gX7_readGuest_X6_wordHere rfl rfl rfl (by decide +kernel) (by rw [hR]; exact ⟨Nat.le_of_ble_eq_true rfl, Nat.le_of_ble_eq_true rfl⟩)) [6] [0, 1, 2, 3, 4, 5, 7, 8] rfl rfl (by decide) (by decide) (by decide) 0 rfl rfl rfl hl.1 rfl (Nat.le_of_ble_eq_true rfl) dX7_readGuest_73 (by rw [hR]; exact ⟨Nat.le_of_ble_eq_true rfl, Nat.le_of_ble_eq_true rfl⟩) (fun r8 u8 H locs hw8 hP hD hS => ?_)
        try dsimp only at hw8
        have hP : va_P D vwCl [(t_kinds, kI k 6 t_kindsF), (t_yards, kI k 6 t_yardsF), (t_paces, kI k 6 t_pacesF), (t_skills, kI k 6 t_skillsF), (t, kO 7 [.ref t_names, .ref t_kinds, .ref t_yards, .ref t_paces, .ref t_skills, .ref t_snow, .ref tw, .int (nI t_guests), .int (nI t_snows), .int t_bend, .int t_hour, .int (bB t_bendTold), .int (bB t_hourTold)]), (t_names, kJ k 6 (vp_updL t_namesF (Int32.toNatClampNeg (nI t_guests)) u_ta_72)), (ta_signs, kB k 1000 ta_signsF), (ta_words, kJ k 23 ta_wordsF), (ta, kO 6 [.ref ta_signs, .ref ta_words, .int (nI ta_length), .int (nI u_ta_37), .int u_ta_47, .int u_ta_57, .int u_ta_67, .long u_ta_77, .int ta_fault])] H := hP
        have hD : va_D A [(t_kinds, kI k 6 t_kindsF), (t_yards, kI k 6 t_yardsF), (t_paces, kI k 6 t_pacesF), (t_skills, kI k 6 t_skillsF), (t, kO 7 [.ref t_names, .ref t_kinds, .ref t_yards, .ref t_paces, .ref t_skills, .ref t_snow, .ref tw, .int (nI t_guests), .int (nI t_snows), .int t_bend, .int t_hour, .int (bB t_bendTold), .int (bB t_hourTold)]), (t_names, kJ k 6 (vp_updL t_namesF (Int32.toNatClampNeg (nI t_guests)) u_ta_72)), (ta_signs, kB k 1000 ta_signsF), (ta_words, kJ k 23 ta_wordsF), (ta, kO 6 [.ref ta_signs, .ref ta_words, .int (nI ta_length), .int (nI u_ta_37), .int u_ta_47, .int u_ta_57, .int u_ta_67, .long u_ta_77, .int ta_fault])] := hD
        have hw8_0 := hw8
        have hZ := bn1_e hw8_0 hZ
        refine lv_istore_n (lv' := [(3, .int r8), (2, .int (nI t_guests)), (0, .ref t), (1, .ref ta)]) hx hb dX7_readGuest_76 rfl hl (by decide) rfl (fun ls hl => ?_)
        refine lv_iload_n hx hb dX7_readGuest_77 rfl (lv_at hl 0 rfl) ?_
        refine lv_bipush (v := 12) hx hb dX7_readGuest_78 (by decide) ?_
        have hj89_9 : ∀ (H : Heap) (locs : List Loc) (ls : Array Slot), ((fX7_readGuest_J89a t_guests t_namesF t_kindsF t_yardsF t_pacesF t_skillsF u_ta_72 u_ta_37 u_ta_47 u_ta_57 u_ta_67 u_ta_77) = E0) → va_P D vwCl [(t_kinds, kI k 6 t_kindsF), (t_yards, kI k 6 t_yardsF), (t_paces, kI k 6 t_pacesF), (t_skills, kI k 6 t_skillsF), (t, kO 7 [.ref t_names, .ref t_kinds, .ref t_yards, .ref t_paces, .ref t_skills, .ref t_snow, .ref tw, .int (nI t_guests), .int (nI t_snows), .int t_bend, .int t_hour, .int (bB t_bendTold), .int (bB t_hourTold)]), (t_names, kJ k 6 (vp_updL t_namesF (Int32.toNatClampNeg (nI t_guests)) u_ta_72)), (ta_signs, kB k 1000 ta_signsF), (ta_words, kJ k 23 ta_wordsF), (ta, kO 6 [.ref ta_signs, .ref ta_words, .int (nI ta_length), .int (nI u_ta_37), .int u_ta_47, .int u_ta_57, .int u_ta_67, .long u_ta_77, .int ta_fault])] H → va_D A [(t_kinds, kI k 6 t_kindsF), (t_yards, kI k 6 t_yardsF), (t_paces, kI k 6 t_pacesF), (t_skills, kI k 6 t_skillsF), (t, kO 7 [.ref t_names, .ref t_kinds, .ref t_yards, .ref t_paces, .ref t_skills, .ref t_snow, .ref tw, .int (nI t_guests), .int (nI t_snows), .int t_bend, .int t_hour, .int (bB t_bendTold), .int (bB t_hourTold)]), (t_names, kJ k 6 (vp_updL t_namesF (Int32.toNatClampNeg (nI t_guests)) u_ta_72)), (ta_signs, kB k 1000 ta_signsF), (ta_words, kJ k 23 ta_wordsF), (ta, kO 6 [.ref ta_signs, .ref ta_words, .int (nI ta_length), .int (nI u_ta_37), .int u_ta_47, .int u_ta_57, .int u_ta_67, .long u_ta_77, .int ta_fault])] → va_S A s.heap H locs → lv_has ls 4 [(0, .ref t), (1, .ref ta), (2, .int (nI t_guests)), (3, .int r8)] → W p l e R s m args below meth c H locs 0 0 Q (F0 m 89 ls []) := by
          intro H locs ls hZ hP hD hS hl
          refine lv_aload_n hx hb dX7_readGuest_89 rfl (lv_at hl 1 rfl) ?_
          refine lv_iconst (v := 1) hx hb dX7_readGuest_90 (by decide) ?_
          refine kz_Vi (As := [.int 1]) (rest := []) (wc := [(ta, kO 6 [.ref ta_signs, .ref ta_words, .int (nI ta_length), .int (nI u_ta_37), .int u_ta_47, .int u_ta_57, .int u_ta_67, .long u_ta_77, .int ta_fault])]) (wr := [(t_kinds, kI k 6 t_kindsF), (t_yards, kI k 6 t_yardsF), (t_paces, kI k 6 t_pacesF), (t_skills, kI k 6 t_skillsF), (t, kO 7 [.ref t_names, .ref t_kinds, .ref t_yards, .ref t_paces, .ref t_skills, .ref t_snow, .ref tw, .int (nI t_guests), .int (nI t_snows), .int t_bend, .int t_hour, .int (bB t_bendTold), .int (bB t_hourTold)]), (t_names, kJ k 6 (vp_updL t_namesF (Int32.toNatClampNeg (nI t_guests)) u_ta_72)), (ta_signs, kB k 1000 ta_signsF), (ta_words, kJ k 23 ta_wordsF)]) ⟨hx, hb, hml, hown, hts⟩ hK hE hP hD hS hA (sX6_wrong l D k H.size ta 1 ta_signs ta_words ta_length u_ta_37 u_ta_47 u_ta_57 u_ta_67 u_ta_77 ta_fault (by first | omega | assumption | decide) (by first | omega | assumption | decide)) (cwV 1 hts gX7_readGuest_X6_wrong rfl rfl rfl (by decide +kernel) (by rw [hR]; exact ⟨Nat.le_of_ble_eq_true rfl, Nat.le_of_ble_eq_true rfl⟩)) [8] [0, 1, 2, 3, 4, 5, 6, 7] rfl rfl (by decide) (by decide) (by decide) 0 rfl rfl rfl hl.1 rfl (Nat.le_of_ble_eq_true rfl) dX7_readGuest_91 (by rw [hR]; exact ⟨Nat.le_of_ble_eq_true rfl, Nat.le_of_ble_eq_true rfl⟩) (fun r10 u10 H locs hw10 hP hD hS => ?_)
          obtain ⟨u_ta_810, ub10⟩ := u10
          try dsimp only at hw10
          obtain ⟨rfl, hw10⟩ := hw10
          have hP : va_P D vwCl [(t_kinds, kI k 6 t_kindsF), (t_yards, kI k 6 t_yardsF), (t_paces, kI k 6 t_pacesF), (t_skills, kI k 6 t_skillsF), (t, kO 7 [.ref t_names, .ref t_kinds, .ref t_yards, .ref t_paces, .ref t_skills, .ref t_snow, .ref tw, .int (nI t_guests), .int (nI t_snows), .int t_bend, .int t_hour, .int (bB t_bendTold), .int (bB t_hourTold)]), (t_names, kJ k 6 (vp_updL t_namesF (Int32.toNatClampNeg (nI t_guests)) u_ta_72)), (ta_signs, kB k 1000 ta_signsF), (ta_words, kJ k 23 ta_wordsF), (ta, kO 6 [.ref ta_signs, .ref ta_words, .int (nI ta_length), .int (nI u_ta_37), .int u_ta_47, .int u_ta_57, .int u_ta_67, .long u_ta_77, .int u_ta_810])] H := hP
          have hD : va_D A [(t_kinds, kI k 6 t_kindsF), (t_yards, kI k 6 t_yardsF), (t_paces, kI k 6 t_pacesF), (t_skills, kI k 6 t_skillsF), (t, kO 7 [.ref t_names, .ref t_kinds, .ref t_yards, .ref t_paces, .ref t_skills, .ref t_snow, .ref tw, .int (nI t_guests), .int (nI t_snows), .int t_bend, .int t_hour, .int (bB t_bendTold), .int (bB t_hourTold)]), (t_names, kJ k 6 (vp_updL t_namesF (Int32.toNatClampNeg (nI t_guests)) u_ta_72)), (ta_signs, kB k 1000 ta_signsF), (ta_words, kJ k 23 ta_wordsF), (ta, kO 6 [.ref ta_signs, .ref ta_words, .int (nI ta_length), .int (nI u_ta_37), .int u_ta_47, .int u_ta_57, .int u_ta_67, .long u_ta_77, .int u_ta_810])] := hD
          have hw10_0 := hw10
          have hZ := bn2_e hw10_0 hZ
          rw [hQ]
          have hP9 := hP.sub (ws' := [(t, kO 7 [.ref t_names, .ref t_kinds, .ref t_yards, .ref t_paces, .ref t_skills, .ref t_snow, .ref tw, .int (nI t_guests), .int (nI t_snows), .int t_bend, .int t_hour, .int (bB t_bendTold), .int (bB t_hourTold)]), (t_names, kJ k 6 (vp_updL t_namesF (Int32.toNatClampNeg (nI t_guests)) u_ta_72)), (t_kinds, kI k 6 t_kindsF), (t_yards, kI k 6 t_yardsF), (t_paces, kI k 6 t_pacesF), (t_skills, kI k 6 t_skillsF), (ta, kO 6 [.ref ta_signs, .ref ta_words, .int (nI ta_length), .int (nI u_ta_37), .int u_ta_47, .int u_ta_57, .int u_ta_67, .long u_ta_77, .int u_ta_810]), (ta_signs, kB k 1000 ta_signsF), (ta_words, kJ k 23 ta_wordsF)]) [4, 5, 0, 1, 2, 3, 8, 6, 7] rfl
          have hD9 := hD.sub (ws' := [(t, kO 7 [.ref t_names, .ref t_kinds, .ref t_yards, .ref t_paces, .ref t_skills, .ref t_snow, .ref tw, .int (nI t_guests), .int (nI t_snows), .int t_bend, .int t_hour, .int (bB t_bendTold), .int (bB t_hourTold)]), (t_names, kJ k 6 (vp_updL t_namesF (Int32.toNatClampNeg (nI t_guests)) u_ta_72)), (t_kinds, kI k 6 t_kindsF), (t_yards, kI k 6 t_yardsF), (t_paces, kI k 6 t_pacesF), (t_skills, kI k 6 t_skillsF), (ta, kO 6 [.ref ta_signs, .ref ta_words, .int (nI ta_length), .int (nI u_ta_37), .int u_ta_47, .int u_ta_57, .int u_ta_67, .long u_ta_77, .int u_ta_810]), (ta_signs, kB k 1000 ta_signsF), (ta_words, kJ k 23 ta_wordsF)]) [4, 5, 0, 1, 2, 3, 8, 6, 7] (by decide) rfl
          exact W.zret (v := (bB ub10)) hx hb hr (narrow_bB _) (fun zt ht hW => ⟨⟨(bB ub10), ⟨t_guests, (vp_updL t_namesF (Int32.toNatClampNeg (nI t_guests)) u_ta_72), t_kindsF, t_yardsF, t_pacesF, t_skillsF, u_ta_37, u_ta_47, u_ta_57, u_ta_67, u_ta_77, u_ta_810, ub10⟩, rfl, ⟨rfl, (by first | omega | (dsimp only; omega) | assumption), (by first | omega | (dsimp only; omega) | assumption), (hZ.trans hE0)⟩, by rw [ht]; exact hP9, hD9⟩, hS.F ht⟩) hS.2.2 dX7_readGuest_94
        refine lv_icmp_lt (tgt := 89) hx hb dX7_readGuest_80 (by decide) (fun c_11 => ?_) (fun c_11 => ?_)
        · skip
          have t_11 : (Int32.toInt r8) < 12 := tI_lt rfl (by decide) c_11
          have hZ := (if_pos c_11).symm.trans hZ
          exact hj89_9 _ _ _ hZ (hP.sub [0, 1, 2, 3, 4, 5, 6, 7, 8] rfl) (hD.sub [0, 1, 2, 3, 4, 5, 6, 7, 8] (by decide) rfl) hS (lv_sub hl [2, 3, 1, 0] rfl)
        · skip
          have t_11 : (Int32.toInt r8) ≥ 12 := tI_nlt rfl (by decide) c_11
          have hZ := (if_neg c_11).symm.trans hZ
          refine lv_iload_n hx hb dX7_readGuest_83 rfl (lv_at hl 0 rfl) ?_
          refine lv_bipush (v := 15) hx hb dX7_readGuest_84 (by decide) ?_
          refine lv_icmp_le (tgt := 95) hx hb dX7_readGuest_86 (by decide) (fun c_12 => ?_) (fun c_12 => ?_)
          · skip
            have t_12 : (Int32.toInt r8) ≤ 15 := tI_le rfl (by decide) c_12
            have hZ := (if_pos c_12).symm.trans hZ
            refine lv_aload_n hx hb dX7_readGuest_95 rfl (lv_at hl 2 rfl) ?_
            refine va_get (D := D) (ci := 7) (v := .ref t_kinds) (C := RX7) (T := TX7) (N := 13) hx hb hts hi7 hown hK hP 4 rfl rfl 1 (by decide) lf15 (fun _ h9 => h9) rfl dX7_readGuest_96 ?_
            refine lv_iload_n hx hb dX7_readGuest_99 rfl (lv_at hl 1 rfl) ?_
            refine lv_iload_n hx hb dX7_readGuest_100 rfl (lv_at hl 0 rfl) ?_
            refine lv_bipush (v := 12) hx hb dX7_readGuest_101 (by decide) ?_
            refine lv_isub hx hb dX7_readGuest_103 ?_
            refine va_iast hx hb hK hP hD hS 0 0 rfl rfl (vp_in_nI (n := t_guests) (by omega) (by omega)) dX7_readGuest_104 (fun H locs hP hD hS => ?_)
            have hP : va_P D vwCl [(t_kinds, kI k 6 (upd t_kindsF (Int32.toNatClampNeg (nI t_guests)) (r8 - 12))), (t_yards, kI k 6 t_yardsF), (t_paces, kI k 6 t_pacesF), (t_skills, kI k 6 t_skillsF), (t, kO 7 [.ref t_names, .ref t_kinds, .ref t_yards, .ref t_paces, .ref t_skills, .ref t_snow, .ref tw, .int (nI t_guests), .int (nI t_snows), .int t_bend, .int t_hour, .int (bB t_bendTold), .int (bB t_hourTold)]), (t_names, kJ k 6 (vp_updL t_namesF (Int32.toNatClampNeg (nI t_guests)) u_ta_72)), (ta_signs, kB k 1000 ta_signsF), (ta_words, kJ k 23 ta_wordsF), (ta, kO 6 [.ref ta_signs, .ref ta_words, .int (nI ta_length), .int (nI u_ta_37), .int u_ta_47, .int u_ta_57, .int u_ta_67, .long u_ta_77, .int ta_fault])] H := hP
            have hD : va_D A [(t_kinds, kI k 6 (upd t_kindsF (Int32.toNatClampNeg (nI t_guests)) (r8 - 12))), (t_yards, kI k 6 t_yardsF), (t_paces, kI k 6 t_pacesF), (t_skills, kI k 6 t_skillsF), (t, kO 7 [.ref t_names, .ref t_kinds, .ref t_yards, .ref t_paces, .ref t_skills, .ref t_snow, .ref tw, .int (nI t_guests), .int (nI t_snows), .int t_bend, .int t_hour, .int (bB t_bendTold), .int (bB t_hourTold)]), (t_names, kJ k 6 (vp_updL t_namesF (Int32.toNatClampNeg (nI t_guests)) u_ta_72)), (ta_signs, kB k 1000 ta_signsF), (ta_words, kJ k 23 ta_wordsF), (ta, kO 6 [.ref ta_signs, .ref ta_words, .int (nI ta_length), .int (nI u_ta_37), .int u_ta_47, .int u_ta_57, .int u_ta_67, .long u_ta_77, .int ta_fault])] := hD
            refine lv_aload_n hx hb dX7_readGuest_105 rfl (lv_at hl 3 rfl) ?_
            refine kz_VvY (As := []) (rest := []) (wc := [(ta, kO 6 [.ref ta_signs, .ref ta_words, .int (nI ta_length), .int (nI u_ta_37), .int u_ta_47, .int u_ta_57, .int u_ta_67, .long u_ta_77, .int ta_fault]), (ta_signs, kB k 1000 ta_signsF), (ta_words, kJ k 23 ta_wordsF)]) (wr := [(t_kinds, kI k 6 (upd t_kindsF (Int32.toNatClampNeg (nI t_guests)) (r8 - 12))), (t_yards, kI k 6 t_yardsF), (t_paces, kI k 6 t_pacesF), (t_skills, kI k 6 t_skillsF), (t, kO 7 [.ref t_names, .ref t_kinds, .ref t_yards, .ref t_paces, .ref t_skills, .ref t_snow, .ref tw, .int (nI t_guests), .int (nI t_snows), .int t_bend, .int t_hour, .int (bB t_bendTold), .int (bB t_hourTold)]), (t_names, kJ k 6 (vp_updL t_namesF (Int32.toNatClampNeg (nI t_guests)) u_ta_72))]) ⟨hx, hb, hml, hown, hts⟩ hX hAX ha0 hK hE hP hD hS hA (sX6_advance l D k a0 sa sv f H.size ta ta_signs ta_words ta_length u_ta_37 u_ta_47 u_ta_57 u_ta_67 u_ta_77 ta_fault ta_signsF ta_wordsF (by first | omega | assumption | decide) (by first | omega | assumption | decide)) (cwV 0 hts gX7_readGuest_X6_advance rfl rfl rfl (by decide +kernel) (by rw [hR]; exact ⟨Nat.le_of_ble_eq_true rfl, Nat.le_of_ble_eq_true rfl⟩)) [8, 6, 7] [0, 1, 2, 3, 4, 5] rfl rfl (by decide) (by decide) (by decide) 0 rfl rfl rfl hl.1 rfl (Nat.le_of_ble_eq_true rfl) dX7_readGuest_106 (by rw [hR]; exact ⟨Nat.le_of_ble_eq_true rfl, Nat.le_of_ble_eq_true rfl⟩) (fun u13 H locs hw13 hP hD hS => ?_)
            obtain ⟨u_ta_313, u_ta_413, u_ta_513, u_ta_613, u_ta_713⟩ := u13
            try dsimp only at hw13
            have hP : va_P D vwCl [(t_kinds, kI k 6 (upd t_kindsF (Int32.toNatClampNeg (nI t_guests)) (r8 - 12))), (t_yards, kI k 6 t_yardsF), (t_paces, kI k 6 t_pacesF), (t_skills, kI k 6 t_skillsF), (t, kO 7 [.ref t_names, .ref t_kinds, .ref t_yards, .ref t_paces, .ref t_skills, .ref t_snow, .ref tw, .int (nI t_guests), .int (nI t_snows), .int t_bend, .int t_hour, .int (bB t_bendTold), .int (bB t_hourTold)]), (t_names, kJ k 6 (vp_updL t_namesF (Int32.toNatClampNeg (nI t_guests)) u_ta_72)), (ta, kO 6 [.ref ta_signs, .ref ta_words, .int (nI ta_length), .int (nI u_ta_313), .int u_ta_413, .int u_ta_513, .int u_ta_613, .long u_ta_713, .int ta_fault]), (ta_signs, kB k 1000 ta_signsF), (ta_words, kJ k 23 ta_wordsF)] H := hP
            have hD : va_D A [(t_kinds, kI k 6 (upd t_kindsF (Int32.toNatClampNeg (nI t_guests)) (r8 - 12))), (t_yards, kI k 6 t_yardsF), (t_paces, kI k 6 t_pacesF), (t_skills, kI k 6 t_skillsF), (t, kO 7 [.ref t_names, .ref t_kinds, .ref t_yards, .ref t_paces, .ref t_skills, .ref t_snow, .ref tw, .int (nI t_guests), .int (nI t_snows), .int t_bend, .int t_hour, .int (bB t_bendTold), .int (bB t_hourTold)]), (t_names, kJ k 6 (vp_updL t_namesF (Int32.toNatClampNeg (nI t_guests)) u_ta_72)), (ta, kO 6 [.ref ta_signs, .ref ta_words, .int (nI ta_length), .int (nI u_ta_313), .int u_ta_413, .int u_ta_513, .int u_ta_613, .long u_ta_713, .int ta_fault]), (ta_signs, kB k 1000 ta_signsF), (ta_words, kJ k 23 ta_wordsF)] := hD
            obtain ⟨hw13_0, hw13_1⟩ := hw13
            have hZ := bn5_e hw13_1 hZ
            refine lv_aload_n hx hb dX7_readGuest_109 rfl (lv_at hl 2 rfl) ?_
            refine va_get (D := D) (ci := 7) (v := .ref t_yards) (C := RX7) (T := TX7) (N := 13) hx hb hts hi7 hown hK hP 4 rfl rfl 2 (by decide) lf19 (fun _ h9 => h9) rfl dX7_readGuest_110 ?_
            refine lv_iload_n hx hb dX7_readGuest_113 rfl (lv_at hl 1 rfl) ?_
            refine lv_aload_n hx hb dX7_readGuest_114 rfl (lv_at hl 3 rfl) ?_
            refine lv_iconst (v := 1) hx hb dX7_readGuest_115 (by decide) ?_
            refine lv_iconst (v := 1) hx hb dX7_readGuest_116 (by decide) ?_
            refine lv_sipush (v := 300) hx hb dX7_readGuest_117 (by decide) ?_
            refine kz_SiY (As := [.ref ta, .int 1, .int 1, .int 300]) (rest := [.int (nI t_guests), .ref t_yards]) (wc := [(ta, kO 6 [.ref ta_signs, .ref ta_words, .int (nI ta_length), .int (nI u_ta_313), .int u_ta_413, .int u_ta_513, .int u_ta_613, .long u_ta_713, .int ta_fault]), (ta_signs, kB k 1000 ta_signsF), (ta_words, kJ k 23 ta_wordsF)]) (wr := [(t_kinds, kI k 6 (upd t_kindsF (Int32.toNatClampNeg (nI t_guests)) (r8 - 12))), (t_yards, kI k 6 t_yardsF), (t_paces, kI k 6 t_pacesF), (t_skills, kI k 6 t_skillsF), (t, kO 7 [.ref t_names, .ref t_kinds, .ref t_yards, .ref t_paces, .ref t_skills, .ref t_snow, .ref tw, .int (nI t_guests), .int (nI t_snows), .int t_bend, .int t_hour, .int (bB t_bendTold), .int (bB t_hourTold)]), (t_names, kJ k 6 (vp_updL t_namesF (Int32.toNatClampNeg (nI t_guests)) u_ta_72))]) ⟨hx, hb, hml, hown, hts⟩ hX hAX ha0 hK hE hP hD hS hA (sX7_readMeasure l D k a0 sa sv f H.size ta 1 1 300 ta_signs ta_words ta_length u_ta_313 u_ta_413 u_ta_513 u_ta_613 u_ta_713 ta_fault ta_signsF ta_wordsF (by first | omega | assumption | decide) (by first | omega | assumption | decide)) (va_cwS 4 hts gX7_readGuest_X7_readMeasure rfl rfl rfl (by decide +kernel) (by rw [hR]; exact ⟨Nat.le_of_ble_eq_true rfl, Nat.le_of_ble_eq_true rfl⟩)) [6, 7, 8] [0, 1, 2, 3, 4, 5] rfl rfl (by decide) (by decide) (by decide) rfl hl.1 rfl (Nat.le_of_ble_eq_true rfl) dX7_readGuest_120 (by rw [hR]; exact ⟨Nat.le_of_ble_eq_true rfl, Nat.le_of_ble_eq_true rfl⟩) (fun r14 u14 H locs hw14 hP hD hS => ?_)
            obtain ⟨u_ta_314, u_ta_414, u_ta_514, u_ta_614, u_ta_714, u_ta_814⟩ := u14
            try dsimp only at hw14
            have hP : va_P D vwCl [(t_kinds, kI k 6 (upd t_kindsF (Int32.toNatClampNeg (nI t_guests)) (r8 - 12))), (t_yards, kI k 6 t_yardsF), (t_paces, kI k 6 t_pacesF), (t_skills, kI k 6 t_skillsF), (t, kO 7 [.ref t_names, .ref t_kinds, .ref t_yards, .ref t_paces, .ref t_skills, .ref t_snow, .ref tw, .int (nI t_guests), .int (nI t_snows), .int t_bend, .int t_hour, .int (bB t_bendTold), .int (bB t_hourTold)]), (t_names, kJ k 6 (vp_updL t_namesF (Int32.toNatClampNeg (nI t_guests)) u_ta_72)), (ta, kO 6 [.ref ta_signs, .ref ta_words, .int (nI ta_length), .int (nI u_ta_314), .int u_ta_414, .int u_ta_514, .int u_ta_614, .long u_ta_714, .int u_ta_814]), (ta_signs, kB k 1000 ta_signsF), (ta_words, kJ k 23 ta_wordsF)] H := hP
            have hD : va_D A [(t_kinds, kI k 6 (upd t_kindsF (Int32.toNatClampNeg (nI t_guests)) (r8 - 12))), (t_yards, kI k 6 t_yardsF), (t_paces, kI k 6 t_pacesF), (t_skills, kI k 6 t_skillsF), (t, kO 7 [.ref t_names, .ref t_kinds, .ref t_yards, .ref t_paces, .ref t_skills, .ref t_snow, .ref tw, .int (nI t_guests), .int (nI t_snows), .int t_bend, .int t_hour, .int (bB t_bendTold), .int (bB t_hourTold)]), (t_names, kJ k 6 (vp_updL t_namesF (Int32.toNatClampNeg (nI t_guests)) u_ta_72)), (ta, kO 6 [.ref ta_signs, .ref ta_words, .int (nI ta_length), .int (nI u_ta_314), .int u_ta_414, .int u_ta_514, .int u_ta_614, .long u_ta_714, .int u_ta_814]), (ta_signs, kB k 1000 ta_signsF), (ta_words, kJ k 23 ta_wordsF)] := hD
            obtain ⟨hw14_0, hw14_1⟩ := hw14
            have hZ := bn7_e hw14_1 hZ
            refine va_iast hx hb hK hP hD hS 1 0 rfl rfl (vp_in_nI (n := t_guests) (by omega) (by omega)) dX7_readGuest_123 (fun H locs hP hD hS => ?_)
            have hP : va_P D vwCl [(t_kinds, kI k 6 (upd t_kindsF (Int32.toNatClampNeg (nI t_guests)) (r8 - 12))), (t_yards, kI k 6 (upd t_yardsF (Int32.toNatClampNeg (nI t_guests)) r14)), (t_paces, kI k 6 t_pacesF), (t_skills, kI k 6 t_skillsF), (t, kO 7 [.ref t_names, .ref t_kinds, .ref t_yards, .ref t_paces, .ref t_skills, .ref t_snow, .ref tw, .int (nI t_guests), .int (nI t_snows), .int t_bend, .int t_hour, .int (bB t_bendTold), .int (bB t_hourTold)]), (t_names, kJ k 6 (vp_updL t_namesF (Int32.toNatClampNeg (nI t_guests)) u_ta_72)), (ta, kO 6 [.ref ta_signs, .ref ta_words, .int (nI ta_length), .int (nI u_ta_314), .int u_ta_414, .int u_ta_514, .int u_ta_614, .long u_ta_714, .int u_ta_814]), (ta_signs, kB k 1000 ta_signsF), (ta_words, kJ k 23 ta_wordsF)] H := hP
            have hD : va_D A [(t_kinds, kI k 6 (upd t_kindsF (Int32.toNatClampNeg (nI t_guests)) (r8 - 12))), (t_yards, kI k 6 (upd t_yardsF (Int32.toNatClampNeg (nI t_guests)) r14)), (t_paces, kI k 6 t_pacesF), (t_skills, kI k 6 t_skillsF), (t, kO 7 [.ref t_names, .ref t_kinds, .ref t_yards, .ref t_paces, .ref t_skills, .ref t_snow, .ref tw, .int (nI t_guests), .int (nI t_snows), .int t_bend, .int t_hour, .int (bB t_bendTold), .int (bB t_hourTold)]), (t_names, kJ k 6 (vp_updL t_namesF (Int32.toNatClampNeg (nI t_guests)) u_ta_72)), (ta, kO 6 [.ref ta_signs, .ref ta_words, .int (nI ta_length), .int (nI u_ta_314), .int u_ta_414, .int u_ta_514, .int u_ta_614, .long u_ta_714, .int u_ta_814]), (ta_signs, kB k 1000 ta_signsF), (ta_words, kJ k 23 ta_wordsF)] := hD
            refine lv_aload_n hx hb dX7_readGuest_124 rfl (lv_at hl 2 rfl) ?_
            refine va_get (D := D) (ci := 7) (v := .ref t_yards) (C := RX7) (T := TX7) (N := 13) hx hb hts hi7 hown hK hP 4 rfl rfl 2 (by decide) lf19 (fun _ h9 => h9) rfl dX7_readGuest_125 ?_
            refine lv_iload_n hx hb dX7_readGuest_128 rfl (lv_at hl 1 rfl) ?_
            refine va_iald hx hb hK hP 1 0 rfl rfl (vp_in_nI (n := t_guests) (by omega) (by omega)) dX7_readGuest_129 ?_
            refine lv_iconst (v := (-1)) hx hb dX7_readGuest_130 (by decide) ?_
            refine lv_icmp_ne (tgt := 136) hx hb dX7_readGuest_131 (by decide) (fun c_15 => ?_) (fun c_15 => ?_)
            · skip
              have hZ := (if_neg c_15).symm.trans hZ
              refine lv_aload_n hx hb dX7_readGuest_136 rfl (lv_at hl 2 rfl) ?_
              refine va_get (D := D) (ci := 7) (v := .ref t_paces) (C := RX7) (T := TX7) (N := 13) hx hb hts hi7 hown hK hP 4 rfl rfl 3 (by decide) lf22 (fun _ h9 => h9) rfl dX7_readGuest_137 ?_
              refine lv_iload_n hx hb dX7_readGuest_140 rfl (lv_at hl 1 rfl) ?_
              refine lv_aload_n hx hb dX7_readGuest_141 rfl (lv_at hl 3 rfl) ?_
              refine lv_iconst (v := 2) hx hb dX7_readGuest_142 (by decide) ?_
              refine lv_iconst (v := 1) hx hb dX7_readGuest_143 (by decide) ?_
              refine lv_bipush (v := 30) hx hb dX7_readGuest_144 (by decide) ?_
              refine kz_SiY (As := [.ref ta, .int 2, .int 1, .int 30]) (rest := [.int (nI t_guests), .ref t_paces]) (wc := [(ta, kO 6 [.ref ta_signs, .ref ta_words, .int (nI ta_length), .int (nI u_ta_314), .int u_ta_414, .int u_ta_514, .int u_ta_614, .long u_ta_714, .int u_ta_814]), (ta_signs, kB k 1000 ta_signsF), (ta_words, kJ k 23 ta_wordsF)]) (wr := [(t_kinds, kI k 6 (upd t_kindsF (Int32.toNatClampNeg (nI t_guests)) (r8 - 12))), (t_yards, kI k 6 (upd t_yardsF (Int32.toNatClampNeg (nI t_guests)) r14)), (t_paces, kI k 6 t_pacesF), (t_skills, kI k 6 t_skillsF), (t, kO 7 [.ref t_names, .ref t_kinds, .ref t_yards, .ref t_paces, .ref t_skills, .ref t_snow, .ref tw, .int (nI t_guests), .int (nI t_snows), .int t_bend, .int t_hour, .int (bB t_bendTold), .int (bB t_hourTold)]), (t_names, kJ k 6 (vp_updL t_namesF (Int32.toNatClampNeg (nI t_guests)) u_ta_72))]) ⟨hx, hb, hml, hown, hts⟩ hX hAX ha0 hK hE hP hD hS hA (sX7_readMeasure l D k a0 sa sv f H.size ta 2 1 30 ta_signs ta_words ta_length u_ta_314 u_ta_414 u_ta_514 u_ta_614 u_ta_714 u_ta_814 ta_signsF ta_wordsF (by first | omega | assumption | decide) (by first | omega | assumption | decide)) (va_cwS 4 hts gX7_readGuest_X7_readMeasure rfl rfl rfl (by decide +kernel) (by rw [hR]; exact ⟨Nat.le_of_ble_eq_true rfl, Nat.le_of_ble_eq_true rfl⟩)) [6, 7, 8] [0, 1, 2, 3, 4, 5] rfl rfl (by decide) (by decide) (by decide) rfl hl.1 rfl (Nat.le_of_ble_eq_true rfl) dX7_readGuest_146 (by rw [hR]; exact ⟨Nat.le_of_ble_eq_true rfl, Nat.le_of_ble_eq_true rfl⟩) (fun r16 u16 H locs hw16 hP hD hS => ?_)
              obtain ⟨u_ta_316, u_ta_416, u_ta_516, u_ta_616, u_ta_716, u_ta_816⟩ := u16
              try dsimp only at hw16
              have hP : va_P D vwCl [(t_kinds, kI k 6 (upd t_kindsF (Int32.toNatClampNeg (nI t_guests)) (r8 - 12))), (t_yards, kI k 6 (upd t_yardsF (Int32.toNatClampNeg (nI t_guests)) r14)), (t_paces, kI k 6 t_pacesF), (t_skills, kI k 6 t_skillsF), (t, kO 7 [.ref t_names, .ref t_kinds, .ref t_yards, .ref t_paces, .ref t_skills, .ref t_snow, .ref tw, .int (nI t_guests), .int (nI t_snows), .int t_bend, .int t_hour, .int (bB t_bendTold), .int (bB t_hourTold)]), (t_names, kJ k 6 (vp_updL t_namesF (Int32.toNatClampNeg (nI t_guests)) u_ta_72)), (ta, kO 6 [.ref ta_signs, .ref ta_words, .int (nI ta_length), .int (nI u_ta_316), .int u_ta_416, .int u_ta_516, .int u_ta_616, .long u_ta_716, .int u_ta_816]), (ta_signs, kB k 1000 ta_signsF), (ta_words, kJ k 23 ta_wordsF)] H := hP
              have hD : va_D A [(t_kinds, kI k 6 (upd t_kindsF (Int32.toNatClampNeg (nI t_guests)) (r8 - 12))), (t_yards, kI k 6 (upd t_yardsF (Int32.toNatClampNeg (nI t_guests)) r14)), (t_paces, kI k 6 t_pacesF), (t_skills, kI k 6 t_skillsF), (t, kO 7 [.ref t_names, .ref t_kinds, .ref t_yards, .ref t_paces, .ref t_skills, .ref t_snow, .ref tw, .int (nI t_guests), .int (nI t_snows), .int t_bend, .int t_hour, .int (bB t_bendTold), .int (bB t_hourTold)]), (t_names, kJ k 6 (vp_updL t_namesF (Int32.toNatClampNeg (nI t_guests)) u_ta_72)), (ta, kO 6 [.ref ta_signs, .ref ta_words, .int (nI ta_length), .int (nI u_ta_316), .int u_ta_416, .int u_ta_516, .int u_ta_616, .long u_ta_716, .int u_ta_816]), (ta_signs, kB k 1000 ta_signsF), (ta_words, kJ k 23 ta_wordsF)] := hD
              obtain ⟨hw16_0, hw16_1⟩ := hw16
              have hZ := bn7_e hw16_1 hZ
              refine va_iast hx hb hK hP hD hS 2 0 rfl rfl (vp_in_nI (n := t_guests) (by omega) (by omega)) dX7_readGuest_149 (fun H locs hP hD hS => ?_)
              have hP : va_P D vwCl [(t_kinds, kI k 6 (upd t_kindsF (Int32.toNatClampNeg (nI t_guests)) (r8 - 12))), (t_yards, kI k 6 (upd t_yardsF (Int32.toNatClampNeg (nI t_guests)) r14)), (t_paces, kI k 6 (upd t_pacesF (Int32.toNatClampNeg (nI t_guests)) r16)), (t_skills, kI k 6 t_skillsF), (t, kO 7 [.ref t_names, .ref t_kinds, .ref t_yards, .ref t_paces, .ref t_skills, .ref t_snow, .ref tw, .int (nI t_guests), .int (nI t_snows), .int t_bend, .int t_hour, .int (bB t_bendTold), .int (bB t_hourTold)]), (t_names, kJ k 6 (vp_updL t_namesF (Int32.toNatClampNeg (nI t_guests)) u_ta_72)), (ta, kO 6 [.ref ta_signs, .ref ta_words, .int (nI ta_length), .int (nI u_ta_316), .int u_ta_416, .int u_ta_516, .int u_ta_616, .long u_ta_716, .int u_ta_816]), (ta_signs, kB k 1000 ta_signsF), (ta_words, kJ k 23 ta_wordsF)] H := hP
              have hD : va_D A [(t_kinds, kI k 6 (upd t_kindsF (Int32.toNatClampNeg (nI t_guests)) (r8 - 12))), (t_yards, kI k 6 (upd t_yardsF (Int32.toNatClampNeg (nI t_guests)) r14)), (t_paces, kI k 6 (upd t_pacesF (Int32.toNatClampNeg (nI t_guests)) r16)), (t_skills, kI k 6 t_skillsF), (t, kO 7 [.ref t_names, .ref t_kinds, .ref t_yards, .ref t_paces, .ref t_skills, .ref t_snow, .ref tw, .int (nI t_guests), .int (nI t_snows), .int t_bend, .int t_hour, .int (bB t_bendTold), .int (bB t_hourTold)]), (t_names, kJ k 6 (vp_updL t_namesF (Int32.toNatClampNeg (nI t_guests)) u_ta_72)), (ta, kO 6 [.ref ta_signs, .ref ta_words, .int (nI ta_length), .int (nI u_ta_316), .int u_ta_416, .int u_ta_516, .int u_ta_616, .long u_ta_716, .int u_ta_816]), (ta_signs, kB k 1000 ta_signsF), (ta_words, kJ k 23 ta_wordsF)] := hD
              refine lv_aload_n hx hb dX7_readGuest_150 rfl (lv_at hl 2 rfl) ?_
              refine va_get (D := D) (ci := 7) (v := .ref t_paces) (C := RX7) (T := TX7) (N := 13) hx hb hts hi7 hown hK hP 4 rfl rfl 3 (by decide) lf22 (fun _ h9 => h9) rfl dX7_readGuest_151 ?_
              refine lv_iload_n hx hb dX7_readGuest_154 rfl (lv_at hl 1 rfl) ?_
              refine va_iald hx hb hK hP 2 0 rfl rfl (vp_in_nI (n := t_guests) (by omega) (by omega)) dX7_readGuest_155 ?_
              refine lv_iconst (v := (-1)) hx hb dX7_readGuest_156 (by decide) ?_
              refine lv_icmp_ne (tgt := 162) hx hb dX7_readGuest_157 (by decide) (fun c_17 => ?_) (fun c_17 => ?_)
              · skip
                have hZ := (if_neg c_17).symm.trans hZ
                refine lv_aload_n hx hb dX7_readGuest_162 rfl (lv_at hl 2 rfl) ?_
                refine va_get (D := D) (ci := 7) (v := .ref t_skills) (C := RX7) (T := TX7) (N := 13) hx hb hts hi7 hown hK hP 4 rfl rfl 4 (by decide) lf25 (fun _ h9 => h9) rfl dX7_readGuest_163 ?_
                refine lv_iload_n hx hb dX7_readGuest_166 rfl (lv_at hl 1 rfl) ?_
                refine lv_aload_n hx hb dX7_readGuest_167 rfl (lv_at hl 3 rfl) ?_
                refine lv_iconst (v := 3) hx hb dX7_readGuest_168 (by decide) ?_
                refine lv_iconst (v := 0) hx hb dX7_readGuest_169 (by decide) ?_
                refine lv_bipush (v := 20) hx hb dX7_readGuest_170 (by decide) ?_
                refine kz_SiY (As := [.ref ta, .int 3, .int 0, .int 20]) (rest := [.int (nI t_guests), .ref t_skills]) (wc := [(ta, kO 6 [.ref ta_signs, .ref ta_words, .int (nI ta_length), .int (nI u_ta_316), .int u_ta_416, .int u_ta_516, .int u_ta_616, .long u_ta_716, .int u_ta_816]), (ta_signs, kB k 1000 ta_signsF), (ta_words, kJ k 23 ta_wordsF)]) (wr := [(t_kinds, kI k 6 (upd t_kindsF (Int32.toNatClampNeg (nI t_guests)) (r8 - 12))), (t_yards, kI k 6 (upd t_yardsF (Int32.toNatClampNeg (nI t_guests)) r14)), (t_paces, kI k 6 (upd t_pacesF (Int32.toNatClampNeg (nI t_guests)) r16)), (t_skills, kI k 6 t_skillsF), (t, kO 7 [.ref t_names, .ref t_kinds, .ref t_yards, .ref t_paces, .ref t_skills, .ref t_snow, .ref tw, .int (nI t_guests), .int (nI t_snows), .int t_bend, .int t_hour, .int (bB t_bendTold), .int (bB t_hourTold)]), (t_names, kJ k 6 (vp_updL t_namesF (Int32.toNatClampNeg (nI t_guests)) u_ta_72))]) ⟨hx, hb, hml, hown, hts⟩ hX hAX ha0 hK hE hP hD hS hA (sX7_readMeasure l D k a0 sa sv f H.size ta 3 0 20 ta_signs ta_words ta_length u_ta_316 u_ta_416 u_ta_516 u_ta_616 u_ta_716 u_ta_816 ta_signsF ta_wordsF (by first | omega | assumption | decide) (by first | omega | assumption | decide)) (va_cwS 4 hts gX7_readGuest_X7_readMeasure rfl rfl rfl (by decide +kernel) (by rw [hR]; exact ⟨Nat.le_of_ble_eq_true rfl, Nat.le_of_ble_eq_true rfl⟩)) [6, 7, 8] [0, 1, 2, 3, 4, 5] rfl rfl (by decide) (by decide) (by decide) rfl hl.1 rfl (Nat.le_of_ble_eq_true rfl) dX7_readGuest_172 (by rw [hR]; exact ⟨Nat.le_of_ble_eq_true rfl, Nat.le_of_ble_eq_true rfl⟩) (fun r18 u18 H locs hw18 hP hD hS => ?_)
                obtain ⟨u_ta_318, u_ta_418, u_ta_518, u_ta_618, u_ta_718, u_ta_818⟩ := u18
                try dsimp only at hw18
                have hP : va_P D vwCl [(t_kinds, kI k 6 (upd t_kindsF (Int32.toNatClampNeg (nI t_guests)) (r8 - 12))), (t_yards, kI k 6 (upd t_yardsF (Int32.toNatClampNeg (nI t_guests)) r14)), (t_paces, kI k 6 (upd t_pacesF (Int32.toNatClampNeg (nI t_guests)) r16)), (t_skills, kI k 6 t_skillsF), (t, kO 7 [.ref t_names, .ref t_kinds, .ref t_yards, .ref t_paces, .ref t_skills, .ref t_snow, .ref tw, .int (nI t_guests), .int (nI t_snows), .int t_bend, .int t_hour, .int (bB t_bendTold), .int (bB t_hourTold)]), (t_names, kJ k 6 (vp_updL t_namesF (Int32.toNatClampNeg (nI t_guests)) u_ta_72)), (ta, kO 6 [.ref ta_signs, .ref ta_words, .int (nI ta_length), .int (nI u_ta_318), .int u_ta_418, .int u_ta_518, .int u_ta_618, .long u_ta_718, .int u_ta_818]), (ta_signs, kB k 1000 ta_signsF), (ta_words, kJ k 23 ta_wordsF)] H := hP
                have hD : va_D A [(t_kinds, kI k 6 (upd t_kindsF (Int32.toNatClampNeg (nI t_guests)) (r8 - 12))), (t_yards, kI k 6 (upd t_yardsF (Int32.toNatClampNeg (nI t_guests)) r14)), (t_paces, kI k 6 (upd t_pacesF (Int32.toNatClampNeg (nI t_guests)) r16)), (t_skills, kI k 6 t_skillsF), (t, kO 7 [.ref t_names, .ref t_kinds, .ref t_yards, .ref t_paces, .ref t_skills, .ref t_snow, .ref tw, .int (nI t_guests), .int (nI t_snows), .int t_bend, .int t_hour, .int (bB t_bendTold), .int (bB t_hourTold)]), (t_names, kJ k 6 (vp_updL t_namesF (Int32.toNatClampNeg (nI t_guests)) u_ta_72)), (ta, kO 6 [.ref ta_signs, .ref ta_words, .int (nI ta_length), .int (nI u_ta_318), .int u_ta_418, .int u_ta_518, .int u_ta_618, .long u_ta_718, .int u_ta_818]), (ta_signs, kB k 1000 ta_signsF), (ta_words, kJ k 23 ta_wordsF)] := hD
                obtain ⟨hw18_0, hw18_1⟩ := hw18
                have hZ := bn7_e hw18_1 hZ
                refine va_iast hx hb hK hP hD hS 3 0 rfl rfl (vp_in_nI (n := t_guests) (by omega) (by omega)) dX7_readGuest_175 (fun H locs hP hD hS => ?_)
                have hP : va_P D vwCl [(t_kinds, kI k 6 (upd t_kindsF (Int32.toNatClampNeg (nI t_guests)) (r8 - 12))), (t_yards, kI k 6 (upd t_yardsF (Int32.toNatClampNeg (nI t_guests)) r14)), (t_paces, kI k 6 (upd t_pacesF (Int32.toNatClampNeg (nI t_guests)) r16)), (t_skills, kI k 6 (upd t_skillsF (Int32.toNatClampNeg (nI t_guests)) r18)), (t, kO 7 [.ref t_names, .ref t_kinds, .ref t_yards, .ref t_paces, .ref t_skills, .ref t_snow, .ref tw, .int (nI t_guests), .int (nI t_snows), .int t_bend, .int t_hour, .int (bB t_bendTold), .int (bB t_hourTold)]), (t_names, kJ k 6 (vp_updL t_namesF (Int32.toNatClampNeg (nI t_guests)) u_ta_72)), (ta, kO 6 [.ref ta_signs, .ref ta_words, .int (nI ta_length), .int (nI u_ta_318), .int u_ta_418, .int u_ta_518, .int u_ta_618, .long u_ta_718, .int u_ta_818]), (ta_signs, kB k 1000 ta_signsF), (ta_words, kJ k 23 ta_wordsF)] H := hP
                have hD : va_D A [(t_kinds, kI k 6 (upd t_kindsF (Int32.toNatClampNeg (nI t_guests)) (r8 - 12))), (t_yards, kI k 6 (upd t_yardsF (Int32.toNatClampNeg (nI t_guests)) r14)), (t_paces, kI k 6 (upd t_pacesF (Int32.toNatClampNeg (nI t_guests)) r16)), (t_skills, kI k 6 (upd t_skillsF (Int32.toNatClampNeg (nI t_guests)) r18)), (t, kO 7 [.ref t_names, .ref t_kinds, .ref t_yards, .ref t_paces, .ref t_skills, .ref t_snow, .ref tw, .int (nI t_guests), .int (nI t_snows), .int t_bend, .int t_hour, .int (bB t_bendTold), .int (bB t_hourTold)]), (t_names, kJ k 6 (vp_updL t_namesF (Int32.toNatClampNeg (nI t_guests)) u_ta_72)), (ta, kO 6 [.ref ta_signs, .ref ta_words, .int (nI ta_length), .int (nI u_ta_318), .int u_ta_418, .int u_ta_518, .int u_ta_618, .long u_ta_718, .int u_ta_818]), (ta_signs, kB k 1000 ta_signsF), (ta_words, kJ k 23 ta_wordsF)] := hD
                refine lv_aload_n hx hb dX7_readGuest_176 rfl (lv_at hl 2 rfl) ?_
                refine lv_dup hx hb dX7_readGuest_177 rfl ?_
                refine va_get (D := D) (ci := 7) (v := .int (nI t_guests)) (C := RX7) (T := TX7) (N := 13) hx hb hts hi7 hown hK hP 4 rfl rfl 7 (by decide) lf48 (fun _ h9 => h9) rfl dX7_readGuest_178 ?_
                refine lv_iconst (v := 1) hx hb dX7_readGuest_181 (by decide) ?_
                refine lv_iadd hx hb dX7_readGuest_182 ?_
                refine lv_topi (fun x19 ex19 => ?_)
                obtain rfl : x19 = (nI (t_guests + 1)) := ex19.trans (nI_add t_guests 1)
                refine va_put (D := D) (ci := 7) (v := .int (nI (t_guests + 1))) (ty := .int) (C := RX7) (T := TX7) (N := 13) hx hb hts hi7 tyX7 tyX7_ok nmX7 hown hK hP hD hS 4 rfl rfl 7 (by decide) lf48 (fun _ h9 => h9) rfl (by decide +kernel) rfl rfl (Nat.le_of_ble_eq_true rfl) dX7_readGuest_183 (fun H locs hP hD hS => ?_)
                have hP : va_P D vwCl [(t_kinds, kI k 6 (upd t_kindsF (Int32.toNatClampNeg (nI t_guests)) (r8 - 12))), (t_yards, kI k 6 (upd t_yardsF (Int32.toNatClampNeg (nI t_guests)) r14)), (t_paces, kI k 6 (upd t_pacesF (Int32.toNatClampNeg (nI t_guests)) r16)), (t_skills, kI k 6 (upd t_skillsF (Int32.toNatClampNeg (nI t_guests)) r18)), (t, kO 7 [.ref t_names, .ref t_kinds, .ref t_yards, .ref t_paces, .ref t_skills, .ref t_snow, .ref tw, .int (nI (t_guests + 1)), .int (nI t_snows), .int t_bend, .int t_hour, .int (bB t_bendTold), .int (bB t_hourTold)]), (t_names, kJ k 6 (vp_updL t_namesF (Int32.toNatClampNeg (nI t_guests)) u_ta_72)), (ta, kO 6 [.ref ta_signs, .ref ta_words, .int (nI ta_length), .int (nI u_ta_318), .int u_ta_418, .int u_ta_518, .int u_ta_618, .long u_ta_718, .int u_ta_818]), (ta_signs, kB k 1000 ta_signsF), (ta_words, kJ k 23 ta_wordsF)] H := hP
                have hD : va_D A [(t_kinds, kI k 6 (upd t_kindsF (Int32.toNatClampNeg (nI t_guests)) (r8 - 12))), (t_yards, kI k 6 (upd t_yardsF (Int32.toNatClampNeg (nI t_guests)) r14)), (t_paces, kI k 6 (upd t_pacesF (Int32.toNatClampNeg (nI t_guests)) r16)), (t_skills, kI k 6 (upd t_skillsF (Int32.toNatClampNeg (nI t_guests)) r18)), (t, kO 7 [.ref t_names, .ref t_kinds, .ref t_yards, .ref t_paces, .ref t_skills, .ref t_snow, .ref tw, .int (nI (t_guests + 1)), .int (nI t_snows), .int t_bend, .int t_hour, .int (bB t_bendTold), .int (bB t_hourTold)]), (t_names, kJ k 6 (vp_updL t_namesF (Int32.toNatClampNeg (nI t_guests)) u_ta_72)), (ta, kO 6 [.ref ta_signs, .ref ta_words, .int (nI ta_length), .int (nI u_ta_318), .int u_ta_418, .int u_ta_518, .int u_ta_618, .long u_ta_718, .int u_ta_818]), (ta_signs, kB k 1000 ta_signsF), (ta_words, kJ k 23 ta_wordsF)] := hD
                refine lv_aload_n hx hb dX7_readGuest_186 rfl (lv_at hl 2 rfl) ?_
                refine va_get (D := D) (ci := 7) (v := .ref t_skills) (C := RX7) (T := TX7) (N := 13) hx hb hts hi7 hown hK hP 4 rfl rfl 4 (by decide) lf25 (fun _ h9 => h9) rfl dX7_readGuest_187 ?_
                refine lv_iload_n hx hb dX7_readGuest_190 rfl (lv_at hl 1 rfl) ?_
                refine va_iald hx hb hK hP 3 0 rfl rfl (vp_in_nI (n := t_guests) (by omega) (by omega)) dX7_readGuest_191 ?_
                refine lv_iconst (v := (-1)) hx hb dX7_readGuest_192 (by decide) ?_
                have hj201_20 : ∀ (s0_201 : Bool) (H : Heap) (locs : List Loc) (ls : Array Slot), ((fX7_readGuest_J201a t_guests t_namesF t_kindsF t_yardsF t_pacesF t_skillsF u_ta_72 r8 r14 r16 u_ta_318 u_ta_418 u_ta_518 u_ta_618 u_ta_718 u_ta_818 r18) s0_201 = E0) → va_P D vwCl [(t_kinds, kI k 6 (upd t_kindsF (Int32.toNatClampNeg (nI t_guests)) (r8 - 12))), (t_yards, kI k 6 (upd t_yardsF (Int32.toNatClampNeg (nI t_guests)) r14)), (t_paces, kI k 6 (upd t_pacesF (Int32.toNatClampNeg (nI t_guests)) r16)), (t_skills, kI k 6 (upd t_skillsF (Int32.toNatClampNeg (nI t_guests)) r18)), (t, kO 7 [.ref t_names, .ref t_kinds, .ref t_yards, .ref t_paces, .ref t_skills, .ref t_snow, .ref tw, .int (nI (t_guests + 1)), .int (nI t_snows), .int t_bend, .int t_hour, .int (bB t_bendTold), .int (bB t_hourTold)]), (t_names, kJ k 6 (vp_updL t_namesF (Int32.toNatClampNeg (nI t_guests)) u_ta_72)), (ta, kO 6 [.ref ta_signs, .ref ta_words, .int (nI ta_length), .int (nI u_ta_318), .int u_ta_418, .int u_ta_518, .int u_ta_618, .long u_ta_718, .int u_ta_818]), (ta_signs, kB k 1000 ta_signsF), (ta_words, kJ k 23 ta_wordsF)] H → va_D A [(t_kinds, kI k 6 (upd t_kindsF (Int32.toNatClampNeg (nI t_guests)) (r8 - 12))), (t_yards, kI k 6 (upd t_yardsF (Int32.toNatClampNeg (nI t_guests)) r14)), (t_paces, kI k 6 (upd t_pacesF (Int32.toNatClampNeg (nI t_guests)) r16)), (t_skills, kI k 6 (upd t_skillsF (Int32.toNatClampNeg (nI t_guests)) r18)), (t, kO 7 [.ref t_names, .ref t_kinds, .ref t_yards, .ref t_paces, .ref t_skills, .ref t_snow, .ref tw, .int (nI (t_guests + 1)), .int (nI t_snows), .int t_bend, .int t_hour, .int (bB t_bendTold), .int (bB t_hourTold)]), (t_names, kJ k 6 (vp_updL t_namesF (Int32.toNatClampNeg (nI t_guests)) u_ta_72)), (ta, kO 6 [.ref ta_signs, .ref ta_words, .int (nI ta_length), .int (nI u_ta_318), .int u_ta_418, .int u_ta_518, .int u_ta_618, .long u_ta_718, .int u_ta_818]), (ta_signs, kB k 1000 ta_signsF), (ta_words, kJ k 23 ta_wordsF)] → va_S A s.heap H locs → lv_has ls 4 [(0, .ref t), (1, .ref ta), (2, .int (nI t_guests)), (3, .int r8)] → W p l e R s m args below meth c H locs 0 0 Q (F0 m 201 ls [.int (bB s0_201)]) := by
                  intro s0_201 H locs ls hZ hP hD hS hl
                  rw [hQ]
                  have hP9 := hP.sub (ws' := [(t, kO 7 [.ref t_names, .ref t_kinds, .ref t_yards, .ref t_paces, .ref t_skills, .ref t_snow, .ref tw, .int (nI (t_guests + 1)), .int (nI t_snows), .int t_bend, .int t_hour, .int (bB t_bendTold), .int (bB t_hourTold)]), (t_names, kJ k 6 (vp_updL t_namesF (Int32.toNatClampNeg (nI t_guests)) u_ta_72)), (t_kinds, kI k 6 (upd t_kindsF (Int32.toNatClampNeg (nI t_guests)) (r8 - 12))), (t_yards, kI k 6 (upd t_yardsF (Int32.toNatClampNeg (nI t_guests)) r14)), (t_paces, kI k 6 (upd t_pacesF (Int32.toNatClampNeg (nI t_guests)) r16)), (t_skills, kI k 6 (upd t_skillsF (Int32.toNatClampNeg (nI t_guests)) r18)), (ta, kO 6 [.ref ta_signs, .ref ta_words, .int (nI ta_length), .int (nI u_ta_318), .int u_ta_418, .int u_ta_518, .int u_ta_618, .long u_ta_718, .int u_ta_818]), (ta_signs, kB k 1000 ta_signsF), (ta_words, kJ k 23 ta_wordsF)]) [4, 5, 0, 1, 2, 3, 6, 7, 8] rfl
                  have hD9 := hD.sub (ws' := [(t, kO 7 [.ref t_names, .ref t_kinds, .ref t_yards, .ref t_paces, .ref t_skills, .ref t_snow, .ref tw, .int (nI (t_guests + 1)), .int (nI t_snows), .int t_bend, .int t_hour, .int (bB t_bendTold), .int (bB t_hourTold)]), (t_names, kJ k 6 (vp_updL t_namesF (Int32.toNatClampNeg (nI t_guests)) u_ta_72)), (t_kinds, kI k 6 (upd t_kindsF (Int32.toNatClampNeg (nI t_guests)) (r8 - 12))), (t_yards, kI k 6 (upd t_yardsF (Int32.toNatClampNeg (nI t_guests)) r14)), (t_paces, kI k 6 (upd t_pacesF (Int32.toNatClampNeg (nI t_guests)) r16)), (t_skills, kI k 6 (upd t_skillsF (Int32.toNatClampNeg (nI t_guests)) r18)), (ta, kO 6 [.ref ta_signs, .ref ta_words, .int (nI ta_length), .int (nI u_ta_318), .int u_ta_418, .int u_ta_518, .int u_ta_618, .long u_ta_718, .int u_ta_818]), (ta_signs, kB k 1000 ta_signsF), (ta_words, kJ k 23 ta_wordsF)]) [4, 5, 0, 1, 2, 3, 6, 7, 8] (by decide) rfl
                  exact W.zret (v := (bB s0_201)) hx hb hr (narrow_bB _) (fun zt ht hW => ⟨⟨(bB s0_201), ⟨(t_guests + 1), (vp_updL t_namesF (Int32.toNatClampNeg (nI t_guests)) u_ta_72), (upd t_kindsF (Int32.toNatClampNeg (nI t_guests)) (r8 - 12)), (upd t_yardsF (Int32.toNatClampNeg (nI t_guests)) r14), (upd t_pacesF (Int32.toNatClampNeg (nI t_guests)) r16), (upd t_skillsF (Int32.toNatClampNeg (nI t_guests)) r18), u_ta_318, u_ta_418, u_ta_518, u_ta_618, u_ta_718, u_ta_818, s0_201⟩, rfl, ⟨rfl, (by first | omega | (dsimp only; omega) | assumption), (by first | omega | (dsimp only; omega) | assumption), (hZ.trans hE0)⟩, by rw [ht]; exact hP9, hD9⟩, hS.F ht⟩) hS.2.2 dX7_readGuest_201
                refine lv_icmp_eq (tgt := 200) hx hb dX7_readGuest_193 (by decide) (fun c_21 => ?_) (fun c_21 => ?_)
                · skip
                  have hZ := (if_pos c_21).symm.trans hZ
                  refine lv_iconst (v := 0) hx hb dX7_readGuest_200 (by decide) ?_
                  exact hj201_20 false _ _ _ hZ (hP.sub [0, 1, 2, 3, 4, 5, 6, 7, 8] rfl) (hD.sub [0, 1, 2, 3, 4, 5, 6, 7, 8] (by decide) rfl) hS (lv_sub hl [2, 3, 1, 0] rfl)
                · skip
                  have hZ := (if_neg c_21).symm.trans hZ
                  refine lv_iconst (v := 1) hx hb dX7_readGuest_196 (by decide) ?_
                  refine lv_goto (tgt := 201) hx hb dX7_readGuest_197 (by decide) ?_
                  exact hj201_20 true _ _ _ hZ (hP.sub [0, 1, 2, 3, 4, 5, 6, 7, 8] rfl) (hD.sub [0, 1, 2, 3, 4, 5, 6, 7, 8] (by decide) rfl) hS (lv_sub hl [2, 3, 1, 0] rfl)
              · skip
                have hZ := (if_pos c_17).symm.trans hZ
                refine lv_iconst (v := 0) hx hb dX7_readGuest_160 (by decide) ?_
                rw [hQ]
                have hP9 := hP.sub (ws' := [(t, kO 7 [.ref t_names, .ref t_kinds, .ref t_yards, .ref t_paces, .ref t_skills, .ref t_snow, .ref tw, .int (nI t_guests), .int (nI t_snows), .int t_bend, .int t_hour, .int (bB t_bendTold), .int (bB t_hourTold)]), (t_names, kJ k 6 (vp_updL t_namesF (Int32.toNatClampNeg (nI t_guests)) u_ta_72)), (t_kinds, kI k 6 (upd t_kindsF (Int32.toNatClampNeg (nI t_guests)) (r8 - 12))), (t_yards, kI k 6 (upd t_yardsF (Int32.toNatClampNeg (nI t_guests)) r14)), (t_paces, kI k 6 (upd t_pacesF (Int32.toNatClampNeg (nI t_guests)) r16)), (t_skills, kI k 6 t_skillsF), (ta, kO 6 [.ref ta_signs, .ref ta_words, .int (nI ta_length), .int (nI u_ta_316), .int u_ta_416, .int u_ta_516, .int u_ta_616, .long u_ta_716, .int u_ta_816]), (ta_signs, kB k 1000 ta_signsF), (ta_words, kJ k 23 ta_wordsF)]) [4, 5, 0, 1, 2, 3, 6, 7, 8] rfl
                have hD9 := hD.sub (ws' := [(t, kO 7 [.ref t_names, .ref t_kinds, .ref t_yards, .ref t_paces, .ref t_skills, .ref t_snow, .ref tw, .int (nI t_guests), .int (nI t_snows), .int t_bend, .int t_hour, .int (bB t_bendTold), .int (bB t_hourTold)]), (t_names, kJ k 6 (vp_updL t_namesF (Int32.toNatClampNeg (nI t_guests)) u_ta_72)), (t_kinds, kI k 6 (upd t_kindsF (Int32.toNatClampNeg (nI t_guests)) (r8 - 12))), (t_yards, kI k 6 (upd t_yardsF (Int32.toNatClampNeg (nI t_guests)) r14)), (t_paces, kI k 6 (upd t_pacesF (Int32.toNatClampNeg (nI t_guests)) r16)), (t_skills, kI k 6 t_skillsF), (ta, kO 6 [.ref ta_signs, .ref ta_words, .int (nI ta_length), .int (nI u_ta_316), .int u_ta_416, .int u_ta_516, .int u_ta_616, .long u_ta_716, .int u_ta_816]), (ta_signs, kB k 1000 ta_signsF), (ta_words, kJ k 23 ta_wordsF)]) [4, 5, 0, 1, 2, 3, 6, 7, 8] (by decide) rfl
                exact W.zret (v := 0) hx hb hr rfl (fun zt ht hW => ⟨⟨0, ⟨t_guests, (vp_updL t_namesF (Int32.toNatClampNeg (nI t_guests)) u_ta_72), (upd t_kindsF (Int32.toNatClampNeg (nI t_guests)) (r8 - 12)), (upd t_yardsF (Int32.toNatClampNeg (nI t_guests)) r14), (upd t_pacesF (Int32.toNatClampNeg (nI t_guests)) r16), t_skillsF, u_ta_316, u_ta_416, u_ta_516, u_ta_616, u_ta_716, u_ta_816, false⟩, rfl, ⟨rfl, (by first | omega | (dsimp only; omega) | assumption), (by first | omega | (dsimp only; omega) | assumption), (hZ.trans hE0)⟩, by rw [ht]; exact hP9, hD9⟩, hS.F ht⟩) hS.2.2 dX7_readGuest_161
            · skip
              have hZ := (if_pos c_15).symm.trans hZ
              refine lv_iconst (v := 0) hx hb dX7_readGuest_134 (by decide) ?_
              rw [hQ]
              have hP9 := hP.sub (ws' := [(t, kO 7 [.ref t_names, .ref t_kinds, .ref t_yards, .ref t_paces, .ref t_skills, .ref t_snow, .ref tw, .int (nI t_guests), .int (nI t_snows), .int t_bend, .int t_hour, .int (bB t_bendTold), .int (bB t_hourTold)]), (t_names, kJ k 6 (vp_updL t_namesF (Int32.toNatClampNeg (nI t_guests)) u_ta_72)), (t_kinds, kI k 6 (upd t_kindsF (Int32.toNatClampNeg (nI t_guests)) (r8 - 12))), (t_yards, kI k 6 (upd t_yardsF (Int32.toNatClampNeg (nI t_guests)) r14)), (t_paces, kI k 6 t_pacesF), (t_skills, kI k 6 t_skillsF), (ta, kO 6 [.ref ta_signs, .ref ta_words, .int (nI ta_length), .int (nI u_ta_314), .int u_ta_414, .int u_ta_514, .int u_ta_614, .long u_ta_714, .int u_ta_814]), (ta_signs, kB k 1000 ta_signsF), (ta_words, kJ k 23 ta_wordsF)]) [4, 5, 0, 1, 2, 3, 6, 7, 8] rfl
              have hD9 := hD.sub (ws' := [(t, kO 7 [.ref t_names, .ref t_kinds, .ref t_yards, .ref t_paces, .ref t_skills, .ref t_snow, .ref tw, .int (nI t_guests), .int (nI t_snows), .int t_bend, .int t_hour, .int (bB t_bendTold), .int (bB t_hourTold)]), (t_names, kJ k 6 (vp_updL t_namesF (Int32.toNatClampNeg (nI t_guests)) u_ta_72)), (t_kinds, kI k 6 (upd t_kindsF (Int32.toNatClampNeg (nI t_guests)) (r8 - 12))), (t_yards, kI k 6 (upd t_yardsF (Int32.toNatClampNeg (nI t_guests)) r14)), (t_paces, kI k 6 t_pacesF), (t_skills, kI k 6 t_skillsF), (ta, kO 6 [.ref ta_signs, .ref ta_words, .int (nI ta_length), .int (nI u_ta_314), .int u_ta_414, .int u_ta_514, .int u_ta_614, .long u_ta_714, .int u_ta_814]), (ta_signs, kB k 1000 ta_signsF), (ta_words, kJ k 23 ta_wordsF)]) [4, 5, 0, 1, 2, 3, 6, 7, 8] (by decide) rfl
              exact W.zret (v := 0) hx hb hr rfl (fun zt ht hW => ⟨⟨0, ⟨t_guests, (vp_updL t_namesF (Int32.toNatClampNeg (nI t_guests)) u_ta_72), (upd t_kindsF (Int32.toNatClampNeg (nI t_guests)) (r8 - 12)), (upd t_yardsF (Int32.toNatClampNeg (nI t_guests)) r14), t_pacesF, t_skillsF, u_ta_314, u_ta_414, u_ta_514, u_ta_614, u_ta_714, u_ta_814, false⟩, rfl, ⟨rfl, (by first | omega | (dsimp only; omega) | assumption), (by first | omega | (dsimp only; omega) | assumption), (hZ.trans hE0)⟩, by rw [ht]; exact hP9, hD9⟩, hS.F ht⟩) hS.2.2 dX7_readGuest_135
          · skip
            have t_12 : (Int32.toInt r8) > 15 := tI_nle rfl (by decide) c_12
            have hZ := (if_neg c_12).symm.trans hZ
            exact hj89_9 _ _ _ hZ (hP.sub [0, 1, 2, 3, 4, 5, 6, 7, 8] rfl) (hD.sub [0, 1, 2, 3, 4, 5, 6, 7, 8] (by decide) rfl) hS (lv_sub hl [2, 3, 1, 0] rfl)
      · skip
        have t_6 : (Int32.toInt r5) ≠ (-1) := tI_ne rfl (by decide) c_6
        have hZ := (if_neg c_6).symm.trans hZ
        refine lv_aload_n hx hb dX7_readGuest_52 rfl (lv_at hl 2 rfl) ?_
        refine lv_iconst (v := 3) hx hb dX7_readGuest_53 (by decide) ?_
        refine kz_Vi (As := [.int 3]) (rest := []) (wc := [(ta, kO 6 [.ref ta_signs, .ref ta_words, .int (nI ta_length), .int (nI u_ta_32), .int u_ta_42, .int u_ta_52, .int u_ta_62, .long u_ta_72, .int ta_fault])]) (wr := [(t_kinds, kI k 6 t_kindsF), (t_yards, kI k 6 t_yardsF), (t_paces, kI k 6 t_pacesF), (t_skills, kI k 6 t_skillsF), (ta_signs, kB k 1000 ta_signsF), (ta_words, kJ k 23 ta_wordsF), (t, kO 7 [.ref t_names, .ref t_kinds, .ref t_yards, .ref t_paces, .ref t_skills, .ref t_snow, .ref tw, .int (nI t_guests), .int (nI t_snows), .int t_bend, .int t_hour, .int (bB t_bendTold), .int (bB t_hourTold)]), (t_names, kJ k 6 t_namesF)]) ⟨hx, hb, hml, hown, hts⟩ hK hE hP hD hS hA (sX6_wrong l D k H.size ta 3 ta_signs ta_words ta_length u_ta_32 u_ta_42 u_ta_52 u_ta_62 u_ta_72 ta_fault (by first | omega | assumption | decide) (by first | omega | assumption | decide)) (cwV 1 hts gX7_readGuest_X6_wrong rfl rfl rfl (by decide +kernel) (by rw [hR]; exact ⟨Nat.le_of_ble_eq_true rfl, Nat.le_of_ble_eq_true rfl⟩)) [6] [0, 1, 2, 3, 4, 5, 7, 8] rfl rfl (by decide) (by decide) (by decide) 0 rfl rfl rfl hl.1 rfl (Nat.le_of_ble_eq_true rfl) dX7_readGuest_54 (by rw [hR]; exact ⟨Nat.le_of_ble_eq_true rfl, Nat.le_of_ble_eq_true rfl⟩) (fun r22 u22 H locs hw22 hP hD hS => ?_)
        obtain ⟨u_ta_822, ub22⟩ := u22
        try dsimp only at hw22
        obtain ⟨rfl, hw22⟩ := hw22
        have hP : va_P D vwCl [(t_kinds, kI k 6 t_kindsF), (t_yards, kI k 6 t_yardsF), (t_paces, kI k 6 t_pacesF), (t_skills, kI k 6 t_skillsF), (ta_signs, kB k 1000 ta_signsF), (ta_words, kJ k 23 ta_wordsF), (t, kO 7 [.ref t_names, .ref t_kinds, .ref t_yards, .ref t_paces, .ref t_skills, .ref t_snow, .ref tw, .int (nI t_guests), .int (nI t_snows), .int t_bend, .int t_hour, .int (bB t_bendTold), .int (bB t_hourTold)]), (t_names, kJ k 6 t_namesF), (ta, kO 6 [.ref ta_signs, .ref ta_words, .int (nI ta_length), .int (nI u_ta_32), .int u_ta_42, .int u_ta_52, .int u_ta_62, .long u_ta_72, .int u_ta_822])] H := hP
        have hD : va_D A [(t_kinds, kI k 6 t_kindsF), (t_yards, kI k 6 t_yardsF), (t_paces, kI k 6 t_pacesF), (t_skills, kI k 6 t_skillsF), (ta_signs, kB k 1000 ta_signsF), (ta_words, kJ k 23 ta_wordsF), (t, kO 7 [.ref t_names, .ref t_kinds, .ref t_yards, .ref t_paces, .ref t_skills, .ref t_snow, .ref tw, .int (nI t_guests), .int (nI t_snows), .int t_bend, .int t_hour, .int (bB t_bendTold), .int (bB t_hourTold)]), (t_names, kJ k 6 t_namesF), (ta, kO 6 [.ref ta_signs, .ref ta_words, .int (nI ta_length), .int (nI u_ta_32), .int u_ta_42, .int u_ta_52, .int u_ta_62, .long u_ta_72, .int u_ta_822])] := hD
        have hw22_0 := hw22
        have hZ := bn2_e hw22_0 hZ
        rw [hQ]
        have hP9 := hP.sub (ws' := [(t, kO 7 [.ref t_names, .ref t_kinds, .ref t_yards, .ref t_paces, .ref t_skills, .ref t_snow, .ref tw, .int (nI t_guests), .int (nI t_snows), .int t_bend, .int t_hour, .int (bB t_bendTold), .int (bB t_hourTold)]), (t_names, kJ k 6 t_namesF), (t_kinds, kI k 6 t_kindsF), (t_yards, kI k 6 t_yardsF), (t_paces, kI k 6 t_pacesF), (t_skills, kI k 6 t_skillsF), (ta, kO 6 [.ref ta_signs, .ref ta_words, .int (nI ta_length), .int (nI u_ta_32), .int u_ta_42, .int u_ta_52, .int u_ta_62, .long u_ta_72, .int u_ta_822]), (ta_signs, kB k 1000 ta_signsF), (ta_words, kJ k 23 ta_wordsF)]) [6, 7, 0, 1, 2, 3, 8, 4, 5] rfl
        have hD9 := hD.sub (ws' := [(t, kO 7 [.ref t_names, .ref t_kinds, .ref t_yards, .ref t_paces, .ref t_skills, .ref t_snow, .ref tw, .int (nI t_guests), .int (nI t_snows), .int t_bend, .int t_hour, .int (bB t_bendTold), .int (bB t_hourTold)]), (t_names, kJ k 6 t_namesF), (t_kinds, kI k 6 t_kindsF), (t_yards, kI k 6 t_yardsF), (t_paces, kI k 6 t_pacesF), (t_skills, kI k 6 t_skillsF), (ta, kO 6 [.ref ta_signs, .ref ta_words, .int (nI ta_length), .int (nI u_ta_32), .int u_ta_42, .int u_ta_52, .int u_ta_62, .long u_ta_72, .int u_ta_822]), (ta_signs, kB k 1000 ta_signsF), (ta_words, kJ k 23 ta_wordsF)]) [6, 7, 0, 1, 2, 3, 8, 4, 5] (by decide) rfl
        exact W.zret (v := (bB ub22)) hx hb hr (narrow_bB _) (fun zt ht hW => ⟨⟨(bB ub22), ⟨t_guests, t_namesF, t_kindsF, t_yardsF, t_pacesF, t_skillsF, u_ta_32, u_ta_42, u_ta_52, u_ta_62, u_ta_72, u_ta_822, ub22⟩, rfl, ⟨rfl, (by first | omega | (dsimp only; omega) | assumption), (by first | omega | (dsimp only; omega) | assumption), (hZ.trans hE0)⟩, by rw [ht]; exact hP9, hD9⟩, hS.F ht⟩) hS.2.2 dX7_readGuest_57
    · skip
      have b_4 : u3 = false := bB_0 c_4
      have hZ := (if_neg (bF b_4)).symm.trans hZ
      refine lv_aload_n hx hb dX7_readGuest_34 rfl (lv_at hl 2 rfl) ?_
      refine lv_iconst (v := 1) hx hb dX7_readGuest_35 (by decide) ?_
      refine kz_Vi (As := [.int 1]) (rest := []) (wc := [(ta, kO 6 [.ref ta_signs, .ref ta_words, .int (nI ta_length), .int (nI u_ta_32), .int u_ta_42, .int u_ta_52, .int u_ta_62, .long u_ta_72, .int ta_fault])]) (wr := [(t, kO 7 [.ref t_names, .ref t_kinds, .ref t_yards, .ref t_paces, .ref t_skills, .ref t_snow, .ref tw, .int (nI t_guests), .int (nI t_snows), .int t_bend, .int t_hour, .int (bB t_bendTold), .int (bB t_hourTold)]), (t_names, kJ k 6 t_namesF), (t_kinds, kI k 6 t_kindsF), (t_yards, kI k 6 t_yardsF), (t_paces, kI k 6 t_pacesF), (t_skills, kI k 6 t_skillsF), (ta_signs, kB k 1000 ta_signsF), (ta_words, kJ k 23 ta_wordsF)]) ⟨hx, hb, hml, hown, hts⟩ hK hE hP hD hS hA (sX6_wrong l D k H.size ta 1 ta_signs ta_words ta_length u_ta_32 u_ta_42 u_ta_52 u_ta_62 u_ta_72 ta_fault (by first | omega | assumption | decide) (by first | omega | assumption | decide)) (cwV 1 hts gX7_readGuest_X6_wrong rfl rfl rfl (by decide +kernel) (by rw [hR]; exact ⟨Nat.le_of_ble_eq_true rfl, Nat.le_of_ble_eq_true rfl⟩)) [8] [0, 1, 2, 3, 4, 5, 6, 7] rfl rfl (by decide) (by decide) (by decide) 0 rfl rfl rfl hl.1 rfl (Nat.le_of_ble_eq_true rfl) dX7_readGuest_36 (by rw [hR]; exact ⟨Nat.le_of_ble_eq_true rfl, Nat.le_of_ble_eq_true rfl⟩) (fun r23 u23 H locs hw23 hP hD hS => ?_)
      obtain ⟨u_ta_823, ub23⟩ := u23
      try dsimp only at hw23
      obtain ⟨rfl, hw23⟩ := hw23
      have hP : va_P D vwCl [(t, kO 7 [.ref t_names, .ref t_kinds, .ref t_yards, .ref t_paces, .ref t_skills, .ref t_snow, .ref tw, .int (nI t_guests), .int (nI t_snows), .int t_bend, .int t_hour, .int (bB t_bendTold), .int (bB t_hourTold)]), (t_names, kJ k 6 t_namesF), (t_kinds, kI k 6 t_kindsF), (t_yards, kI k 6 t_yardsF), (t_paces, kI k 6 t_pacesF), (t_skills, kI k 6 t_skillsF), (ta_signs, kB k 1000 ta_signsF), (ta_words, kJ k 23 ta_wordsF), (ta, kO 6 [.ref ta_signs, .ref ta_words, .int (nI ta_length), .int (nI u_ta_32), .int u_ta_42, .int u_ta_52, .int u_ta_62, .long u_ta_72, .int u_ta_823])] H := hP
      have hD : va_D A [(t, kO 7 [.ref t_names, .ref t_kinds, .ref t_yards, .ref t_paces, .ref t_skills, .ref t_snow, .ref tw, .int (nI t_guests), .int (nI t_snows), .int t_bend, .int t_hour, .int (bB t_bendTold), .int (bB t_hourTold)]), (t_names, kJ k 6 t_namesF), (t_kinds, kI k 6 t_kindsF), (t_yards, kI k 6 t_yardsF), (t_paces, kI k 6 t_pacesF), (t_skills, kI k 6 t_skillsF), (ta_signs, kB k 1000 ta_signsF), (ta_words, kJ k 23 ta_wordsF), (ta, kO 6 [.ref ta_signs, .ref ta_words, .int (nI ta_length), .int (nI u_ta_32), .int u_ta_42, .int u_ta_52, .int u_ta_62, .long u_ta_72, .int u_ta_823])] := hD
      have hw23_0 := hw23
      have hZ := bn2_e hw23_0 hZ
      rw [hQ]
      have hP9 := hP.sub (ws' := [(t, kO 7 [.ref t_names, .ref t_kinds, .ref t_yards, .ref t_paces, .ref t_skills, .ref t_snow, .ref tw, .int (nI t_guests), .int (nI t_snows), .int t_bend, .int t_hour, .int (bB t_bendTold), .int (bB t_hourTold)]), (t_names, kJ k 6 t_namesF), (t_kinds, kI k 6 t_kindsF), (t_yards, kI k 6 t_yardsF), (t_paces, kI k 6 t_pacesF), (t_skills, kI k 6 t_skillsF), (ta, kO 6 [.ref ta_signs, .ref ta_words, .int (nI ta_length), .int (nI u_ta_32), .int u_ta_42, .int u_ta_52, .int u_ta_62, .long u_ta_72, .int u_ta_823]), (ta_signs, kB k 1000 ta_signsF), (ta_words, kJ k 23 ta_wordsF)]) [0, 1, 2, 3, 4, 5, 8, 6, 7] rfl
      have hD9 := hD.sub (ws' := [(t, kO 7 [.ref t_names, .ref t_kinds, .ref t_yards, .ref t_paces, .ref t_skills, .ref t_snow, .ref tw, .int (nI t_guests), .int (nI t_snows), .int t_bend, .int t_hour, .int (bB t_bendTold), .int (bB t_hourTold)]), (t_names, kJ k 6 t_namesF), (t_kinds, kI k 6 t_kindsF), (t_yards, kI k 6 t_yardsF), (t_paces, kI k 6 t_pacesF), (t_skills, kI k 6 t_skillsF), (ta, kO 6 [.ref ta_signs, .ref ta_words, .int (nI ta_length), .int (nI u_ta_32), .int u_ta_42, .int u_ta_52, .int u_ta_62, .long u_ta_72, .int u_ta_823]), (ta_signs, kB k 1000 ta_signsF), (ta_words, kJ k 23 ta_wordsF)]) [0, 1, 2, 3, 4, 5, 8, 6, 7] (by decide) rfl
      exact W.zret (v := (bB ub23)) hx hb hr (narrow_bB _) (fun zt ht hW => ⟨⟨(bB ub23), ⟨t_guests, t_namesF, t_kindsF, t_yardsF, t_pacesF, t_skillsF, u_ta_32, u_ta_42, u_ta_52, u_ta_62, u_ta_72, u_ta_823, ub23⟩, rfl, ⟨rfl, (by first | omega | (dsimp only; omega) | assumption), (by first | omega | (dsimp only; omega) | assumption), (hZ.trans hE0)⟩, by rw [ht]; exact hP9, hD9⟩, hS.F ht⟩) hS.2.2 dX7_readGuest_39
  · skip
    have k_1 : ¬ (t_guests < 6) := fun h => c_1 ((nI_ltI (a := t_guests) (b := 6) (by omega) (by omega)).mpr h)
    have hZ := (if_neg k_1).symm.trans hZ
    refine lv_aload_n hx hb dX7_readGuest_12 rfl (lv_at hl 1 rfl) ?_
    refine lv_iconst (v := 5) hx hb dX7_readGuest_13 (by decide) ?_
    refine kz_Vi (As := [.int 5]) (rest := []) (wc := [(ta, kO 6 [.ref ta_signs, .ref ta_words, .int (nI ta_length), .int (nI ta_next), .int ta_place, .int ta_kind, .int ta_value, .long ta_letters, .int ta_fault])]) (wr := [(t, kO 7 [.ref t_names, .ref t_kinds, .ref t_yards, .ref t_paces, .ref t_skills, .ref t_snow, .ref tw, .int (nI t_guests), .int (nI t_snows), .int t_bend, .int t_hour, .int (bB t_bendTold), .int (bB t_hourTold)]), (t_names, kJ k 6 t_namesF), (t_kinds, kI k 6 t_kindsF), (t_yards, kI k 6 t_yardsF), (t_paces, kI k 6 t_pacesF), (t_skills, kI k 6 t_skillsF), (ta_signs, kB k 1000 ta_signsF), (ta_words, kJ k 23 ta_wordsF)]) ⟨hx, hb, hml, hown, hts⟩ hK hE hP hD hS hA (sX6_wrong l D k H.size ta 5 ta_signs ta_words ta_length ta_next ta_place ta_kind ta_value ta_letters ta_fault (by first | omega | assumption | decide) (by first | omega | assumption | decide)) (cwV 1 hts gX7_readGuest_X6_wrong rfl rfl rfl (by decide +kernel) (by rw [hR]; exact ⟨Nat.le_of_ble_eq_true rfl, Nat.le_of_ble_eq_true rfl⟩)) [6] [0, 1, 2, 3, 4, 5, 7, 8] rfl rfl (by decide) (by decide) (by decide) 0 rfl rfl rfl hl.1 rfl (Nat.le_of_ble_eq_true rfl) dX7_readGuest_14 (by rw [hR]; exact ⟨Nat.le_of_ble_eq_true rfl, Nat.le_of_ble_eq_true rfl⟩) (fun r24 u24 H locs hw24 hP hD hS => ?_)
    obtain ⟨u_ta_824, ub24⟩ := u24
    try dsimp only at hw24
    obtain ⟨rfl, hw24⟩ := hw24
    have hP : va_P D vwCl [(t, kO 7 [.ref t_names, .ref t_kinds, .ref t_yards, .ref t_paces, .ref t_skills, .ref t_snow, .ref tw, .int (nI t_guests), .int (nI t_snows), .int t_bend, .int t_hour, .int (bB t_bendTold), .int (bB t_hourTold)]), (t_names, kJ k 6 t_namesF), (t_kinds, kI k 6 t_kindsF), (t_yards, kI k 6 t_yardsF), (t_paces, kI k 6 t_pacesF), (t_skills, kI k 6 t_skillsF), (ta_signs, kB k 1000 ta_signsF), (ta_words, kJ k 23 ta_wordsF), (ta, kO 6 [.ref ta_signs, .ref ta_words, .int (nI ta_length), .int (nI ta_next), .int ta_place, .int ta_kind, .int ta_value, .long ta_letters, .int u_ta_824])] H := hP
    have hD : va_D A [(t, kO 7 [.ref t_names, .ref t_kinds, .ref t_yards, .ref t_paces, .ref t_skills, .ref t_snow, .ref tw, .int (nI t_guests), .int (nI t_snows), .int t_bend, .int t_hour, .int (bB t_bendTold), .int (bB t_hourTold)]), (t_names, kJ k 6 t_namesF), (t_kinds, kI k 6 t_kindsF), (t_yards, kI k 6 t_yardsF), (t_paces, kI k 6 t_pacesF), (t_skills, kI k 6 t_skillsF), (ta_signs, kB k 1000 ta_signsF), (ta_words, kJ k 23 ta_wordsF), (ta, kO 6 [.ref ta_signs, .ref ta_words, .int (nI ta_length), .int (nI ta_next), .int ta_place, .int ta_kind, .int ta_value, .long ta_letters, .int u_ta_824])] := hD
    have hw24_0 := hw24
    have hZ := bn2_e hw24_0 hZ
    rw [hQ]
    have hP9 := hP.sub (ws' := [(t, kO 7 [.ref t_names, .ref t_kinds, .ref t_yards, .ref t_paces, .ref t_skills, .ref t_snow, .ref tw, .int (nI t_guests), .int (nI t_snows), .int t_bend, .int t_hour, .int (bB t_bendTold), .int (bB t_hourTold)]), (t_names, kJ k 6 t_namesF), (t_kinds, kI k 6 t_kindsF), (t_yards, kI k 6 t_yardsF), (t_paces, kI k 6 t_pacesF), (t_skills, kI k 6 t_skillsF), (ta, kO 6 [.ref ta_signs, .ref ta_words, .int (nI ta_length), .int (nI ta_next), .int ta_place, .int ta_kind, .int ta_value, .long ta_letters, .int u_ta_824]), (ta_signs, kB k 1000 ta_signsF), (ta_words, kJ k 23 ta_wordsF)]) [0, 1, 2, 3, 4, 5, 8, 6, 7] rfl
    have hD9 := hD.sub (ws' := [(t, kO 7 [.ref t_names, .ref t_kinds, .ref t_yards, .ref t_paces, .ref t_skills, .ref t_snow, .ref tw, .int (nI t_guests), .int (nI t_snows), .int t_bend, .int t_hour, .int (bB t_bendTold), .int (bB t_hourTold)]), (t_names, kJ k 6 t_namesF), (t_kinds, kI k 6 t_kindsF), (t_yards, kI k 6 t_yardsF), (t_paces, kI k 6 t_pacesF), (t_skills, kI k 6 t_skillsF), (ta, kO 6 [.ref ta_signs, .ref ta_words, .int (nI ta_length), .int (nI ta_next), .int ta_place, .int ta_kind, .int ta_value, .long ta_letters, .int u_ta_824]), (ta_signs, kB k 1000 ta_signsF), (ta_words, kJ k 23 ta_wordsF)]) [0, 1, 2, 3, 4, 5, 8, 6, 7] (by decide) rfl
    exact W.zret (v := (bB ub24)) hx hb hr (narrow_bB _) (fun zt ht hW => ⟨⟨(bB ub24), ⟨t_guests, t_namesF, t_kindsF, t_yardsF, t_pacesF, t_skillsF, ta_next, ta_place, ta_kind, ta_value, ta_letters, u_ta_824, ub24⟩, rfl, ⟨rfl, (by first | omega | (dsimp only; omega) | assumption), (by first | omega | (dsimp only; omega) | assumption), (hZ.trans hE0)⟩, by rw [ht]; exact hP9, hD9⟩, hS.F ht⟩) hS.2.2 dX7_readGuest_17
