theorem dX0_takeTastes_0 : decode cX0_takeTastes 0 = .ok (.aload_n 0, 1) := by decide +kernel
theorem dX0_takeTastes_1 : decode cX0_takeTastes 1 = .ok (.getfield 21, 3) := by decide +kernel
theorem dX0_takeTastes_4 : decode cX0_takeTastes 4 = .ok (.ifCond .le 9, 3) := by decide +kernel
theorem dX0_takeTastes_7 : decode cX0_takeTastes 7 = .ok (.aload_n 1, 1) := by decide +kernel
theorem dX0_takeTastes_8 : decode cX0_takeTastes 8 = .ok (.iconst 3, 1) := by decide +kernel
theorem dX0_takeTastes_9 : decode cX0_takeTastes 9 = .ok (.invokevirtual 25, 3) := by decide +kernel
theorem dX0_takeTastes_12 : decode cX0_takeTastes 12 = .ok (.ireturn, 1) := by decide +kernel
theorem dX0_takeTastes_13 : decode cX0_takeTastes 13 = .ok (.aload_n 1, 1) := by decide +kernel
theorem dX0_takeTastes_14 : decode cX0_takeTastes 14 = .ok (.invokevirtual 29, 3) := by decide +kernel
theorem dX0_takeTastes_17 : decode cX0_takeTastes 17 = .ok (.iconst 1, 1) := by decide +kernel
theorem dX0_takeTastes_18 : decode cX0_takeTastes 18 = .ok (.ireturn, 1) := by decide +kernel
set_option maxRecDepth 20000 in
theorem ggX0_takeTastes_X6_advance : GoodIn wsX0_takeTastes wsX6_advance := goodIn_r _ [12, 13, 14, 15, 7, 16, 17, 18, 19, 5, 20, 21, 22, 23, 24, 25, 26, 27, 28, 29, 30, 31, 32, 33, 34, 35, 36, 37, 38, 39, 40, 41, 42, 43, 44, 45, 46, 47, 48, 49, 50, 51, 52, 53, 54, 55, 56, 57, 58, 59, 60, 61, 62, 63, 64, 65, 66, 67, 68, 69, 70, 71, 72, 73, 74, 75, 76, 77, 78, 79, 80, 81, 82, 83, 84, 85, 86, 87, 88, 89, 90, 91, 92, 93, 94, 95, 96, 97, 98, 99, 100, 101, 102, 103, 104, 105, 106, 107, 108, 109, 110, 111, 112, 113, 114, 115, 116, 117, 118, 119, 120, 121, 122, 123, 124, 125, 126, 132, 133, 134, 135, 136, 137, 138, 139, 140] rfl (by decide +kernel)
set_option maxRecDepth 20000 in
theorem gX0_takeTastes_X6_advance : GoodIn wsX0_takeTastes (wsV RX0 29 RX6 yX6_advance wsX6_advance) := goodIn_app (goodIn_of _ (by decide +kernel)) ggX0_takeTastes_X6_advance
set_option maxRecDepth 20000 in
theorem ggX0_takeTastes_X6_wrong : GoodIn wsX0_takeTastes wsX6_wrong := goodIn_r _ [6, 7, 8, 132, 133, 134, 135, 136, 137, 138, 139, 140] rfl (by decide +kernel)
set_option maxRecDepth 20000 in
theorem gX0_takeTastes_X6_wrong : GoodIn wsX0_takeTastes (wsV RX0 25 RX6 yX6_wrong wsX6_wrong) := goodIn_app (goodIn_of _ (by decide +kernel)) ggX0_takeTastes_X6_wrong
set_option maxHeartbeats 4000000 in
set_option maxRecDepth 100000 in
theorem sX0_takeTastes (l : Launch) (D : va_G) (k : Nat → ClassId) (a0 sa sv : Nat) (f : Nat → Int32) (sz : Nat) (w : Nat) (ta : Nat) (w_code : Nat) (w_stack : Nat) (w_facts : Nat) (w_length : Nat) (w_top : Nat) (ta_signs : Nat) (ta_words : Nat) (ta_length : Nat) (ta_next : Nat) (ta_place : Int32) (ta_kind : Int32) (ta_value : Int32) (ta_letters : Int64) (ta_fault : Int32) (ta_signsF : Nat → Int32) (ta_wordsF : Nat → Int64) (h_w_length : w_length ≤ 1000) (h_w_top : w_top ≤ 24) (h_ta_length : ta_length ≤ 1000) (h_ta_next : ta_next ≤ 1000) : Met l yX0_takeTastes wsX0_takeTastes ({ frames := 5, cells := 0, slots := 0, locals := 350 }) (va_Pc [.ref w, .ref ta] (kz_PreY D k [(w, kO 0 [.ref w_code, .ref w_stack, .ref w_facts, .int (nI w_length), .int (nI w_top)]), (ta, kO 6 [.ref ta_signs, .ref ta_words, .int (nI ta_length), .int (nI ta_next), .int ta_place, .int ta_kind, .int ta_value, .long ta_letters, .int ta_fault]), (ta_signs, kB k 1000 ta_signsF), (ta_words, kJ k 23 ta_wordsF)] a0 sa sv f sz)) (va_Qi (fun (rr : Int32) (uu : Nat × Int32 × Int32 × Int32 × Int64 × Int32 × Bool) => rr = bB uu.2.2.2.2.2.2 ∧ (uu.1 ≤ 1000) ∧ ((uu.1, uu.2.1, uu.2.2.1, uu.2.2.2.1, uu.2.2.2.2.1, uu.2.2.2.2.2.1, uu.2.2.2.2.2.2) = (fX0_takeTastes w_length ta_length ta_next ta_place ta_kind ta_value ta_letters ta_fault ta_signsF ta_wordsF f))) (fun uu zt => kz_B D (va_A [(w, kO 0 [.ref w_code, .ref w_stack, .ref w_facts, .int (nI w_length), .int (nI w_top)]), (ta, kO 6 [.ref ta_signs, .ref ta_words, .int (nI ta_length), .int (nI ta_next), .int ta_place, .int ta_kind, .int ta_value, .long ta_letters, .int ta_fault]), (ta_signs, kB k 1000 ta_signsF), (ta_words, kJ k 23 ta_wordsF)] sz) [(w, kO 0 [.ref w_code, .ref w_stack, .ref w_facts, .int (nI w_length), .int (nI w_top)]), (ta, kO 6 [.ref ta_signs, .ref ta_words, .int (nI ta_length), .int (nI uu.1), .int uu.2.1, .int uu.2.2.1, .int uu.2.2.2.1, .long uu.2.2.2.2.1, .int uu.2.2.2.2.2.1]), (ta_signs, kB k 1000 ta_signsF), (ta_words, kJ k 23 ta_wordsF)] zt) (va_A [(w, kO 0 [.ref w_code, .ref w_stack, .ref w_facts, .int (nI w_length), .int (nI w_top)]), (ta, kO 6 [.ref ta_signs, .ref ta_words, .int (nI ta_length), .int (nI ta_next), .int ta_place, .int ta_kind, .int ta_value, .long ta_letters, .int ta_fault]), (ta_signs, kB k 1000 ta_signsF), (ta_words, kJ k 23 ta_wordsF)] sz)) 0 0 (va_A [(w, kO 0 [.ref w_code, .ref w_stack, .ref w_facts, .int (nI w_length), .int (nI w_top)]), (ta, kO 6 [.ref ta_signs, .ref ta_words, .int (nI ta_length), .int (nI ta_next), .int ta_place, .int ta_kind, .int ta_value, .long ta_letters, .int ta_fault]), (ta_signs, kB k 1000 ta_signsF), (ta_words, kJ k 23 ta_wordsF)] sz) := by
  refine Met.ofW (cc := cX0_takeTastes) (maxL := 2) (ret := (some .boolean)) (by decide) rfl ?_
  intro p e s m args below meth c s₁ B hml hv
  obtain ⟨hav, ⟨hsz, hP, hK, hD0, hE⟩, ha0, hDa, hX⟩ := hv
  have hx := B.exec
  have hb := B.bytes
  have hr := B.returns
  have hts := atoms_spec (ws := wsX0_takeTastes) B.pre
  have hown : s.vm.findClass RX0 = some m.cls := findClass_of_methodNamed B.named
  have hlocks := B.notSynchronized
  have hi0 : ∀ w ∈ u_ws RX0 TX0 5, w ∈ wsX0_takeTastes := by decide +kernel
  have lf21 := hts (.fieldLink RX0 21 "LastCook$Law" "length" "I") (by decide +kernel)
  subst hsz
  have hD := hD0.self (sz := s.heap.size)
  generalize hAe : va_A [(w, kO 0 [.ref w_code, .ref w_stack, .ref w_facts, .int (nI w_length), .int (nI w_top)]), (ta, kO 6 [.ref ta_signs, .ref ta_words, .int (nI ta_length), .int (nI ta_next), .int ta_place, .int ta_kind, .int ta_value, .long ta_letters, .int ta_fault]), (ta_signs, kB k 1000 ta_signsF), (ta_words, kJ k 23 ta_wordsF)] s.heap.size = A at hD ⊢
  have hA : ∀ q : Nat, s.heap.size ≤ q → A q := fun q h => by rw [← hAe]; exact Or.inr h
  have hAX : ∀ q, A q → a0 ≤ q := fun q h => by rw [← hAe] at h; exact h.elim (fun ⟨k9, e9, h9⟩ => hDa.2 k9 _ h9) (fun e => Nat.le_trans ha0 e)
  obtain ⟨tx71, hR71⟩ := hX.1
  have hS : va_S A s.heap s.heap [] := va_S.rf
  have hl := lv_entry ([.ref w, .ref ta]) (n := 2) (Nat.le_of_ble_eq_true rfl)
  rw [show entryFrame m args 2 = entryFrame m ([.ref w, .ref ta] : List Value).toArray 2 by rw [hav], lg_entry_eq]
  generalize (lg_sl ([.ref w, .ref ta]) ++ List.replicate (2 - (lg_sl ([.ref w, .ref ta])).length) Slot.unset).toArray = ls at hl ⊢
  have hl : lv_has ls 2 [(0, .ref w), (1, .ref ta)] := hl
  obtain ⟨R, hR⟩ : ∃ R, R = (headSpec wsX0_takeTastes ({ frames := 5, cells := 0, slots := 0, locals := 350 } : Room)).room := ⟨_, rfl⟩
  rw [← hR]
  generalize hQ : MQ below _ args s 0 0 A = Q
  replace hQ := hQ.symm
  obtain ⟨H, hH⟩ : ∃ H, H = s.heap := ⟨_, rfl⟩
  rw [← hH] at hP ⊢
  have hS : va_S A s.heap H [] := by rw [hH]; exact hS
  obtain ⟨E0, hE0⟩ : ∃ E0 : Nat × Int32 × Int32 × Int32 × Int64 × Int32 × Bool, E0 = (fX0_takeTastes w_length ta_length ta_next ta_place ta_kind ta_value ta_letters ta_fault ta_signsF ta_wordsF f) := ⟨_, rfl⟩
  have hZ : (fX0_takeTastes w_length ta_length ta_next ta_place ta_kind ta_value ta_letters ta_fault ta_signsF ta_wordsF f) = E0 := hE0.symm
  refine lv_aload_n hx hb dX0_takeTastes_0 rfl (lv_at hl 0 rfl) ?_
  refine va_get (D := D) (ci := 0) (v := .int (nI w_length)) (C := RX0) (T := TX0) (N := 5) hx hb hts hi0 hown hK hP 0 rfl rfl 3 (by decide) lf21 (fun _ h9 => h9) rfl dX0_takeTastes_1 ?_
  refine lv_if_le (tgt := 13) hx hb dX0_takeTastes_4 (by decide) (fun c_1 => ?_) (fun c_1 => ?_)
  · skip
    have k_1 : w_length ≤ 0 := (nI_leI (a := w_length) (b := 0) (by omega) (by omega)).mp c_1
    have hZ := (if_pos k_1).symm.trans hZ
    refine lv_aload_n hx hb dX0_takeTastes_13 rfl (lv_at hl 1 rfl) ?_
    refine kz_VvY (As := []) (rest := []) (wc := [(ta, kO 6 [.ref ta_signs, .ref ta_words, .int (nI ta_length), .int (nI ta_next), .int ta_place, .int ta_kind, .int ta_value, .long ta_letters, .int ta_fault]), (ta_signs, kB k 1000 ta_signsF), (ta_words, kJ k 23 ta_wordsF)]) (wr := [(w, kO 0 [.ref w_code, .ref w_stack, .ref w_facts, .int (nI w_length), .int (nI w_top)])]) ⟨hx, hb, hml, hown, hts⟩ hX hAX ha0 hK hE hP hD hS hA (sX6_advance l D k a0 sa sv f H.size ta ta_signs ta_words ta_length ta_next ta_place ta_kind ta_value ta_letters ta_fault ta_signsF ta_wordsF (by first | omega | assumption | decide) (by first | omega | assumption | decide)) (cwV 0 hts gX0_takeTastes_X6_advance rfl rfl rfl (by decide +kernel) (by rw [hR]; exact ⟨Nat.le_of_ble_eq_true rfl, Nat.le_of_ble_eq_true rfl⟩)) [1, 2, 3] [0] rfl rfl (by decide) (by decide) (by decide) 0 rfl rfl rfl hl.1 rfl (Nat.le_of_ble_eq_true rfl) dX0_takeTastes_14 (by rw [hR]; exact ⟨Nat.le_of_ble_eq_true rfl, Nat.le_of_ble_eq_true rfl⟩) (fun u2 H locs hw2 hP hD hS => ?_)
    obtain ⟨u_ta_32, u_ta_42, u_ta_52, u_ta_62, u_ta_72⟩ := u2
    try dsimp only at hw2
    have hP : va_P D vwCl [(w, kO 0 [.ref w_code, .ref w_stack, .ref w_facts, .int (nI w_length), .int (nI w_top)]), (ta, kO 6 [.ref ta_signs, .ref ta_words, .int (nI ta_length), .int (nI u_ta_32), .int u_ta_42, .int u_ta_52, .int u_ta_62, .long u_ta_72, .int ta_fault]), (ta_signs, kB k 1000 ta_signsF), (ta_words, kJ k 23 ta_wordsF)] H := hP
    have hD : va_D A [(w, kO 0 [.ref w_code, .ref w_stack, .ref w_facts, .int (nI w_length), .int (nI w_top)]), (ta, kO 6 [.ref ta_signs, .ref ta_words, .int (nI ta_length), .int (nI u_ta_32), .int u_ta_42, .int u_ta_52, .int u_ta_62, .long u_ta_72, .int ta_fault]), (ta_signs, kB k 1000 ta_signsF), (ta_words, kJ k 23 ta_wordsF)] := hD
    obtain ⟨hw2_0, hw2_1⟩ := hw2
    have hZ := bn5_e hw2_1 hZ
    refine lv_iconst (v := 1) hx hb dX0_takeTastes_17 (by decide) ?_
    rw [hQ]
    have hP9 := hP.sub (ws' := [(w, kO 0 [.ref w_code, .ref w_stack, .ref w_facts, .int (nI w_length), .int (nI w_top)]), (ta, kO 6 [.ref ta_signs, .ref ta_words, .int (nI ta_length), .int (nI u_ta_32), .int u_ta_42, .int u_ta_52, .int u_ta_62, .long u_ta_72, .int ta_fault]), (ta_signs, kB k 1000 ta_signsF), (ta_words, kJ k 23 ta_wordsF)]) [0, 1, 2, 3] rfl
    have hD9 := hD.sub (ws' := [(w, kO 0 [.ref w_code, .ref w_stack, .ref w_facts, .int (nI w_length), .int (nI w_top)]), (ta, kO 6 [.ref ta_signs, .ref ta_words, .int (nI ta_length), .int (nI u_ta_32), .int u_ta_42, .int u_ta_52, .int u_ta_62, .long u_ta_72, .int ta_fault]), (ta_signs, kB k 1000 ta_signsF), (ta_words, kJ k 23 ta_wordsF)]) [0, 1, 2, 3] (by decide) rfl
    exact W.zret (v := 1) hx hb hr rfl (fun zt ht hW => ⟨⟨1, ⟨u_ta_32, u_ta_42, u_ta_52, u_ta_62, u_ta_72, ta_fault, true⟩, rfl, ⟨rfl, (by first | omega | (dsimp only; omega) | assumption), (hZ.trans hE0)⟩, by rw [ht]; exact hP9, hD9⟩, hS.F ht⟩) hS.2.2 dX0_takeTastes_18
  · skip
    have k_1 : ¬ (w_length ≤ 0) := fun h => c_1 ((nI_leI (a := w_length) (b := 0) (by omega) (by omega)).mpr h)
    have hZ := (if_neg k_1).symm.trans hZ
    refine lv_aload_n hx hb dX0_takeTastes_7 rfl (lv_at hl 1 rfl) ?_
    refine lv_iconst (v := 3) hx hb dX0_takeTastes_8 (by decide) ?_
    refine kz_Vi (As := [.int 3]) (rest := []) (wc := [(ta, kO 6 [.ref ta_signs, .ref ta_words, .int (nI ta_length), .int (nI ta_next), .int ta_place, .int ta_kind, .int ta_value, .long ta_letters, .int ta_fault])]) (wr := [(w, kO 0 [.ref w_code, .ref w_stack, .ref w_facts, .int (nI w_length), .int (nI w_top)]), (ta_signs, kB k 1000 ta_signsF), (ta_words, kJ k 23 ta_wordsF)]) ⟨hx, hb, hml, hown, hts⟩ hK hE hP hD hS hA (sX6_wrong l D k H.size ta 3 ta_signs ta_words ta_length ta_next ta_place ta_kind ta_value ta_letters ta_fault (by first | omega | assumption | decide) (by first | omega | assumption | decide)) (cwV 1 hts gX0_takeTastes_X6_wrong rfl rfl rfl (by decide +kernel) (by rw [hR]; exact ⟨Nat.le_of_ble_eq_true rfl, Nat.le_of_ble_eq_true rfl⟩)) [1] [0, 2, 3] rfl rfl (by decide) (by decide) (by decide) 0 rfl rfl rfl hl.1 rfl (Nat.le_of_ble_eq_true rfl) dX0_takeTastes_9 (by rw [hR]; exact ⟨Nat.le_of_ble_eq_true rfl, Nat.le_of_ble_eq_true rfl⟩) (fun r3 u3 H locs hw3 hP hD hS => ?_)
    obtain ⟨u_ta_83, ub3⟩ := u3
    try dsimp only at hw3
    obtain ⟨rfl, hw3⟩ := hw3
    have hP : va_P D vwCl [(w, kO 0 [.ref w_code, .ref w_stack, .ref w_facts, .int (nI w_length), .int (nI w_top)]), (ta_signs, kB k 1000 ta_signsF), (ta_words, kJ k 23 ta_wordsF), (ta, kO 6 [.ref ta_signs, .ref ta_words, .int (nI ta_length), .int (nI ta_next), .int ta_place, .int ta_kind, .int ta_value, .long ta_letters, .int u_ta_83])] H := hP
    have hD : va_D A [(w, kO 0 [.ref w_code, .ref w_stack, .ref w_facts, .int (nI w_length), .int (nI w_top)]), (ta_signs, kB k 1000 ta_signsF), (ta_words, kJ k 23 ta_wordsF), (ta, kO 6 [.ref ta_signs, .ref ta_words, .int (nI ta_length), .int (nI ta_next), .int ta_place, .int ta_kind, .int ta_value, .long ta_letters, .int u_ta_83])] := hD
    have hw3_0 := hw3
    have hZ := bn2_e hw3_0 hZ
    rw [hQ]
    have hP9 := hP.sub (ws' := [(w, kO 0 [.ref w_code, .ref w_stack, .ref w_facts, .int (nI w_length), .int (nI w_top)]), (ta, kO 6 [.ref ta_signs, .ref ta_words, .int (nI ta_length), .int (nI ta_next), .int ta_place, .int ta_kind, .int ta_value, .long ta_letters, .int u_ta_83]), (ta_signs, kB k 1000 ta_signsF), (ta_words, kJ k 23 ta_wordsF)]) [0, 3, 1, 2] rfl
    have hD9 := hD.sub (ws' := [(w, kO 0 [.ref w_code, .ref w_stack, .ref w_facts, .int (nI w_length), .int (nI w_top)]), (ta, kO 6 [.ref ta_signs, .ref ta_words, .int (nI ta_length), .int (nI ta_next), .int ta_place, .int ta_kind, .int ta_value, .long ta_letters, .int u_ta_83]), (ta_signs, kB k 1000 ta_signsF), (ta_words, kJ k 23 ta_wordsF)]) [0, 3, 1, 2] (by decide) rfl
    exact W.zret (v := (bB ub3)) hx hb hr (narrow_bB _) (fun zt ht hW => ⟨⟨(bB ub3), ⟨ta_next, ta_place, ta_kind, ta_value, ta_letters, u_ta_83, ub3⟩, rfl, ⟨rfl, (by first | omega | (dsimp only; omega) | assumption), (hZ.trans hE0)⟩, by rw [ht]; exact hP9, hD9⟩, hS.F ht⟩) hS.2.2 dX0_takeTastes_12
theorem dX0_operatorAt_0 : decode cX0_operatorAt 0 = .ok (.aload_n 0, 1) := by decide +kernel
theorem dX0_operatorAt_1 : decode cX0_operatorAt 1 = .ok (.bipush 17, 2) := by decide +kernel
theorem dX0_operatorAt_3 : decode cX0_operatorAt 3 = .ok (.invokevirtual 60, 3) := by decide +kernel
theorem dX0_operatorAt_6 : decode cX0_operatorAt 6 = .ok (.ifCond .eq 6, 3) := by decide +kernel
theorem dX0_operatorAt_9 : decode cX0_operatorAt 9 = .ok (.bipush (-6), 2) := by decide +kernel
theorem dX0_operatorAt_11 : decode cX0_operatorAt 11 = .ok (.ireturn, 1) := by decide +kernel
theorem dX0_operatorAt_12 : decode cX0_operatorAt 12 = .ok (.aload_n 0, 1) := by decide +kernel
theorem dX0_operatorAt_13 : decode cX0_operatorAt 13 = .ok (.bipush 18, 2) := by decide +kernel
theorem dX0_operatorAt_15 : decode cX0_operatorAt 15 = .ok (.invokevirtual 60, 3) := by decide +kernel
theorem dX0_operatorAt_18 : decode cX0_operatorAt 18 = .ok (.ifCond .eq 6, 3) := by decide +kernel
theorem dX0_operatorAt_21 : decode cX0_operatorAt 21 = .ok (.bipush (-7), 2) := by decide +kernel
theorem dX0_operatorAt_23 : decode cX0_operatorAt 23 = .ok (.ireturn, 1) := by decide +kernel
theorem dX0_operatorAt_24 : decode cX0_operatorAt 24 = .ok (.aload_n 0, 1) := by decide +kernel
theorem dX0_operatorAt_25 : decode cX0_operatorAt 25 = .ok (.bipush 60, 2) := by decide +kernel
theorem dX0_operatorAt_27 : decode cX0_operatorAt 27 = .ok (.invokevirtual 63, 3) := by decide +kernel
theorem dX0_operatorAt_30 : decode cX0_operatorAt 30 = .ok (.ifCond .eq 6, 3) := by decide +kernel
theorem dX0_operatorAt_33 : decode cX0_operatorAt 33 = .ok (.bipush (-8), 2) := by decide +kernel
theorem dX0_operatorAt_35 : decode cX0_operatorAt 35 = .ok (.ireturn, 1) := by decide +kernel
theorem dX0_operatorAt_36 : decode cX0_operatorAt 36 = .ok (.aload_n 0, 1) := by decide +kernel
theorem dX0_operatorAt_37 : decode cX0_operatorAt 37 = .ok (.bipush 61, 2) := by decide +kernel
theorem dX0_operatorAt_39 : decode cX0_operatorAt 39 = .ok (.invokevirtual 63, 3) := by decide +kernel
theorem dX0_operatorAt_42 : decode cX0_operatorAt 42 = .ok (.ifCond .eq 6, 3) := by decide +kernel
theorem dX0_operatorAt_45 : decode cX0_operatorAt 45 = .ok (.bipush (-9), 2) := by decide +kernel
theorem dX0_operatorAt_47 : decode cX0_operatorAt 47 = .ok (.ireturn, 1) := by decide +kernel
theorem dX0_operatorAt_48 : decode cX0_operatorAt 48 = .ok (.aload_n 0, 1) := by decide +kernel
theorem dX0_operatorAt_49 : decode cX0_operatorAt 49 = .ok (.bipush 43, 2) := by decide +kernel
theorem dX0_operatorAt_51 : decode cX0_operatorAt 51 = .ok (.invokevirtual 63, 3) := by decide +kernel
theorem dX0_operatorAt_54 : decode cX0_operatorAt 54 = .ok (.ifCond .eq 6, 3) := by decide +kernel
theorem dX0_operatorAt_57 : decode cX0_operatorAt 57 = .ok (.bipush (-10), 2) := by decide +kernel
theorem dX0_operatorAt_59 : decode cX0_operatorAt 59 = .ok (.ireturn, 1) := by decide +kernel
theorem dX0_operatorAt_60 : decode cX0_operatorAt 60 = .ok (.aload_n 0, 1) := by decide +kernel
theorem dX0_operatorAt_61 : decode cX0_operatorAt 61 = .ok (.bipush 45, 2) := by decide +kernel
theorem dX0_operatorAt_63 : decode cX0_operatorAt 63 = .ok (.invokevirtual 63, 3) := by decide +kernel
theorem dX0_operatorAt_66 : decode cX0_operatorAt 66 = .ok (.ifCond .eq 6, 3) := by decide +kernel
theorem dX0_operatorAt_69 : decode cX0_operatorAt 69 = .ok (.bipush (-11), 2) := by decide +kernel
theorem dX0_operatorAt_71 : decode cX0_operatorAt 71 = .ok (.ireturn, 1) := by decide +kernel
theorem dX0_operatorAt_72 : decode cX0_operatorAt 72 = .ok (.aload_n 0, 1) := by decide +kernel
theorem dX0_operatorAt_73 : decode cX0_operatorAt 73 = .ok (.bipush 42, 2) := by decide +kernel
theorem dX0_operatorAt_75 : decode cX0_operatorAt 75 = .ok (.invokevirtual 63, 3) := by decide +kernel
theorem dX0_operatorAt_78 : decode cX0_operatorAt 78 = .ok (.ifCond .eq 8, 3) := by decide +kernel
theorem dX0_operatorAt_81 : decode cX0_operatorAt 81 = .ok (.bipush (-12), 2) := by decide +kernel
theorem dX0_operatorAt_83 : decode cX0_operatorAt 83 = .ok (.goto 4, 3) := by decide +kernel
theorem dX0_operatorAt_86 : decode cX0_operatorAt 86 = .ok (.iconst 0, 1) := by decide +kernel
theorem dX0_operatorAt_87 : decode cX0_operatorAt 87 = .ok (.ireturn, 1) := by decide +kernel
set_option maxRecDepth 20000 in
theorem ggX0_operatorAt_X6_isWord : GoodIn wsX0_operatorAt wsX6_isWord := goodIn_r _ [5, 6, 7, 12, 13, 14, 15, 16, 17, 18, 19, 20] rfl (by decide +kernel)
set_option maxRecDepth 20000 in
theorem gX0_operatorAt_X6_isWord : GoodIn wsX0_operatorAt (wsV RX0 60 RX6 yX6_isWord wsX6_isWord) := goodIn_app (goodIn_of _ (by decide +kernel)) ggX0_operatorAt_X6_isWord
set_option maxRecDepth 20000 in
theorem ggX0_operatorAt_X6_isSign : GoodIn wsX0_operatorAt wsX6_isSign := goodIn_r _ [11, 6, 7, 12, 13, 14, 15, 16, 17, 18, 19, 20] rfl (by decide +kernel)
set_option maxRecDepth 20000 in
theorem gX0_operatorAt_X6_isSign : GoodIn wsX0_operatorAt (wsV RX0 63 RX6 yX6_isSign wsX6_isSign) := goodIn_app (goodIn_of _ (by decide +kernel)) ggX0_operatorAt_X6_isSign
set_option maxHeartbeats 4000000 in
set_option maxRecDepth 100000 in
theorem sX0_operatorAt (l : Launch) (D : va_G) (k : Nat → ClassId) (sz : Nat) (ta : Nat) (ta_signs : Nat) (ta_words : Nat) (ta_length : Nat) (ta_next : Nat) (ta_place : Int32) (ta_kind : Int32) (ta_value : Int32) (ta_letters : Int64) (ta_fault : Int32) (h_ta_length : ta_length ≤ 1000) (h_ta_next : ta_next ≤ 1000) : Met l yX0_operatorAt wsX0_operatorAt ({ frames := 1, cells := 0, slots := 0, locals := 70 }) (va_Pc [.ref ta] (kz_Pre D k [(ta, kO 6 [.ref ta_signs, .ref ta_words, .int (nI ta_length), .int (nI ta_next), .int ta_place, .int ta_kind, .int ta_value, .long ta_letters, .int ta_fault])] sz)) (va_Qi (fun (rr : Int32) (uu : Unit) => ((rr) = (fX0_operatorAt ta_kind ta_value))) (fun uu zt => kz_B D (va_A [(ta, kO 6 [.ref ta_signs, .ref ta_words, .int (nI ta_length), .int (nI ta_next), .int ta_place, .int ta_kind, .int ta_value, .long ta_letters, .int ta_fault])] sz) [(ta, kO 6 [.ref ta_signs, .ref ta_words, .int (nI ta_length), .int (nI ta_next), .int ta_place, .int ta_kind, .int ta_value, .long ta_letters, .int ta_fault])] zt) (va_A [(ta, kO 6 [.ref ta_signs, .ref ta_words, .int (nI ta_length), .int (nI ta_next), .int ta_place, .int ta_kind, .int ta_value, .long ta_letters, .int ta_fault])] sz)) 0 0 (va_A [(ta, kO 6 [.ref ta_signs, .ref ta_words, .int (nI ta_length), .int (nI ta_next), .int ta_place, .int ta_kind, .int ta_value, .long ta_letters, .int ta_fault])] sz) := by
  refine Met.ofW (cc := cX0_operatorAt) (maxL := 1) (ret := (some .int)) (by decide) rfl ?_
  intro p e s m args below meth c s₁ B hml hv
  obtain ⟨hav, hsz, hP, hK, hD0, hE⟩ := hv
  have hx := B.exec
  have hb := B.bytes
  have hr := B.returns
  have hts := atoms_spec (ws := wsX0_operatorAt) B.pre
  have hown : s.vm.findClass RX0 = some m.cls := findClass_of_methodNamed B.named
  have hlocks := B.notSynchronized
  subst hsz
  have hD := hD0.self (sz := s.heap.size)
  generalize hAe : va_A [(ta, kO 6 [.ref ta_signs, .ref ta_words, .int (nI ta_length), .int (nI ta_next), .int ta_place, .int ta_kind, .int ta_value, .long ta_letters, .int ta_fault])] s.heap.size = A at hD ⊢
  have hA : ∀ q : Nat, s.heap.size ≤ q → A q := fun q h => by rw [← hAe]; exact Or.inr h
  have hS : va_S A s.heap s.heap [] := va_S.rf
  have hl := lv_entry ([.ref ta]) (n := 1) (Nat.le_of_ble_eq_true rfl)
  rw [show entryFrame m args 1 = entryFrame m ([.ref ta] : List Value).toArray 1 by rw [hav], lg_entry_eq]
  generalize (lg_sl ([.ref ta]) ++ List.replicate (1 - (lg_sl ([.ref ta])).length) Slot.unset).toArray = ls at hl ⊢
  have hl : lv_has ls 1 [(0, .ref ta)] := hl
  obtain ⟨R, hR⟩ : ∃ R, R = (headSpec wsX0_operatorAt ({ frames := 1, cells := 0, slots := 0, locals := 70 } : Room)).room := ⟨_, rfl⟩
  rw [← hR]
  generalize hQ : MQ below _ args s 0 0 A = Q
  replace hQ := hQ.symm
  obtain ⟨H, hH⟩ : ∃ H, H = s.heap := ⟨_, rfl⟩
  rw [← hH] at hP ⊢
  have hS : va_S A s.heap H [] := by rw [hH]; exact hS
  obtain ⟨E0, hE0⟩ : ∃ E0 : Int32, E0 = (fX0_operatorAt ta_kind ta_value) := ⟨_, rfl⟩
  have hZ : (fX0_operatorAt ta_kind ta_value) = E0 := hE0.symm
  refine lv_aload_n hx hb dX0_operatorAt_0 rfl (lv_at hl 0 rfl) ?_
  refine lv_bipush (v := 17) hx hb dX0_operatorAt_1 (by decide) ?_
  refine kz_Vi (As := [.int 17]) (rest := []) (wc := [(ta, kO 6 [.ref ta_signs, .ref ta_words, .int (nI ta_length), .int (nI ta_next), .int ta_place, .int ta_kind, .int ta_value, .long ta_letters, .int ta_fault])]) (wr := []) ⟨hx, hb, hml, hown, hts⟩ hK hE hP hD hS hA (sX6_isWord l D k H.size ta 17 ta_signs ta_words ta_length ta_next ta_place ta_kind ta_value ta_letters ta_fault (by first | omega | assumption | decide) (by first | omega | assumption | decide)) (cwV 1 hts gX0_operatorAt_X6_isWord rfl rfl rfl (by decide +kernel) (by rw [hR]; exact ⟨Nat.le_of_ble_eq_true rfl, Nat.le_of_ble_eq_true rfl⟩)) [0] [] rfl rfl (by decide) (by decide) (by decide) 0 rfl rfl rfl hl.1 rfl (Nat.le_of_ble_eq_true rfl) dX0_operatorAt_3 (by rw [hR]; exact ⟨Nat.le_of_ble_eq_true rfl, Nat.le_of_ble_eq_true rfl⟩) (fun r1 u1 H locs hw1 hP hD hS => ?_)
  try dsimp only at hw1
  obtain ⟨rfl, hw1⟩ := hw1
  have hP : va_P D vwCl [(ta, kO 6 [.ref ta_signs, .ref ta_words, .int (nI ta_length), .int (nI ta_next), .int ta_place, .int ta_kind, .int ta_value, .long ta_letters, .int ta_fault])] H := hP
  have hD : va_D A [(ta, kO 6 [.ref ta_signs, .ref ta_words, .int (nI ta_length), .int (nI ta_next), .int ta_place, .int ta_kind, .int ta_value, .long ta_letters, .int ta_fault])] := hD
  have hw1_0 := hw1
  have hZ := bn1_e hw1_0 hZ
  refine lv_if_eq (tgt := 12) hx hb dX0_operatorAt_6 (by decide) (fun c_2 => ?_) (fun c_2 => ?_)
  · skip
    have b_2 : u1 = false := bB_0 c_2
    have hZ := (if_neg (bF b_2)).symm.trans hZ
    refine lv_aload_n hx hb dX0_operatorAt_12 rfl (lv_at hl 0 rfl) ?_
    refine lv_bipush (v := 18) hx hb dX0_operatorAt_13 (by decide) ?_
    refine kz_Vi (As := [.int 18]) (rest := []) (wc := [(ta, kO 6 [.ref ta_signs, .ref ta_words, .int (nI ta_length), .int (nI ta_next), .int ta_place, .int ta_kind, .int ta_value, .long ta_letters, .int ta_fault])]) (wr := []) ⟨hx, hb, hml, hown, hts⟩ hK hE hP hD hS hA (sX6_isWord l D k H.size ta 18 ta_signs ta_words ta_length ta_next ta_place ta_kind ta_value ta_letters ta_fault (by first | omega | assumption | decide) (by first | omega | assumption | decide)) (cwV 1 hts gX0_operatorAt_X6_isWord rfl rfl rfl (by decide +kernel) (by rw [hR]; exact ⟨Nat.le_of_ble_eq_true rfl, Nat.le_of_ble_eq_true rfl⟩)) [0] [] rfl rfl (by decide) (by decide) (by decide) 0 rfl rfl rfl hl.1 rfl (Nat.le_of_ble_eq_true rfl) dX0_operatorAt_15 (by rw [hR]; exact ⟨Nat.le_of_ble_eq_true rfl, Nat.le_of_ble_eq_true rfl⟩) (fun r3 u3 H locs hw3 hP hD hS => ?_)
    try dsimp only at hw3
    obtain ⟨rfl, hw3⟩ := hw3
    have hP : va_P D vwCl [(ta, kO 6 [.ref ta_signs, .ref ta_words, .int (nI ta_length), .int (nI ta_next), .int ta_place, .int ta_kind, .int ta_value, .long ta_letters, .int ta_fault])] H := hP
    have hD : va_D A [(ta, kO 6 [.ref ta_signs, .ref ta_words, .int (nI ta_length), .int (nI ta_next), .int ta_place, .int ta_kind, .int ta_value, .long ta_letters, .int ta_fault])] := hD
    have hw3_0 := hw3
    have hZ := bn1_e hw3_0 hZ
    refine lv_if_eq (tgt := 24) hx hb dX0_operatorAt_18 (by decide) (fun c_4 => ?_) (fun c_4 => ?_)
    · skip
      have b_4 : u3 = false := bB_0 c_4
      have hZ := (if_neg (bF b_4)).symm.trans hZ
      refine lv_aload_n hx hb dX0_operatorAt_24 rfl (lv_at hl 0 rfl) ?_
      refine lv_bipush (v := 60) hx hb dX0_operatorAt_25 (by decide) ?_
      refine kz_Vi (As := [.int 60]) (rest := []) (wc := [(ta, kO 6 [.ref ta_signs, .ref ta_words, .int (nI ta_length), .int (nI ta_next), .int ta_place, .int ta_kind, .int ta_value, .long ta_letters, .int ta_fault])]) (wr := []) ⟨hx, hb, hml, hown, hts⟩ hK hE hP hD hS hA (sX6_isSign l D k H.size ta 60 ta_signs ta_words ta_length ta_next ta_place ta_kind ta_value ta_letters ta_fault (by first | omega | assumption | decide) (by first | omega | assumption | decide)) (cwV 1 hts gX0_operatorAt_X6_isSign rfl rfl rfl (by decide +kernel) (by rw [hR]; exact ⟨Nat.le_of_ble_eq_true rfl, Nat.le_of_ble_eq_true rfl⟩)) [0] [] rfl rfl (by decide) (by decide) (by decide) 0 rfl rfl rfl hl.1 rfl (Nat.le_of_ble_eq_true rfl) dX0_operatorAt_27 (by rw [hR]; exact ⟨Nat.le_of_ble_eq_true rfl, Nat.le_of_ble_eq_true rfl⟩) (fun r5 u5 H locs hw5 hP hD hS => ?_)
      try dsimp only at hw5
      obtain ⟨rfl, hw5⟩ := hw5
      have hP : va_P D vwCl [(ta, kO 6 [.ref ta_signs, .ref ta_words, .int (nI ta_length), .int (nI ta_next), .int ta_place, .int ta_kind, .int ta_value, .long ta_letters, .int ta_fault])] H := hP
      have hD : va_D A [(ta, kO 6 [.ref ta_signs, .ref ta_words, .int (nI ta_length), .int (nI ta_next), .int ta_place, .int ta_kind, .int ta_value, .long ta_letters, .int ta_fault])] := hD
      have hw5_0 := hw5
      have hZ := bn1_e hw5_0 hZ
      refine lv_if_eq (tgt := 36) hx hb dX0_operatorAt_30 (by decide) (fun c_6 => ?_) (fun c_6 => ?_)
      · skip
        have b_6 : u5 = false := bB_0 c_6
        have hZ := (if_neg (bF b_6)).symm.trans hZ
        refine lv_aload_n hx hb dX0_operatorAt_36 rfl (lv_at hl 0 rfl) ?_
        refine lv_bipush (v := 61) hx hb dX0_operatorAt_37 (by decide) ?_
        refine kz_Vi (As := [.int 61]) (rest := []) (wc := [(ta, kO 6 [.ref ta_signs, .ref ta_words, .int (nI ta_length), .int (nI ta_next), .int ta_place, .int ta_kind, .int ta_value, .long ta_letters, .int ta_fault])]) (wr := []) ⟨hx, hb, hml, hown, hts⟩ hK hE hP hD hS hA (sX6_isSign l D k H.size ta 61 ta_signs ta_words ta_length ta_next ta_place ta_kind ta_value ta_letters ta_fault (by first | omega | assumption | decide) (by first | omega | assumption | decide)) (cwV 1 hts gX0_operatorAt_X6_isSign rfl rfl rfl (by decide +kernel) (by rw [hR]; exact ⟨Nat.le_of_ble_eq_true rfl, Nat.le_of_ble_eq_true rfl⟩)) [0] [] rfl rfl (by decide) (by decide) (by decide) 0 rfl rfl rfl hl.1 rfl (Nat.le_of_ble_eq_true rfl) dX0_operatorAt_39 (by rw [hR]; exact ⟨Nat.le_of_ble_eq_true rfl, Nat.le_of_ble_eq_true rfl⟩) (fun r7 u7 H locs hw7 hP hD hS => ?_)
        try dsimp only at hw7
        obtain ⟨rfl, hw7⟩ := hw7
        have hP : va_P D vwCl [(ta, kO 6 [.ref ta_signs, .ref ta_words, .int (nI ta_length), .int (nI ta_next), .int ta_place, .int ta_kind, .int ta_value, .long ta_letters, .int ta_fault])] H := hP
        have hD : va_D A [(ta, kO 6 [.ref ta_signs, .ref ta_words, .int (nI ta_length), .int (nI ta_next), .int ta_place, .int ta_kind, .int ta_value, .long ta_letters, .int ta_fault])] := hD
        have hw7_0 := hw7
        have hZ := bn1_e hw7_0 hZ
        refine lv_if_eq (tgt := 48) hx hb dX0_operatorAt_42 (by decide) (fun c_8 => ?_) (fun c_8 => ?_)
        · skip
          have b_8 : u7 = false := bB_0 c_8
          have hZ := (if_neg (bF b_8)).symm.trans hZ
          refine lv_aload_n hx hb dX0_operatorAt_48 rfl (lv_at hl 0 rfl) ?_
          refine lv_bipush (v := 43) hx hb dX0_operatorAt_49 (by decide) ?_
          refine kz_Vi (As := [.int 43]) (rest := []) (wc := [(ta, kO 6 [.ref ta_signs, .ref ta_words, .int (nI ta_length), .int (nI ta_next), .int ta_place, .int ta_kind, .int ta_value, .long ta_letters, .int ta_fault])]) (wr := []) ⟨hx, hb, hml, hown, hts⟩ hK hE hP hD hS hA (sX6_isSign l D k H.size ta 43 ta_signs ta_words ta_length ta_next ta_place ta_kind ta_value ta_letters ta_fault (by first | omega | assumption | decide) (by first | omega | assumption | decide)) (cwV 1 hts gX0_operatorAt_X6_isSign rfl rfl rfl (by decide +kernel) (by rw [hR]; exact ⟨Nat.le_of_ble_eq_true rfl, Nat.le_of_ble_eq_true rfl⟩)) [0] [] rfl rfl (by decide) (by decide) (by decide) 0 rfl rfl rfl hl.1 rfl (Nat.le_of_ble_eq_true rfl) dX0_operatorAt_51 (by rw [hR]; exact ⟨Nat.le_of_ble_eq_true rfl, Nat.le_of_ble_eq_true rfl⟩) (fun r9 u9 H locs hw9 hP hD hS => ?_)
          try dsimp only at hw9
          obtain ⟨rfl, hw9⟩ := hw9
          have hP : va_P D vwCl [(ta, kO 6 [.ref ta_signs, .ref ta_words, .int (nI ta_length), .int (nI ta_next), .int ta_place, .int ta_kind, .int ta_value, .long ta_letters, .int ta_fault])] H := hP
          have hD : va_D A [(ta, kO 6 [.ref ta_signs, .ref ta_words, .int (nI ta_length), .int (nI ta_next), .int ta_place, .int ta_kind, .int ta_value, .long ta_letters, .int ta_fault])] := hD
          have hw9_0 := hw9
          have hZ := bn1_e hw9_0 hZ
          refine lv_if_eq (tgt := 60) hx hb dX0_operatorAt_54 (by decide) (fun c_10 => ?_) (fun c_10 => ?_)
          · skip
            have b_10 : u9 = false := bB_0 c_10
            have hZ := (if_neg (bF b_10)).symm.trans hZ
            refine lv_aload_n hx hb dX0_operatorAt_60 rfl (lv_at hl 0 rfl) ?_
            refine lv_bipush (v := 45) hx hb dX0_operatorAt_61 (by decide) ?_
            refine kz_Vi (As := [.int 45]) (rest := []) (wc := [(ta, kO 6 [.ref ta_signs, .ref ta_words, .int (nI ta_length), .int (nI ta_next), .int ta_place, .int ta_kind, .int ta_value, .long ta_letters, .int ta_fault])]) (wr := []) ⟨hx, hb, hml, hown, hts⟩ hK hE hP hD hS hA (sX6_isSign l D k H.size ta 45 ta_signs ta_words ta_length ta_next ta_place ta_kind ta_value ta_letters ta_fault (by first | omega | assumption | decide) (by first | omega | assumption | decide)) (cwV 1 hts gX0_operatorAt_X6_isSign rfl rfl rfl (by decide +kernel) (by rw [hR]; exact ⟨Nat.le_of_ble_eq_true rfl, Nat.le_of_ble_eq_true rfl⟩)) [0] [] rfl rfl (by decide) (by decide) (by decide) 0 rfl rfl rfl hl.1 rfl (Nat.le_of_ble_eq_true rfl) dX0_operatorAt_63 (by rw [hR]; exact ⟨Nat.le_of_ble_eq_true rfl, Nat.le_of_ble_eq_true rfl⟩) (fun r11 u11 H locs hw11 hP hD hS => ?_)
            try dsimp only at hw11
            obtain ⟨rfl, hw11⟩ := hw11
            have hP : va_P D vwCl [(ta, kO 6 [.ref ta_signs, .ref ta_words, .int (nI ta_length), .int (nI ta_next), .int ta_place, .int ta_kind, .int ta_value, .long ta_letters, .int ta_fault])] H := hP
            have hD : va_D A [(ta, kO 6 [.ref ta_signs, .ref ta_words, .int (nI ta_length), .int (nI ta_next), .int ta_place, .int ta_kind, .int ta_value, .long ta_letters, .int ta_fault])] := hD
            have hw11_0 := hw11
            have hZ := bn1_e hw11_0 hZ
            refine lv_if_eq (tgt := 72) hx hb dX0_operatorAt_66 (by decide) (fun c_12 => ?_) (fun c_12 => ?_)
            · skip
              have b_12 : u11 = false := bB_0 c_12
              have hZ := (if_neg (bF b_12)).symm.trans hZ
              refine lv_aload_n hx hb dX0_operatorAt_72 rfl (lv_at hl 0 rfl) ?_
              refine lv_bipush (v := 42) hx hb dX0_operatorAt_73 (by decide) ?_
              refine kz_Vi (As := [.int 42]) (rest := []) (wc := [(ta, kO 6 [.ref ta_signs, .ref ta_words, .int (nI ta_length), .int (nI ta_next), .int ta_place, .int ta_kind, .int ta_value, .long ta_letters, .int ta_fault])]) (wr := []) ⟨hx, hb, hml, hown, hts⟩ hK hE hP hD hS hA (sX6_isSign l D k H.size ta 42 ta_signs ta_words ta_length ta_next ta_place ta_kind ta_value ta_letters ta_fault (by first | omega | assumption | decide) (by first | omega | assumption | decide)) (cwV 1 hts gX0_operatorAt_X6_isSign rfl rfl rfl (by decide +kernel) (by rw [hR]; exact ⟨Nat.le_of_ble_eq_true rfl, Nat.le_of_ble_eq_true rfl⟩)) [0] [] rfl rfl (by decide) (by decide) (by decide) 0 rfl rfl rfl hl.1 rfl (Nat.le_of_ble_eq_true rfl) dX0_operatorAt_75 (by rw [hR]; exact ⟨Nat.le_of_ble_eq_true rfl, Nat.le_of_ble_eq_true rfl⟩) (fun r13 u13 H locs hw13 hP hD hS => ?_)
              try dsimp only at hw13
              obtain ⟨rfl, hw13⟩ := hw13
              have hP : va_P D vwCl [(ta, kO 6 [.ref ta_signs, .ref ta_words, .int (nI ta_length), .int (nI ta_next), .int ta_place, .int ta_kind, .int ta_value, .long ta_letters, .int ta_fault])] H := hP
              have hD : va_D A [(ta, kO 6 [.ref ta_signs, .ref ta_words, .int (nI ta_length), .int (nI ta_next), .int ta_place, .int ta_kind, .int ta_value, .long ta_letters, .int ta_fault])] := hD
              have hw13_0 := hw13
              have hZ := bn1_e hw13_0 hZ
              have hj87_14 : ∀ (s0_87 : Int32) (H : Heap) (locs : List Loc) (ls : Array Slot), (fX0_operatorAt_J87a s0_87 = E0) → va_P D vwCl [(ta, kO 6 [.ref ta_signs, .ref ta_words, .int (nI ta_length), .int (nI ta_next), .int ta_place, .int ta_kind, .int ta_value, .long ta_letters, .int ta_fault])] H → va_D A [(ta, kO 6 [.ref ta_signs, .ref ta_words, .int (nI ta_length), .int (nI ta_next), .int ta_place, .int ta_kind, .int ta_value, .long ta_letters, .int ta_fault])] → va_S A s.heap H locs → lv_has ls 1 [(0, .ref ta)] → W p l e R s m args below meth c H locs 0 0 Q (F0 m 87 ls [.int s0_87]) := by
                intro s0_87 H locs ls hZ hP hD hS hl
                rw [hQ]
                have hP9 := hP.sub (ws' := [(ta, kO 6 [.ref ta_signs, .ref ta_words, .int (nI ta_length), .int (nI ta_next), .int ta_place, .int ta_kind, .int ta_value, .long ta_letters, .int ta_fault])]) [0] rfl
                have hD9 := hD.sub (ws' := [(ta, kO 6 [.ref ta_signs, .ref ta_words, .int (nI ta_length), .int (nI ta_next), .int ta_place, .int ta_kind, .int ta_value, .long ta_letters, .int ta_fault])]) [0] (by decide) rfl
                exact W.iret (v := s0_87) hx hb hr (fun zt ht hW => ⟨⟨s0_87, (), rfl, (hZ.trans hE0), by rw [ht]; exact hP9, hD9⟩, hS.F ht⟩) hS.2.2 dX0_operatorAt_87
              refine lv_if_eq (tgt := 86) hx hb dX0_operatorAt_78 (by decide) (fun c_15 => ?_) (fun c_15 => ?_)
              · skip
                have b_15 : u13 = false := bB_0 c_15
                have hZ := (if_neg (bF b_15)).symm.trans hZ
                refine lv_iconst (v := 0) hx hb dX0_operatorAt_86 (by decide) ?_
                exact hj87_14 (0 : Int32) _ _ _ hZ (hP.sub [0] rfl) (hD.sub [0] (by decide) rfl) hS (lv_sub hl [0] rfl)
              · skip
                have b_15 : u13 = true := bB_1 c_15
                have hZ := (if_pos b_15).symm.trans hZ
                refine lv_bipush (v := (-12)) hx hb dX0_operatorAt_81 (by decide) ?_
                refine lv_goto (tgt := 87) hx hb dX0_operatorAt_83 (by decide) ?_
                exact hj87_14 ((-12) : Int32) _ _ _ hZ (hP.sub [0] rfl) (hD.sub [0] (by decide) rfl) hS (lv_sub hl [0] rfl)
            · skip
              have b_12 : u11 = true := bB_1 c_12
              have hZ := (if_pos b_12).symm.trans hZ
              refine lv_bipush (v := (-11)) hx hb dX0_operatorAt_69 (by decide) ?_
              rw [hQ]
              have hP9 := hP.sub (ws' := [(ta, kO 6 [.ref ta_signs, .ref ta_words, .int (nI ta_length), .int (nI ta_next), .int ta_place, .int ta_kind, .int ta_value, .long ta_letters, .int ta_fault])]) [0] rfl
              have hD9 := hD.sub (ws' := [(ta, kO 6 [.ref ta_signs, .ref ta_words, .int (nI ta_length), .int (nI ta_next), .int ta_place, .int ta_kind, .int ta_value, .long ta_letters, .int ta_fault])]) [0] (by decide) rfl
              exact W.iret (v := (-11)) hx hb hr (fun zt ht hW => ⟨⟨(-11), (), rfl, (hZ.trans hE0), by rw [ht]; exact hP9, hD9⟩, hS.F ht⟩) hS.2.2 dX0_operatorAt_71
          · skip
            have b_10 : u9 = true := bB_1 c_10
            have hZ := (if_pos b_10).symm.trans hZ
            refine lv_bipush (v := (-10)) hx hb dX0_operatorAt_57 (by decide) ?_
            rw [hQ]
            have hP9 := hP.sub (ws' := [(ta, kO 6 [.ref ta_signs, .ref ta_words, .int (nI ta_length), .int (nI ta_next), .int ta_place, .int ta_kind, .int ta_value, .long ta_letters, .int ta_fault])]) [0] rfl
            have hD9 := hD.sub (ws' := [(ta, kO 6 [.ref ta_signs, .ref ta_words, .int (nI ta_length), .int (nI ta_next), .int ta_place, .int ta_kind, .int ta_value, .long ta_letters, .int ta_fault])]) [0] (by decide) rfl
            exact W.iret (v := (-10)) hx hb hr (fun zt ht hW => ⟨⟨(-10), (), rfl, (hZ.trans hE0), by rw [ht]; exact hP9, hD9⟩, hS.F ht⟩) hS.2.2 dX0_operatorAt_59
        · skip
          have b_8 : u7 = true := bB_1 c_8
          have hZ := (if_pos b_8).symm.trans hZ
          refine lv_bipush (v := (-9)) hx hb dX0_operatorAt_45 (by decide) ?_
          rw [hQ]
          have hP9 := hP.sub (ws' := [(ta, kO 6 [.ref ta_signs, .ref ta_words, .int (nI ta_length), .int (nI ta_next), .int ta_place, .int ta_kind, .int ta_value, .long ta_letters, .int ta_fault])]) [0] rfl
          have hD9 := hD.sub (ws' := [(ta, kO 6 [.ref ta_signs, .ref ta_words, .int (nI ta_length), .int (nI ta_next), .int ta_place, .int ta_kind, .int ta_value, .long ta_letters, .int ta_fault])]) [0] (by decide) rfl
          exact W.iret (v := (-9)) hx hb hr (fun zt ht hW => ⟨⟨(-9), (), rfl, (hZ.trans hE0), by rw [ht]; exact hP9, hD9⟩, hS.F ht⟩) hS.2.2 dX0_operatorAt_47
      · skip
        have b_6 : u5 = true := bB_1 c_6
        have hZ := (if_pos b_6).symm.trans hZ
        refine lv_bipush (v := (-8)) hx hb dX0_operatorAt_33 (by decide) ?_
        rw [hQ]
        have hP9 := hP.sub (ws' := [(ta, kO 6 [.ref ta_signs, .ref ta_words, .int (nI ta_length), .int (nI ta_next), .int ta_place, .int ta_kind, .int ta_value, .long ta_letters, .int ta_fault])]) [0] rfl
        have hD9 := hD.sub (ws' := [(ta, kO 6 [.ref ta_signs, .ref ta_words, .int (nI ta_length), .int (nI ta_next), .int ta_place, .int ta_kind, .int ta_value, .long ta_letters, .int ta_fault])]) [0] (by decide) rfl
        exact W.iret (v := (-8)) hx hb hr (fun zt ht hW => ⟨⟨(-8), (), rfl, (hZ.trans hE0), by rw [ht]; exact hP9, hD9⟩, hS.F ht⟩) hS.2.2 dX0_operatorAt_35
    · skip
      have b_4 : u3 = true := bB_1 c_4
      have hZ := (if_pos b_4).symm.trans hZ
      refine lv_bipush (v := (-7)) hx hb dX0_operatorAt_21 (by decide) ?_
      rw [hQ]
      have hP9 := hP.sub (ws' := [(ta, kO 6 [.ref ta_signs, .ref ta_words, .int (nI ta_length), .int (nI ta_next), .int ta_place, .int ta_kind, .int ta_value, .long ta_letters, .int ta_fault])]) [0] rfl
      have hD9 := hD.sub (ws' := [(ta, kO 6 [.ref ta_signs, .ref ta_words, .int (nI ta_length), .int (nI ta_next), .int ta_place, .int ta_kind, .int ta_value, .long ta_letters, .int ta_fault])]) [0] (by decide) rfl
      exact W.iret (v := (-7)) hx hb hr (fun zt ht hW => ⟨⟨(-7), (), rfl, (hZ.trans hE0), by rw [ht]; exact hP9, hD9⟩, hS.F ht⟩) hS.2.2 dX0_operatorAt_23
  · skip
    have b_2 : u1 = true := bB_1 c_2
    have hZ := (if_pos b_2).symm.trans hZ
    refine lv_bipush (v := (-6)) hx hb dX0_operatorAt_9 (by decide) ?_
    rw [hQ]
    have hP9 := hP.sub (ws' := [(ta, kO 6 [.ref ta_signs, .ref ta_words, .int (nI ta_length), .int (nI ta_next), .int ta_place, .int ta_kind, .int ta_value, .long ta_letters, .int ta_fault])]) [0] rfl
    have hD9 := hD.sub (ws' := [(ta, kO 6 [.ref ta_signs, .ref ta_words, .int (nI ta_length), .int (nI ta_next), .int ta_place, .int ta_kind, .int ta_value, .long ta_letters, .int ta_fault])]) [0] (by decide) rfl
    exact W.iret (v := (-6)) hx hb hr (fun zt ht hW => ⟨⟨(-6), (), rfl, (hZ.trans hE0), by rw [ht]; exact hP9, hD9⟩, hS.F ht⟩) hS.2.2 dX0_operatorAt_11
theorem dX0_tightnessOf_0 : decode cX0_tightnessOf 0 = .ok (.iload_n 0, 1) := by decide +kernel
theorem dX0_tightnessOf_1 : decode cX0_tightnessOf 1 = .ok (.tableswitch 51 (-12) (-6) #[49, 47, 47, 45, 45, 43, 43], 43) := by decide +kernel
theorem dX0_tightnessOf_44 : decode cX0_tightnessOf 44 = .ok (.iconst 1, 1) := by decide +kernel
theorem dX0_tightnessOf_45 : decode cX0_tightnessOf 45 = .ok (.ireturn, 1) := by decide +kernel
theorem dX0_tightnessOf_46 : decode cX0_tightnessOf 46 = .ok (.iconst 2, 1) := by decide +kernel
theorem dX0_tightnessOf_47 : decode cX0_tightnessOf 47 = .ok (.ireturn, 1) := by decide +kernel
theorem dX0_tightnessOf_48 : decode cX0_tightnessOf 48 = .ok (.iconst 3, 1) := by decide +kernel
theorem dX0_tightnessOf_49 : decode cX0_tightnessOf 49 = .ok (.ireturn, 1) := by decide +kernel
theorem dX0_tightnessOf_50 : decode cX0_tightnessOf 50 = .ok (.iconst 4, 1) := by decide +kernel
theorem dX0_tightnessOf_51 : decode cX0_tightnessOf 51 = .ok (.ireturn, 1) := by decide +kernel
theorem dX0_tightnessOf_52 : decode cX0_tightnessOf 52 = .ok (.iconst 0, 1) := by decide +kernel
theorem dX0_tightnessOf_53 : decode cX0_tightnessOf 53 = .ok (.ireturn, 1) := by decide +kernel
set_option maxHeartbeats 4000000 in
set_option maxRecDepth 100000 in
theorem sX0_tightnessOf (l : Launch) (D : va_G) (k : Nat → ClassId) (sz : Nat) (op : Int32) : Met l yX0_tightnessOf wsX0_tightnessOf ({ frames := 0, cells := 0, slots := 0, locals := 0 }) (va_Pc [.int op] (kz_Pre D k [] sz)) (va_Qi (fun (rr : Int32) (uu : Unit) => (0 ≤ Int32.toInt rr ∧ Int32.toInt rr ≤ 4) ∧ ((rr) = (fX0_tightnessOf op))) (fun uu zt => kz_B D (va_A [] sz) [] zt) (va_A [] sz)) 0 0 (va_A [] sz) := by
  refine Met.ofW (cc := cX0_tightnessOf) (maxL := 1) (ret := (some .int)) (by decide) rfl ?_
  intro p e s m args below meth c s₁ B hml hv
  obtain ⟨hav, hsz, hP, hK, hD0, hE⟩ := hv
  have hx := B.exec
  have hb := B.bytes
  have hr := B.returns
  have hts := atoms_spec (ws := wsX0_tightnessOf) B.pre
  have hown : s.vm.findClass RX0 = some m.cls := findClass_of_methodNamed B.named
  have hlocks := B.notSynchronized
  subst hsz
  have hD := hD0.self (sz := s.heap.size)
  generalize hAe : va_A [] s.heap.size = A at hD ⊢
  have hA : ∀ q : Nat, s.heap.size ≤ q → A q := fun q h => by rw [← hAe]; exact Or.inr h
  have hS : va_S A s.heap s.heap [] := va_S.rf
  have hl := lv_entry ([.int op]) (n := 1) (Nat.le_of_ble_eq_true rfl)
  rw [show entryFrame m args 1 = entryFrame m ([.int op] : List Value).toArray 1 by rw [hav], lg_entry_eq]
  generalize (lg_sl ([.int op]) ++ List.replicate (1 - (lg_sl ([.int op])).length) Slot.unset).toArray = ls at hl ⊢
  have hl : lv_has ls 1 [(0, .int op)] := hl
  obtain ⟨R, hR⟩ : ∃ R, R = (headSpec wsX0_tightnessOf ({ frames := 0, cells := 0, slots := 0, locals := 0 } : Room)).room := ⟨_, rfl⟩
  rw [← hR]
  generalize hQ : MQ below _ args s 0 0 A = Q
  replace hQ := hQ.symm
  obtain ⟨H, hH⟩ : ∃ H, H = s.heap := ⟨_, rfl⟩
  rw [← hH] at hP ⊢
  have hS : va_S A s.heap H [] := by rw [hH]; exact hS
  obtain ⟨E0, hE0⟩ : ∃ E0 : Int32, E0 = (fX0_tightnessOf op) := ⟨_, rfl⟩
  have hZ : (fX0_tightnessOf op) = E0 := hE0.symm
  refine lv_iload_n hx hb dX0_tightnessOf_0 rfl (lv_at hl 0 rfl) ?_
  by_cases w1_0 : op = (-12)
  · skip
    have hZ := (if_pos w1_0).symm.trans hZ
    refine lv_topi (fun x2 ex2 => ?_)
    obtain rfl : x2 = (-12) := ex2.trans w1_0
    refine lv_tableIn (off := 49) (tgt := 50) hx hb dX0_tightnessOf_1 (by decide) (by decide) (by decide) (by decide) ?_
    refine lv_iconst (v := 4) hx hb dX0_tightnessOf_50 (by decide) ?_
    have tq3 : Int32.toInt 4 = 4 := by decide
    rw [hQ]
    have hP9 := hP.sub (ws' := []) [] rfl
    have hD9 := hD.sub (ws' := []) [] (by decide) rfl
    exact W.iret (v := 4) hx hb hr (fun zt ht hW => ⟨⟨4, (), rfl, ⟨(by first | omega | (dsimp only; omega) | assumption), (hZ.trans hE0)⟩, by rw [ht]; exact hP9, hD9⟩, hS.F ht⟩) hS.2.2 dX0_tightnessOf_51
  have hZ := (if_neg w1_0).symm.trans hZ
  by_cases w1_1 : op = (-11)
  · skip
    have hZ := (if_pos w1_1).symm.trans hZ
    refine lv_topi (fun x4 ex4 => ?_)
    obtain rfl : x4 = (-11) := ex4.trans w1_1
    refine lv_tableIn (off := 47) (tgt := 48) hx hb dX0_tightnessOf_1 (by decide) (by decide) (by decide) (by decide) ?_
    refine lv_iconst (v := 3) hx hb dX0_tightnessOf_48 (by decide) ?_
    have tq5 : Int32.toInt 3 = 3 := by decide
    rw [hQ]
    have hP9 := hP.sub (ws' := []) [] rfl
    have hD9 := hD.sub (ws' := []) [] (by decide) rfl
    exact W.iret (v := 3) hx hb hr (fun zt ht hW => ⟨⟨3, (), rfl, ⟨(by first | omega | (dsimp only; omega) | assumption), (hZ.trans hE0)⟩, by rw [ht]; exact hP9, hD9⟩, hS.F ht⟩) hS.2.2 dX0_tightnessOf_49
  have hZ := (if_neg w1_1).symm.trans hZ
  by_cases w1_2 : op = (-10)
  · skip
    have hZ := (if_pos w1_2).symm.trans hZ
    refine lv_topi (fun x6 ex6 => ?_)
    obtain rfl : x6 = (-10) := ex6.trans w1_2
    refine lv_tableIn (off := 47) (tgt := 48) hx hb dX0_tightnessOf_1 (by decide) (by decide) (by decide) (by decide) ?_
    refine lv_iconst (v := 3) hx hb dX0_tightnessOf_48 (by decide) ?_
    have tq7 : Int32.toInt 3 = 3 := by decide
    rw [hQ]
    have hP9 := hP.sub (ws' := []) [] rfl
    have hD9 := hD.sub (ws' := []) [] (by decide) rfl
    exact W.iret (v := 3) hx hb hr (fun zt ht hW => ⟨⟨3, (), rfl, ⟨(by first | omega | (dsimp only; omega) | assumption), (hZ.trans hE0)⟩, by rw [ht]; exact hP9, hD9⟩, hS.F ht⟩) hS.2.2 dX0_tightnessOf_49
  have hZ := (if_neg w1_2).symm.trans hZ
  by_cases w1_3 : op = (-9)
  · skip
    have hZ := (if_pos w1_3).symm.trans hZ
    refine lv_topi (fun x8 ex8 => ?_)
    obtain rfl : x8 = (-9) := ex8.trans w1_3
    refine lv_tableIn (off := 45) (tgt := 46) hx hb dX0_tightnessOf_1 (by decide) (by decide) (by decide) (by decide) ?_
    refine lv_iconst (v := 2) hx hb dX0_tightnessOf_46 (by decide) ?_
    have tq9 : Int32.toInt 2 = 2 := by decide
    rw [hQ]
    have hP9 := hP.sub (ws' := []) [] rfl
    have hD9 := hD.sub (ws' := []) [] (by decide) rfl
    exact W.iret (v := 2) hx hb hr (fun zt ht hW => ⟨⟨2, (), rfl, ⟨(by first | omega | (dsimp only; omega) | assumption), (hZ.trans hE0)⟩, by rw [ht]; exact hP9, hD9⟩, hS.F ht⟩) hS.2.2 dX0_tightnessOf_47
  have hZ := (if_neg w1_3).symm.trans hZ
  by_cases w1_4 : op = (-8)
  · skip
    have hZ := (if_pos w1_4).symm.trans hZ
    refine lv_topi (fun x10 ex10 => ?_)
    obtain rfl : x10 = (-8) := ex10.trans w1_4
    refine lv_tableIn (off := 45) (tgt := 46) hx hb dX0_tightnessOf_1 (by decide) (by decide) (by decide) (by decide) ?_
    refine lv_iconst (v := 2) hx hb dX0_tightnessOf_46 (by decide) ?_
    have tq11 : Int32.toInt 2 = 2 := by decide
    rw [hQ]
    have hP9 := hP.sub (ws' := []) [] rfl
    have hD9 := hD.sub (ws' := []) [] (by decide) rfl
    exact W.iret (v := 2) hx hb hr (fun zt ht hW => ⟨⟨2, (), rfl, ⟨(by first | omega | (dsimp only; omega) | assumption), (hZ.trans hE0)⟩, by rw [ht]; exact hP9, hD9⟩, hS.F ht⟩) hS.2.2 dX0_tightnessOf_47
  have hZ := (if_neg w1_4).symm.trans hZ
  by_cases w1_5 : op = (-7)
  · skip
    have hZ := (if_pos w1_5).symm.trans hZ
    refine lv_topi (fun x12 ex12 => ?_)
    obtain rfl : x12 = (-7) := ex12.trans w1_5
    refine lv_tableIn (off := 43) (tgt := 44) hx hb dX0_tightnessOf_1 (by decide) (by decide) (by decide) (by decide) ?_
    refine lv_iconst (v := 1) hx hb dX0_tightnessOf_44 (by decide) ?_
    have tq13 : Int32.toInt 1 = 1 := by decide
    rw [hQ]
    have hP9 := hP.sub (ws' := []) [] rfl
    have hD9 := hD.sub (ws' := []) [] (by decide) rfl
    exact W.iret (v := 1) hx hb hr (fun zt ht hW => ⟨⟨1, (), rfl, ⟨(by first | omega | (dsimp only; omega) | assumption), (hZ.trans hE0)⟩, by rw [ht]; exact hP9, hD9⟩, hS.F ht⟩) hS.2.2 dX0_tightnessOf_45
  have hZ := (if_neg w1_5).symm.trans hZ
  by_cases w1_6 : op = (-6)
  · skip
    have hZ := (if_pos w1_6).symm.trans hZ
    refine lv_topi (fun x14 ex14 => ?_)
    obtain rfl : x14 = (-6) := ex14.trans w1_6
    refine lv_tableIn (off := 43) (tgt := 44) hx hb dX0_tightnessOf_1 (by decide) (by decide) (by decide) (by decide) ?_
    refine lv_iconst (v := 1) hx hb dX0_tightnessOf_44 (by decide) ?_
    have tq15 : Int32.toInt 1 = 1 := by decide
    rw [hQ]
    have hP9 := hP.sub (ws' := []) [] rfl
    have hD9 := hD.sub (ws' := []) [] (by decide) rfl
    exact W.iret (v := 1) hx hb hr (fun zt ht hW => ⟨⟨1, (), rfl, ⟨(by first | omega | (dsimp only; omega) | assumption), (hZ.trans hE0)⟩, by rw [ht]; exact hP9, hD9⟩, hS.F ht⟩) hS.2.2 dX0_tightnessOf_45
  have hZ := (if_neg w1_6).symm.trans hZ
  have z1_0 := lv_neT w1_0 (a := -12) (by decide)
  have z1_1 := lv_neT w1_1 (a := -11) (by decide)
  have z1_2 := lv_neT w1_2 (a := -10) (by decide)
  have z1_3 := lv_neT w1_3 (a := -9) (by decide)
  have z1_4 := lv_neT w1_4 (a := -8) (by decide)
  have z1_5 := lv_neT w1_5 (a := -7) (by decide)
  have z1_6 := lv_neT w1_6 (a := -6) (by decide)
  refine lv_tableOut (tgt := 52) hx hb dX0_tightnessOf_1 (by omega) (by decide) ?_
  refine lv_iconst (v := 0) hx hb dX0_tightnessOf_52 (by decide) ?_
  have tq16 : Int32.toInt 0 = 0 := by decide
  rw [hQ]
  have hP9 := hP.sub (ws' := []) [] rfl
  have hD9 := hD.sub (ws' := []) [] (by decide) rfl
  exact W.iret (v := 0) hx hb hr (fun zt ht hW => ⟨⟨0, (), rfl, ⟨(by first | omega | (dsimp only; omega) | assumption), (hZ.trans hE0)⟩, by rw [ht]; exact hP9, hD9⟩, hS.F ht⟩) hS.2.2 dX0_tightnessOf_53
theorem dX7_clear_0 : decode cX7_clear 0 = .ok (.aload_n 0, 1) := by decide +kernel
theorem dX7_clear_1 : decode cX7_clear 1 = .ok (.getfield 34, 3) := by decide +kernel
theorem dX7_clear_4 : decode cX7_clear 4 = .ok (.invokevirtual 45, 3) := by decide +kernel
theorem dX7_clear_7 : decode cX7_clear 7 = .ok (.aload_n 0, 1) := by decide +kernel
theorem dX7_clear_8 : decode cX7_clear 8 = .ok (.iconst 0, 1) := by decide +kernel
theorem dX7_clear_9 : decode cX7_clear 9 = .ok (.putfield 48, 3) := by decide +kernel
theorem dX7_clear_12 : decode cX7_clear 12 = .ok (.aload_n 0, 1) := by decide +kernel
theorem dX7_clear_13 : decode cX7_clear 13 = .ok (.iconst 0, 1) := by decide +kernel
theorem dX7_clear_14 : decode cX7_clear 14 = .ok (.putfield 51, 3) := by decide +kernel
theorem dX7_clear_17 : decode cX7_clear 17 = .ok (.aload_n 0, 1) := by decide +kernel
theorem dX7_clear_18 : decode cX7_clear 18 = .ok (.bipush 10, 2) := by decide +kernel
theorem dX7_clear_20 : decode cX7_clear 20 = .ok (.putfield 38, 3) := by decide +kernel
theorem dX7_clear_23 : decode cX7_clear 23 = .ok (.aload_n 0, 1) := by decide +kernel
theorem dX7_clear_24 : decode cX7_clear 24 = .ok (.bipush 30, 2) := by decide +kernel
theorem dX7_clear_26 : decode cX7_clear 26 = .ok (.putfield 42, 3) := by decide +kernel
theorem dX7_clear_29 : decode cX7_clear 29 = .ok (.aload_n 0, 1) := by decide +kernel
theorem dX7_clear_30 : decode cX7_clear 30 = .ok (.iconst 0, 1) := by decide +kernel
theorem dX7_clear_31 : decode cX7_clear 31 = .ok (.putfield 54, 3) := by decide +kernel
theorem dX7_clear_34 : decode cX7_clear 34 = .ok (.aload_n 0, 1) := by decide +kernel
theorem dX7_clear_35 : decode cX7_clear 35 = .ok (.iconst 0, 1) := by decide +kernel
theorem dX7_clear_36 : decode cX7_clear 36 = .ok (.putfield 58, 3) := by decide +kernel
theorem dX7_clear_39 : decode cX7_clear 39 = .ok (.return_, 1) := by decide +kernel
set_option maxRecDepth 20000 in
theorem ggX7_clear_X0_clear : GoodIn wsX7_clear wsX0_clear := goodIn_r _ [12, 13, 27, 28, 29, 30, 31] rfl (by decide +kernel)
set_option maxRecDepth 20000 in
theorem gX7_clear_X0_clear : GoodIn wsX7_clear (wsV RX7 45 RX0 yX0_clear wsX0_clear) := goodIn_app (goodIn_of _ (by decide +kernel)) ggX7_clear_X0_clear
set_option maxHeartbeats 4000000 in
set_option maxRecDepth 100000 in
theorem sX7_clear (l : Launch) (D : va_G) (k : Nat → ClassId) (sz : Nat) (t : Nat) (t_names : Nat) (t_kinds : Nat) (t_yards : Nat) (t_paces : Nat) (t_skills : Nat) (t_snow : Nat) (tw : Nat) (t_guests : Nat) (t_snows : Nat) (t_bend : Int32) (t_hour : Int32) (t_bendTold : Bool) (t_hourTold : Bool) (tw_code : Nat) (tw_stack : Nat) (tw_facts : Nat) (tw_length : Nat) (tw_top : Nat) (h_t_guests : t_guests ≤ 6) (h_t_snows : t_snows ≤ 12) (h_tw_length : tw_length ≤ 1000) (h_tw_top : tw_top ≤ 24) : Met l yX7_clear wsX7_clear ({ frames := 1, cells := 0, slots := 0, locals := 70 }) (va_Pc [.ref t] (kz_Pre D k [(t, kO 7 [.ref t_names, .ref t_kinds, .ref t_yards, .ref t_paces, .ref t_skills, .ref t_snow, .ref tw, .int (nI t_guests), .int (nI t_snows), .int t_bend, .int t_hour, .int (bB t_bendTold), .int (bB t_hourTold)]), (tw, kO 0 [.ref tw_code, .ref tw_stack, .ref tw_facts, .int (nI tw_length), .int (nI tw_top)])] sz)) (va_Qv (fun (uu : Nat × Nat × Int32 × Int32 × Bool × Bool × Nat) => (uu.1 ≤ 6) ∧ (uu.2.1 ≤ 12) ∧ (uu.2.2.2.2.2.2 ≤ 1000) ∧ ((uu.1, uu.2.1, uu.2.2.1, uu.2.2.2.1, uu.2.2.2.2.1, uu.2.2.2.2.2.1, uu.2.2.2.2.2.2) = fX7_clear)) (fun uu zt => kz_B D (va_A [(t, kO 7 [.ref t_names, .ref t_kinds, .ref t_yards, .ref t_paces, .ref t_skills, .ref t_snow, .ref tw, .int (nI t_guests), .int (nI t_snows), .int t_bend, .int t_hour, .int (bB t_bendTold), .int (bB t_hourTold)]), (tw, kO 0 [.ref tw_code, .ref tw_stack, .ref tw_facts, .int (nI tw_length), .int (nI tw_top)])] sz) [(t, kO 7 [.ref t_names, .ref t_kinds, .ref t_yards, .ref t_paces, .ref t_skills, .ref t_snow, .ref tw, .int (nI uu.1), .int (nI uu.2.1), .int uu.2.2.1, .int uu.2.2.2.1, .int (bB uu.2.2.2.2.1), .int (bB uu.2.2.2.2.2.1)]), (tw, kO 0 [.ref tw_code, .ref tw_stack, .ref tw_facts, .int (nI uu.2.2.2.2.2.2), .int (nI tw_top)])] zt) (va_A [(t, kO 7 [.ref t_names, .ref t_kinds, .ref t_yards, .ref t_paces, .ref t_skills, .ref t_snow, .ref tw, .int (nI t_guests), .int (nI t_snows), .int t_bend, .int t_hour, .int (bB t_bendTold), .int (bB t_hourTold)]), (tw, kO 0 [.ref tw_code, .ref tw_stack, .ref tw_facts, .int (nI tw_length), .int (nI tw_top)])] sz)) 0 0 (va_A [(t, kO 7 [.ref t_names, .ref t_kinds, .ref t_yards, .ref t_paces, .ref t_skills, .ref t_snow, .ref tw, .int (nI t_guests), .int (nI t_snows), .int t_bend, .int t_hour, .int (bB t_bendTold), .int (bB t_hourTold)]), (tw, kO 0 [.ref tw_code, .ref tw_stack, .ref tw_facts, .int (nI tw_length), .int (nI tw_top)])] sz) := by
  refine Met.ofW (cc := cX7_clear) (maxL := 1) (ret := none) (by decide) rfl ?_
  intro p e s m args below meth c s₁ B hml hv
  obtain ⟨hav, hsz, hP, hK, hD0, hE⟩ := hv
  have hx := B.exec
  have hb := B.bytes
  have hr := B.returns
  have hts := atoms_spec (ws := wsX7_clear) B.pre
  have hown : s.vm.findClass RX7 = some m.cls := findClass_of_methodNamed B.named
  have hlocks := B.notSynchronized
  have hi7 : ∀ w ∈ u_ws RX7 TX7 13, w ∈ wsX7_clear := by decide +kernel
  have lf34 := hts (.fieldLink RX7 34 "LastCook$Told" "law" "LLastCook$Law;") (by decide +kernel)
  have lf48 := hts (.fieldLink RX7 48 "LastCook$Told" "guests" "I") (by decide +kernel)
  have lf51 := hts (.fieldLink RX7 51 "LastCook$Told" "snows" "I") (by decide +kernel)
  have lf38 := hts (.fieldLink RX7 38 "LastCook$Told" "bend" "I") (by decide +kernel)
  have lf42 := hts (.fieldLink RX7 42 "LastCook$Told" "hour" "I") (by decide +kernel)
  have lf54 := hts (.fieldLink RX7 54 "LastCook$Told" "bendTold" "Z") (by decide +kernel)
  have lf58 := hts (.fieldLink RX7 58 "LastCook$Told" "hourTold" "Z") (by decide +kernel)
  subst hsz
  have hD := hD0.self (sz := s.heap.size)
  generalize hAe : va_A [(t, kO 7 [.ref t_names, .ref t_kinds, .ref t_yards, .ref t_paces, .ref t_skills, .ref t_snow, .ref tw, .int (nI t_guests), .int (nI t_snows), .int t_bend, .int t_hour, .int (bB t_bendTold), .int (bB t_hourTold)]), (tw, kO 0 [.ref tw_code, .ref tw_stack, .ref tw_facts, .int (nI tw_length), .int (nI tw_top)])] s.heap.size = A at hD ⊢
  have hA : ∀ q : Nat, s.heap.size ≤ q → A q := fun q h => by rw [← hAe]; exact Or.inr h
  have hS : va_S A s.heap s.heap [] := va_S.rf
  have hl := lv_entry ([.ref t]) (n := 1) (Nat.le_of_ble_eq_true rfl)
  rw [show entryFrame m args 1 = entryFrame m ([.ref t] : List Value).toArray 1 by rw [hav], lg_entry_eq]
  generalize (lg_sl ([.ref t]) ++ List.replicate (1 - (lg_sl ([.ref t])).length) Slot.unset).toArray = ls at hl ⊢
  have hl : lv_has ls 1 [(0, .ref t)] := hl
  obtain ⟨R, hR⟩ : ∃ R, R = (headSpec wsX7_clear ({ frames := 1, cells := 0, slots := 0, locals := 70 } : Room)).room := ⟨_, rfl⟩
  rw [← hR]
  generalize hQ : MQ below _ args s 0 0 A = Q
  replace hQ := hQ.symm
  obtain ⟨H, hH⟩ : ∃ H, H = s.heap := ⟨_, rfl⟩
  rw [← hH] at hP ⊢
  have hS : va_S A s.heap H [] := by rw [hH]; exact hS
  obtain ⟨E0, hE0⟩ : ∃ E0 : Nat × Nat × Int32 × Int32 × Bool × Bool × Nat, E0 = fX7_clear := ⟨_, rfl⟩
  have hZ : fX7_clear = E0 := hE0.symm
  refine lv_aload_n hx hb dX7_clear_0 rfl (lv_at hl 0 rfl) ?_
  refine va_get (D := D) (ci := 7) (v := .ref tw) (C := RX7) (T := TX7) (N := 13) hx hb hts hi7 hown hK hP 0 rfl rfl 6 (by decide) lf34 (fun _ h9 => h9) rfl dX7_clear_1 ?_
  refine kz_Vv (As := []) (rest := []) (wc := [(tw, kO 0 [.ref tw_code, .ref tw_stack, .ref tw_facts, .int (nI tw_length), .int (nI tw_top)])]) (wr := [(t, kO 7 [.ref t_names, .ref t_kinds, .ref t_yards, .ref t_paces, .ref t_skills, .ref t_snow, .ref tw, .int (nI t_guests), .int (nI t_snows), .int t_bend, .int t_hour, .int (bB t_bendTold), .int (bB t_hourTold)])]) ⟨hx, hb, hml, hown, hts⟩ hK hE hP hD hS hA (sX0_clear l D k H.size tw tw_code tw_stack tw_facts tw_length tw_top (by first | omega | assumption | decide) (by first | omega | assumption | decide)) (cwV 0 hts gX7_clear_X0_clear rfl rfl rfl (by decide +kernel) (by rw [hR]; exact ⟨Nat.le_of_ble_eq_true rfl, Nat.le_of_ble_eq_true rfl⟩)) [1] [0] rfl rfl (by decide) (by decide) (by decide) 0 rfl rfl rfl hl.1 rfl (Nat.le_of_ble_eq_true rfl) dX7_clear_4 (by rw [hR]; exact ⟨Nat.le_of_ble_eq_true rfl, Nat.le_of_ble_eq_true rfl⟩) (fun u1 H locs hw1 hP hD hS => ?_)
  try dsimp only at hw1
  have hP : va_P D vwCl [(t, kO 7 [.ref t_names, .ref t_kinds, .ref t_yards, .ref t_paces, .ref t_skills, .ref t_snow, .ref tw, .int (nI t_guests), .int (nI t_snows), .int t_bend, .int t_hour, .int (bB t_bendTold), .int (bB t_hourTold)]), (tw, kO 0 [.ref tw_code, .ref tw_stack, .ref tw_facts, .int (nI u1), .int (nI tw_top)])] H := hP
  have hD : va_D A [(t, kO 7 [.ref t_names, .ref t_kinds, .ref t_yards, .ref t_paces, .ref t_skills, .ref t_snow, .ref tw, .int (nI t_guests), .int (nI t_snows), .int t_bend, .int t_hour, .int (bB t_bendTold), .int (bB t_hourTold)]), (tw, kO 0 [.ref tw_code, .ref tw_stack, .ref tw_facts, .int (nI u1), .int (nI tw_top)])] := hD
  obtain ⟨hw1_0, hw1_1⟩ := hw1
  have hZ := bn1_e hw1_1 hZ
  refine lv_aload_n hx hb dX7_clear_7 rfl (lv_at hl 0 rfl) ?_
  refine lv_iconst (v := 0) hx hb dX7_clear_8 (by decide) ?_
  refine va_put (D := D) (ci := 7) (v := .int 0) (ty := .int) (C := RX7) (T := TX7) (N := 13) hx hb hts hi7 tyX7 tyX7_ok nmX7 hown hK hP hD hS 0 rfl rfl 7 (by decide) lf48 (fun _ h9 => h9) rfl (by decide +kernel) rfl rfl (Nat.le_of_ble_eq_true rfl) dX7_clear_9 (fun H locs hP hD hS => ?_)
  have hP : va_P D vwCl [(t, kO 7 [.ref t_names, .ref t_kinds, .ref t_yards, .ref t_paces, .ref t_skills, .ref t_snow, .ref tw, .int 0, .int (nI t_snows), .int t_bend, .int t_hour, .int (bB t_bendTold), .int (bB t_hourTold)]), (tw, kO 0 [.ref tw_code, .ref tw_stack, .ref tw_facts, .int (nI u1), .int (nI tw_top)])] H := hP
  have hD : va_D A [(t, kO 7 [.ref t_names, .ref t_kinds, .ref t_yards, .ref t_paces, .ref t_skills, .ref t_snow, .ref tw, .int 0, .int (nI t_snows), .int t_bend, .int t_hour, .int (bB t_bendTold), .int (bB t_hourTold)]), (tw, kO 0 [.ref tw_code, .ref tw_stack, .ref tw_facts, .int (nI u1), .int (nI tw_top)])] := hD
  refine lv_aload_n hx hb dX7_clear_12 rfl (lv_at hl 0 rfl) ?_
  refine lv_iconst (v := 0) hx hb dX7_clear_13 (by decide) ?_
  refine va_put (D := D) (ci := 7) (v := .int 0) (ty := .int) (C := RX7) (T := TX7) (N := 13) hx hb hts hi7 tyX7 tyX7_ok nmX7 hown hK hP hD hS 0 rfl rfl 8 (by decide) lf51 (fun _ h9 => h9) rfl (by decide +kernel) rfl rfl (Nat.le_of_ble_eq_true rfl) dX7_clear_14 (fun H locs hP hD hS => ?_)
  have hP : va_P D vwCl [(t, kO 7 [.ref t_names, .ref t_kinds, .ref t_yards, .ref t_paces, .ref t_skills, .ref t_snow, .ref tw, .int 0, .int 0, .int t_bend, .int t_hour, .int (bB t_bendTold), .int (bB t_hourTold)]), (tw, kO 0 [.ref tw_code, .ref tw_stack, .ref tw_facts, .int (nI u1), .int (nI tw_top)])] H := hP
  have hD : va_D A [(t, kO 7 [.ref t_names, .ref t_kinds, .ref t_yards, .ref t_paces, .ref t_skills, .ref t_snow, .ref tw, .int 0, .int 0, .int t_bend, .int t_hour, .int (bB t_bendTold), .int (bB t_hourTold)]), (tw, kO 0 [.ref tw_code, .ref tw_stack, .ref tw_facts, .int (nI u1), .int (nI tw_top)])] := hD
  refine lv_aload_n hx hb dX7_clear_17 rfl (lv_at hl 0 rfl) ?_
  refine lv_bipush (v := 10) hx hb dX7_clear_18 (by decide) ?_
  refine va_put (D := D) (ci := 7) (v := .int 10) (ty := .int) (C := RX7) (T := TX7) (N := 13) hx hb hts hi7 tyX7 tyX7_ok nmX7 hown hK hP hD hS 0 rfl rfl 9 (by decide) lf38 (fun _ h9 => h9) rfl (by decide +kernel) rfl rfl (Nat.le_of_ble_eq_true rfl) dX7_clear_20 (fun H locs hP hD hS => ?_)
  have hP : va_P D vwCl [(t, kO 7 [.ref t_names, .ref t_kinds, .ref t_yards, .ref t_paces, .ref t_skills, .ref t_snow, .ref tw, .int 0, .int 0, .int 10, .int t_hour, .int (bB t_bendTold), .int (bB t_hourTold)]), (tw, kO 0 [.ref tw_code, .ref tw_stack, .ref tw_facts, .int (nI u1), .int (nI tw_top)])] H := hP
  have hD : va_D A [(t, kO 7 [.ref t_names, .ref t_kinds, .ref t_yards, .ref t_paces, .ref t_skills, .ref t_snow, .ref tw, .int 0, .int 0, .int 10, .int t_hour, .int (bB t_bendTold), .int (bB t_hourTold)]), (tw, kO 0 [.ref tw_code, .ref tw_stack, .ref tw_facts, .int (nI u1), .int (nI tw_top)])] := hD
  refine lv_aload_n hx hb dX7_clear_23 rfl (lv_at hl 0 rfl) ?_
  refine lv_bipush (v := 30) hx hb dX7_clear_24 (by decide) ?_
  refine va_put (D := D) (ci := 7) (v := .int 30) (ty := .int) (C := RX7) (T := TX7) (N := 13) hx hb hts hi7 tyX7 tyX7_ok nmX7 hown hK hP hD hS 0 rfl rfl 10 (by decide) lf42 (fun _ h9 => h9) rfl (by decide +kernel) rfl rfl (Nat.le_of_ble_eq_true rfl) dX7_clear_26 (fun H locs hP hD hS => ?_)
  have hP : va_P D vwCl [(t, kO 7 [.ref t_names, .ref t_kinds, .ref t_yards, .ref t_paces, .ref t_skills, .ref t_snow, .ref tw, .int 0, .int 0, .int 10, .int 30, .int (bB t_bendTold), .int (bB t_hourTold)]), (tw, kO 0 [.ref tw_code, .ref tw_stack, .ref tw_facts, .int (nI u1), .int (nI tw_top)])] H := hP
  have hD : va_D A [(t, kO 7 [.ref t_names, .ref t_kinds, .ref t_yards, .ref t_paces, .ref t_skills, .ref t_snow, .ref tw, .int 0, .int 0, .int 10, .int 30, .int (bB t_bendTold), .int (bB t_hourTold)]), (tw, kO 0 [.ref tw_code, .ref tw_stack, .ref tw_facts, .int (nI u1), .int (nI tw_top)])] := hD
  refine lv_aload_n hx hb dX7_clear_29 rfl (lv_at hl 0 rfl) ?_
  refine lv_iconst (v := 0) hx hb dX7_clear_30 (by decide) ?_
  refine va_put (D := D) (ci := 7) (v := .int 0) (ty := .boolean) (C := RX7) (T := TX7) (N := 13) hx hb hts hi7 tyX7 tyX7_ok nmX7 hown hK hP hD hS 0 rfl rfl 11 (by decide) lf54 (fun _ h9 => h9) rfl (by decide +kernel) rfl rfl (Nat.le_of_ble_eq_true rfl) dX7_clear_31 (fun H locs hP hD hS => ?_)
  have hP : va_P D vwCl [(t, kO 7 [.ref t_names, .ref t_kinds, .ref t_yards, .ref t_paces, .ref t_skills, .ref t_snow, .ref tw, .int 0, .int 0, .int 10, .int 30, .int 0, .int (bB t_hourTold)]), (tw, kO 0 [.ref tw_code, .ref tw_stack, .ref tw_facts, .int (nI u1), .int (nI tw_top)])] H := hP
  have hD : va_D A [(t, kO 7 [.ref t_names, .ref t_kinds, .ref t_yards, .ref t_paces, .ref t_skills, .ref t_snow, .ref tw, .int 0, .int 0, .int 10, .int 30, .int 0, .int (bB t_hourTold)]), (tw, kO 0 [.ref tw_code, .ref tw_stack, .ref tw_facts, .int (nI u1), .int (nI tw_top)])] := hD
  refine lv_aload_n hx hb dX7_clear_34 rfl (lv_at hl 0 rfl) ?_
  refine lv_iconst (v := 0) hx hb dX7_clear_35 (by decide) ?_
  refine va_put (D := D) (ci := 7) (v := .int 0) (ty := .boolean) (C := RX7) (T := TX7) (N := 13) hx hb hts hi7 tyX7 tyX7_ok nmX7 hown hK hP hD hS 0 rfl rfl 12 (by decide) lf58 (fun _ h9 => h9) rfl (by decide +kernel) rfl rfl (Nat.le_of_ble_eq_true rfl) dX7_clear_36 (fun H locs hP hD hS => ?_)
  have hP : va_P D vwCl [(t, kO 7 [.ref t_names, .ref t_kinds, .ref t_yards, .ref t_paces, .ref t_skills, .ref t_snow, .ref tw, .int 0, .int 0, .int 10, .int 30, .int 0, .int 0]), (tw, kO 0 [.ref tw_code, .ref tw_stack, .ref tw_facts, .int (nI u1), .int (nI tw_top)])] H := hP
  have hD : va_D A [(t, kO 7 [.ref t_names, .ref t_kinds, .ref t_yards, .ref t_paces, .ref t_skills, .ref t_snow, .ref tw, .int 0, .int 0, .int 10, .int 30, .int 0, .int 0]), (tw, kO 0 [.ref tw_code, .ref tw_stack, .ref tw_facts, .int (nI u1), .int (nI tw_top)])] := hD
  rw [hQ]
  have hP9 := hP.sub (ws' := [(t, kO 7 [.ref t_names, .ref t_kinds, .ref t_yards, .ref t_paces, .ref t_skills, .ref t_snow, .ref tw, .int (nI 0), .int (nI 0), .int (10 : Int32), .int (30 : Int32), .int (bB false), .int (bB false)]), (tw, kO 0 [.ref tw_code, .ref tw_stack, .ref tw_facts, .int (nI u1), .int (nI tw_top)])]) [0, 1] rfl
  have hD9 := hD.sub (ws' := [(t, kO 7 [.ref t_names, .ref t_kinds, .ref t_yards, .ref t_paces, .ref t_skills, .ref t_snow, .ref tw, .int (nI 0), .int (nI 0), .int (10 : Int32), .int (30 : Int32), .int (bB false), .int (bB false)]), (tw, kO 0 [.ref tw_code, .ref tw_stack, .ref tw_facts, .int (nI u1), .int (nI tw_top)])]) [0, 1] (by decide) rfl
  exact W.vret hx hb hr (fun zt ht hW => ⟨⟨⟨0, 0, (10 : Int32), (30 : Int32), false, false, u1⟩, rfl, ⟨(by first | omega | (dsimp only; omega) | assumption), (by first | omega | (dsimp only; omega) | assumption), (by first | omega | (dsimp only; omega) | assumption), (hZ.trans hE0)⟩, by rw [ht]; exact hP9, hD9⟩, hS.F ht⟩) hS.2.2 dX7_clear_39
theorem dX7_numberOf_0 : decode cX7_numberOf 0 = .ok (.iconst 0, 1) := by decide +kernel
theorem dX7_numberOf_1 : decode cX7_numberOf 1 = .ok (.istore_n 3, 1) := by decide +kernel
theorem dX7_numberOf_2 : decode cX7_numberOf 2 = .ok (.iload_n 3, 1) := by decide +kernel
theorem dX7_numberOf_3 : decode cX7_numberOf 3 = .ok (.aload_n 0, 1) := by decide +kernel
theorem dX7_numberOf_4 : decode cX7_numberOf 4 = .ok (.getfield 48, 3) := by decide +kernel
theorem dX7_numberOf_7 : decode cX7_numberOf 7 = .ok (.if_icmp .ge 22, 3) := by decide +kernel
theorem dX7_numberOf_10 : decode cX7_numberOf 10 = .ok (.aload_n 0, 1) := by decide +kernel
theorem dX7_numberOf_11 : decode cX7_numberOf 11 = .ok (.getfield 9, 3) := by decide +kernel
theorem dX7_numberOf_14 : decode cX7_numberOf 14 = .ok (.iload_n 3, 1) := by decide +kernel
theorem dX7_numberOf_15 : decode cX7_numberOf 15 = .ok (.laload, 1) := by decide +kernel
theorem dX7_numberOf_16 : decode cX7_numberOf 16 = .ok (.lload_n 1, 1) := by decide +kernel
theorem dX7_numberOf_17 : decode cX7_numberOf 17 = .ok (.lcmp, 1) := by decide +kernel
theorem dX7_numberOf_18 : decode cX7_numberOf 18 = .ok (.ifCond .ne 5, 3) := by decide +kernel
theorem dX7_numberOf_21 : decode cX7_numberOf 21 = .ok (.iload_n 3, 1) := by decide +kernel
theorem dX7_numberOf_22 : decode cX7_numberOf 22 = .ok (.ireturn, 1) := by decide +kernel
theorem dX7_numberOf_23 : decode cX7_numberOf 23 = .ok (.iinc 3 1, 3) := by decide +kernel
theorem dX7_numberOf_26 : decode cX7_numberOf 26 = .ok (.goto (-24), 3) := by decide +kernel
theorem dX7_numberOf_29 : decode cX7_numberOf 29 = .ok (.iconst (-1), 1) := by decide +kernel
theorem dX7_numberOf_30 : decode cX7_numberOf 30 = .ok (.ireturn, 1) := by decide +kernel
set_option maxHeartbeats 4000000 in
set_option maxRecDepth 100000 in
theorem sX7_numberOf (l : Launch) (D : va_G) (k : Nat → ClassId) (sz : Nat) (t : Nat) (y_ : Int64) (t_names : Nat) (t_kinds : Nat) (t_yards : Nat) (t_paces : Nat) (t_skills : Nat) (t_snow : Nat) (tw : Nat) (t_guests : Nat) (t_snows : Nat) (t_bend : Int32) (t_hour : Int32) (t_bendTold : Bool) (t_hourTold : Bool) (t_namesF : Nat → Int64) (h_t_guests : t_guests ≤ 6) (h_t_snows : t_snows ≤ 12) : Met l yX7_numberOf wsX7_numberOf ({ frames := 0, cells := 0, slots := 0, locals := 0 }) (va_Pc [.ref t, .long y_] (kz_Pre D k [(t, kO 7 [.ref t_names, .ref t_kinds, .ref t_yards, .ref t_paces, .ref t_skills, .ref t_snow, .ref tw, .int (nI t_guests), .int (nI t_snows), .int t_bend, .int t_hour, .int (bB t_bendTold), .int (bB t_hourTold)]), (t_names, kJ k 6 t_namesF)] sz)) (va_Qi (fun (rr : Int32) (uu : Unit) => ((rr) = (fX7_numberOf y_ t_guests t_namesF))) (fun uu zt => kz_B D (va_A [(t, kO 7 [.ref t_names, .ref t_kinds, .ref t_yards, .ref t_paces, .ref t_skills, .ref t_snow, .ref tw, .int (nI t_guests), .int (nI t_snows), .int t_bend, .int t_hour, .int (bB t_bendTold), .int (bB t_hourTold)]), (t_names, kJ k 6 t_namesF)] sz) [(t, kO 7 [.ref t_names, .ref t_kinds, .ref t_yards, .ref t_paces, .ref t_skills, .ref t_snow, .ref tw, .int (nI t_guests), .int (nI t_snows), .int t_bend, .int t_hour, .int (bB t_bendTold), .int (bB t_hourTold)]), (t_names, kJ k 6 t_namesF)] zt) (va_A [(t, kO 7 [.ref t_names, .ref t_kinds, .ref t_yards, .ref t_paces, .ref t_skills, .ref t_snow, .ref tw, .int (nI t_guests), .int (nI t_snows), .int t_bend, .int t_hour, .int (bB t_bendTold), .int (bB t_hourTold)]), (t_names, kJ k 6 t_namesF)] sz)) 0 0 (va_A [(t, kO 7 [.ref t_names, .ref t_kinds, .ref t_yards, .ref t_paces, .ref t_skills, .ref t_snow, .ref tw, .int (nI t_guests), .int (nI t_snows), .int t_bend, .int t_hour, .int (bB t_bendTold), .int (bB t_hourTold)]), (t_names, kJ k 6 t_namesF)] sz) := by
  refine Met.ofW (cc := cX7_numberOf) (maxL := 4) (ret := (some .int)) (by decide) rfl ?_
  intro p e s m args below meth c s₁ B hml hv
  obtain ⟨hav, hsz, hP, hK, hD0, hE⟩ := hv
  have hx := B.exec
  have hb := B.bytes
  have hr := B.returns
  have hts := atoms_spec (ws := wsX7_numberOf) B.pre
  have hown : s.vm.findClass RX7 = some m.cls := findClass_of_methodNamed B.named
  have hlocks := B.notSynchronized
  have hi7 : ∀ w ∈ u_ws RX7 TX7 13, w ∈ wsX7_numberOf := by decide +kernel
  have lf48 := hts (.fieldLink RX7 48 "LastCook$Told" "guests" "I") (by decide +kernel)
  have lf9 := hts (.fieldLink RX7 9 "LastCook$Told" "names" "[J") (by decide +kernel)
  subst hsz
  have hD := hD0.self (sz := s.heap.size)
  generalize hAe : va_A [(t, kO 7 [.ref t_names, .ref t_kinds, .ref t_yards, .ref t_paces, .ref t_skills, .ref t_snow, .ref tw, .int (nI t_guests), .int (nI t_snows), .int t_bend, .int t_hour, .int (bB t_bendTold), .int (bB t_hourTold)]), (t_names, kJ k 6 t_namesF)] s.heap.size = A at hD ⊢
  have hA : ∀ q : Nat, s.heap.size ≤ q → A q := fun q h => by rw [← hAe]; exact Or.inr h
  have hS : va_S A s.heap s.heap [] := va_S.rf
  have hl := lv_entry ([.ref t, .long y_]) (n := 4) (Nat.le_of_ble_eq_true rfl)
  rw [show entryFrame m args 4 = entryFrame m ([.ref t, .long y_] : List Value).toArray 4 by rw [hav], lg_entry_eq]
  generalize (lg_sl ([.ref t, .long y_]) ++ List.replicate (4 - (lg_sl ([.ref t, .long y_])).length) Slot.unset).toArray = ls at hl ⊢
  have hl : lv_has ls 4 [(0, .ref t), (1, .long y_)] := hl
  obtain ⟨R, hR⟩ : ∃ R, R = (headSpec wsX7_numberOf ({ frames := 0, cells := 0, slots := 0, locals := 0 } : Room)).room := ⟨_, rfl⟩
  rw [← hR]
  generalize hQ : MQ below _ args s 0 0 A = Q
  replace hQ := hQ.symm
  obtain ⟨H, hH⟩ : ∃ H, H = s.heap := ⟨_, rfl⟩
  rw [← hH] at hP ⊢
  have hS : va_S A s.heap H [] := by rw [hH]; exact hS
  obtain ⟨E0, hE0⟩ : ∃ E0 : Int32, E0 = (fX7_numberOf y_ t_guests t_namesF) := ⟨_, rfl⟩
  have hZ : (fX7_numberOf y_ t_guests t_namesF) = E0 := hE0.symm
  refine lv_iconst (v := 0) hx hb dX7_numberOf_0 (by decide) ?_
  refine lv_istore_n (lv' := [(3, .int 0), (0, .ref t), (1, .long y_)]) hx hb dX7_numberOf_1 rfl hl (by decide) rfl (fun ls hl => ?_)
  have hloop2 : ∀ (nq : Nat) (l3_2 : Nat) (H : Heap) (locs : List Loc) (ls : Array Slot), (6 + 1 - l3_2) < nq → (l3_2 ≤ 6) → (lp (fun _ => (0 : Int32)) (fX7_numberOf_B2a y_ t_guests t_namesF) nq l3_2 = E0) → va_P D vwCl [(t, kO 7 [.ref t_names, .ref t_kinds, .ref t_yards, .ref t_paces, .ref t_skills, .ref t_snow, .ref tw, .int (nI t_guests), .int (nI t_snows), .int t_bend, .int t_hour, .int (bB t_bendTold), .int (bB t_hourTold)]), (t_names, kJ k 6 t_namesF)] H → va_D A [(t, kO 7 [.ref t_names, .ref t_kinds, .ref t_yards, .ref t_paces, .ref t_skills, .ref t_snow, .ref tw, .int (nI t_guests), .int (nI t_snows), .int t_bend, .int t_hour, .int (bB t_bendTold), .int (bB t_hourTold)]), (t_names, kJ k 6 t_namesF)] → va_S A s.heap H locs → lv_has ls 4 [(0, .ref t), (1, .long y_), (3, .int (nI l3_2))] → W p l e R s m args below meth c H locs 0 0 Q (F0 m 2 ls []) := by
    intro n2
    induction n2 with
    | zero => intro l3_2 H locs ls hm; exact absurd hm (Nat.not_lt_zero _)
    | succ n2 ih2 =>
      intro l3_2 H locs ls hm2 i_l3_2 hZ hP hD hS hl
      obtain ⟨rc2_1, hrc2_1⟩ : ∃ r : Nat → Int32, r = lp (fun _ => (0 : Int32)) (fX7_numberOf_B2a y_ t_guests t_namesF) n2 := ⟨_, rfl⟩
      have hZ : (fX7_numberOf_B2a y_ t_guests t_namesF) rc2_1 l3_2 = E0 := by rw [hrc2_1]; exact hZ
      refine lv_iload_n hx hb dX7_numberOf_2 rfl (lv_at hl 2 rfl) ?_
      refine lv_aload_n hx hb dX7_numberOf_3 rfl (lv_at hl 0 rfl) ?_
      refine va_get (D := D) (ci := 7) (v := .int (nI t_guests)) (C := RX7) (T := TX7) (N := 13) hx hb hts hi7 hown hK hP 0 rfl rfl 7 (by decide) lf48 (fun _ h9 => h9) rfl dX7_numberOf_4 ?_
      refine lv_icmp_ge (tgt := 29) hx hb dX7_numberOf_7 (by decide) (fun c_2 => ?_) (fun c_2 => ?_)
      · skip
        have k_2 : t_guests ≤ l3_2 := (nI_leI (a := t_guests) (b := l3_2) (by omega) (by omega)).mp c_2
        have hZ := (if_pos k_2).symm.trans hZ
        refine lv_iconst (v := (-1)) hx hb dX7_numberOf_29 (by decide) ?_
        rw [hQ]
        have hP9 := hP.sub (ws' := [(t, kO 7 [.ref t_names, .ref t_kinds, .ref t_yards, .ref t_paces, .ref t_skills, .ref t_snow, .ref tw, .int (nI t_guests), .int (nI t_snows), .int t_bend, .int t_hour, .int (bB t_bendTold), .int (bB t_hourTold)]), (t_names, kJ k 6 t_namesF)]) [0, 1] rfl
        have hD9 := hD.sub (ws' := [(t, kO 7 [.ref t_names, .ref t_kinds, .ref t_yards, .ref t_paces, .ref t_skills, .ref t_snow, .ref tw, .int (nI t_guests), .int (nI t_snows), .int t_bend, .int t_hour, .int (bB t_bendTold), .int (bB t_hourTold)]), (t_names, kJ k 6 t_namesF)]) [0, 1] (by decide) rfl
        exact W.iret (v := (-1)) hx hb hr (fun zt ht hW => ⟨⟨(-1), (), rfl, (hZ.trans hE0), by rw [ht]; exact hP9, hD9⟩, hS.F ht⟩) hS.2.2 dX7_numberOf_30
      · skip
        have k_2 : ¬ (t_guests ≤ l3_2) := fun h => c_2 ((nI_leI (a := t_guests) (b := l3_2) (by omega) (by omega)).mpr h)
        have hZ := (if_neg k_2).symm.trans hZ
        refine lv_aload_n hx hb dX7_numberOf_10 rfl (lv_at hl 0 rfl) ?_
        refine va_get (D := D) (ci := 7) (v := .ref t_names) (C := RX7) (T := TX7) (N := 13) hx hb hts hi7 hown hK hP 0 rfl rfl 0 (by decide) lf9 (fun _ h9 => h9) rfl dX7_numberOf_11 ?_
        refine lv_iload_n hx hb dX7_numberOf_14 rfl (lv_at hl 2 rfl) ?_
        refine va_lald hx hb hK hP 1 1 rfl rfl (vp_in_nI (n := l3_2) (by omega) (by omega)) dX7_numberOf_15 ?_
        refine lv_lload_n hx hb dX7_numberOf_16 rfl (lv_at hl 1 rfl) ?_
        refine W.lcmp hx hb dX7_numberOf_17 ?_
        refine lv_if_ne (tgt := 23) hx hb dX7_numberOf_18 (by decide) (fun c_3 => ?_) (fun c_3 => ?_)
        · skip
          have hZ := (if_neg c_3).symm.trans hZ
          refine lv_iinc (v := (nI (l3_2 + 1))) (lv' := [(3, .int (nI (l3_2 + 1))), (0, .ref t), (1, .long y_)]) hx hb dX7_numberOf_23 hl (k := 2) rfl (nI_1 _) (by decide) rfl (fun ls hl => ?_)
          refine lv_goto (tgt := 2) hx hb dX7_numberOf_26 (by decide) ?_
          exact ih2 (l3_2 + 1) _ _ _ (by omega) (by first | omega | assumption) (by rw [← hrc2_1]; exact hZ) (hP.sub [0, 1] rfl) (hD.sub [0, 1] (by decide) rfl) hS (lv_sub hl [1, 2, 0] rfl)
        · skip
          have hZ := (if_pos c_3).symm.trans hZ
          refine lv_iload_n hx hb dX7_numberOf_21 rfl (lv_at hl 2 rfl) ?_
          rw [hQ]
          have hP9 := hP.sub (ws' := [(t, kO 7 [.ref t_names, .ref t_kinds, .ref t_yards, .ref t_paces, .ref t_skills, .ref t_snow, .ref tw, .int (nI t_guests), .int (nI t_snows), .int t_bend, .int t_hour, .int (bB t_bendTold), .int (bB t_hourTold)]), (t_names, kJ k 6 t_namesF)]) [0, 1] rfl
          have hD9 := hD.sub (ws' := [(t, kO 7 [.ref t_names, .ref t_kinds, .ref t_yards, .ref t_paces, .ref t_skills, .ref t_snow, .ref tw, .int (nI t_guests), .int (nI t_snows), .int t_bend, .int t_hour, .int (bB t_bendTold), .int (bB t_hourTold)]), (t_names, kJ k 6 t_namesF)]) [0, 1] (by decide) rfl
          exact W.iret (v := (nI l3_2)) hx hb hr (fun zt ht hW => ⟨⟨(nI l3_2), (), rfl, (hZ.trans hE0), by rw [ht]; exact hP9, hD9⟩, hS.F ht⟩) hS.2.2 dX7_numberOf_22
  exact hloop2 ((6 + 1 - 0) + 1) 0 _ _ _ (Nat.lt_succ_self _) (by first | omega | assumption) hZ (hP.sub [0, 1] rfl) (hD.sub [0, 1] (by decide) rfl) hS (lv_sub hl [1, 2, 0] rfl)
theorem dX7_readMeasure_0 : decode cX7_readMeasure 0 = .ok (.aload_n 0, 1) := by decide +kernel
theorem dX7_readMeasure_1 : decode cX7_readMeasure 1 = .ok (.iload_n 1, 1) := by decide +kernel
theorem dX7_readMeasure_2 : decode cX7_readMeasure 2 = .ok (.invokevirtual 118, 3) := by decide +kernel
theorem dX7_readMeasure_5 : decode cX7_readMeasure 5 = .ok (.ifCond .eq 12, 3) := by decide +kernel
theorem dX7_readMeasure_8 : decode cX7_readMeasure 8 = .ok (.aload_n 0, 1) := by decide +kernel
theorem dX7_readMeasure_9 : decode cX7_readMeasure 9 = .ok (.iload_n 2, 1) := by decide +kernel
theorem dX7_readMeasure_10 : decode cX7_readMeasure 10 = .ok (.iload_n 3, 1) := by decide +kernel
theorem dX7_readMeasure_11 : decode cX7_readMeasure 11 = .ok (.invokevirtual 121, 3) := by decide +kernel
theorem dX7_readMeasure_14 : decode cX7_readMeasure 14 = .ok (.goto 4, 3) := by decide +kernel
theorem dX7_readMeasure_17 : decode cX7_readMeasure 17 = .ok (.iconst (-1), 1) := by decide +kernel
theorem dX7_readMeasure_18 : decode cX7_readMeasure 18 = .ok (.ireturn, 1) := by decide +kernel
set_option maxRecDepth 20000 in
theorem ggX7_readMeasure_X6_takeWord : GoodIn wsX7_readMeasure wsX6_takeWord := goodIn_r _ [5, 6, 7, 8, 4, 9, 10, 11, 12, 13, 14, 15, 16, 17, 18, 19, 20, 21, 22, 23, 24, 25, 26, 27, 28, 29, 30, 31, 32, 33, 34, 35, 36, 37, 38, 39, 40, 41, 42, 43, 44, 45, 46, 47, 48, 49, 50, 51, 52, 53, 54, 55, 56, 57, 58, 59, 60, 61, 62, 63, 64, 65, 66, 67, 68, 69, 70, 71, 72, 73, 74, 75, 76, 77, 78, 79, 80, 81, 82, 83, 84, 85, 86, 87, 88, 89, 90, 91, 92, 93, 94, 95, 96, 97, 98, 99, 100, 101, 102, 103, 104, 105, 106, 107, 108, 109, 110, 111, 112, 113, 114, 115, 116, 117, 118, 119, 120, 121, 122, 123, 124, 125, 126, 127, 128, 129, 130, 131, 132, 133, 145, 146, 147, 148, 149, 150, 151, 152, 153] rfl (by decide +kernel)
set_option maxRecDepth 20000 in
theorem gX7_readMeasure_X6_takeWord : GoodIn wsX7_readMeasure (wsV RX7 118 RX6 yX6_takeWord wsX6_takeWord) := goodIn_app (goodIn_of _ (by decide +kernel)) ggX7_readMeasure_X6_takeWord
set_option maxRecDepth 20000 in
theorem ggX7_readMeasure_X6_takeNumber : GoodIn wsX7_readMeasure wsX6_takeNumber := goodIn_r _ [137, 11, 138, 139, 140, 4, 141, 10, 12, 13, 14, 15, 16, 17, 142, 143, 144, 18, 19, 20, 21, 22, 23, 24, 25, 26, 27, 28, 29, 30, 31, 32, 33, 34, 35, 36, 37, 38, 39, 40, 41, 42, 43, 44, 45, 46, 47, 48, 49, 50, 51, 52, 53, 54, 55, 56, 57, 58, 59, 60, 61, 62, 63, 64, 65, 66, 67, 68, 69, 70, 71, 72, 73, 74, 75, 76, 77, 78, 79, 80, 81, 82, 83, 84, 85, 86, 87, 88, 89, 90, 91, 92, 93, 94, 95, 96, 97, 98, 99, 100, 101, 102, 103, 104, 105, 106, 107, 108, 109, 110, 111, 112, 113, 114, 115, 116, 117, 118, 119, 120, 121, 122, 123, 124, 125, 126, 127, 128, 129, 130, 131, 132, 133, 145, 146, 147, 148, 149, 150, 151, 152, 153] rfl (by decide +kernel)
set_option maxRecDepth 20000 in
theorem gX7_readMeasure_X6_takeNumber : GoodIn wsX7_readMeasure (wsV RX7 121 RX6 yX6_takeNumber wsX6_takeNumber) := goodIn_app (goodIn_of _ (by decide +kernel)) ggX7_readMeasure_X6_takeNumber
set_option maxHeartbeats 4000000 in
set_option maxRecDepth 100000 in
theorem sX7_readMeasure (l : Launch) (D : va_G) (k : Nat → ClassId) (a0 sa sv : Nat) (f : Nat → Int32) (sz : Nat) (ta : Nat) (x : Int32) (lo : Int32) (hi : Int32) (ta_signs : Nat) (ta_words : Nat) (ta_length : Nat) (ta_next : Nat) (ta_place : Int32) (ta_kind : Int32) (ta_value : Int32) (ta_letters : Int64) (ta_fault : Int32) (ta_signsF : Nat → Int32) (ta_wordsF : Nat → Int64) (h_ta_length : ta_length ≤ 1000) (h_ta_next : ta_next ≤ 1000) : Met l yX7_readMeasure wsX7_readMeasure ({ frames := 6, cells := 0, slots := 0, locals := 420 }) (va_Pc [.ref ta, .int x, .int lo, .int hi] (kz_PreY D k [(ta, kO 6 [.ref ta_signs, .ref ta_words, .int (nI ta_length), .int (nI ta_next), .int ta_place, .int ta_kind, .int ta_value, .long ta_letters, .int ta_fault]), (ta_signs, kB k 1000 ta_signsF), (ta_words, kJ k 23 ta_wordsF)] a0 sa sv f sz)) (va_Qi (fun (rr : Int32) (uu : Nat × Int32 × Int32 × Int32 × Int64 × Int32) => (uu.1 ≤ 1000) ∧ ((uu.1, uu.2.1, uu.2.2.1, uu.2.2.2.1, uu.2.2.2.2.1, uu.2.2.2.2.2, rr) = (fX7_readMeasure x lo hi ta_length ta_next ta_place ta_kind ta_value ta_letters ta_fault ta_signsF ta_wordsF f))) (fun uu zt => kz_B D (va_A [(ta, kO 6 [.ref ta_signs, .ref ta_words, .int (nI ta_length), .int (nI ta_next), .int ta_place, .int ta_kind, .int ta_value, .long ta_letters, .int ta_fault]), (ta_signs, kB k 1000 ta_signsF), (ta_words, kJ k 23 ta_wordsF)] sz) [(ta, kO 6 [.ref ta_signs, .ref ta_words, .int (nI ta_length), .int (nI uu.1), .int uu.2.1, .int uu.2.2.1, .int uu.2.2.2.1, .long uu.2.2.2.2.1, .int uu.2.2.2.2.2]), (ta_signs, kB k 1000 ta_signsF), (ta_words, kJ k 23 ta_wordsF)] zt) (va_A [(ta, kO 6 [.ref ta_signs, .ref ta_words, .int (nI ta_length), .int (nI ta_next), .int ta_place, .int ta_kind, .int ta_value, .long ta_letters, .int ta_fault]), (ta_signs, kB k 1000 ta_signsF), (ta_words, kJ k 23 ta_wordsF)] sz)) 0 0 (va_A [(ta, kO 6 [.ref ta_signs, .ref ta_words, .int (nI ta_length), .int (nI ta_next), .int ta_place, .int ta_kind, .int ta_value, .long ta_letters, .int ta_fault]), (ta_signs, kB k 1000 ta_signsF), (ta_words, kJ k 23 ta_wordsF)] sz) := by
  refine Met.ofW (cc := cX7_readMeasure) (maxL := 4) (ret := (some .int)) (by decide) rfl ?_
  intro p e s m args below meth c s₁ B hml hv
  obtain ⟨hav, ⟨hsz, hP, hK, hD0, hE⟩, ha0, hDa, hX⟩ := hv
  have hx := B.exec
  have hb := B.bytes
  have hr := B.returns
  have hts := atoms_spec (ws := wsX7_readMeasure) B.pre
  have hown : s.vm.findClass RX7 = some m.cls := findClass_of_methodNamed B.named
  have hlocks := B.notSynchronized
  subst hsz
  have hD := hD0.self (sz := s.heap.size)
  generalize hAe : va_A [(ta, kO 6 [.ref ta_signs, .ref ta_words, .int (nI ta_length), .int (nI ta_next), .int ta_place, .int ta_kind, .int ta_value, .long ta_letters, .int ta_fault]), (ta_signs, kB k 1000 ta_signsF), (ta_words, kJ k 23 ta_wordsF)] s.heap.size = A at hD ⊢
  have hA : ∀ q : Nat, s.heap.size ≤ q → A q := fun q h => by rw [← hAe]; exact Or.inr h
  have hAX : ∀ q, A q → a0 ≤ q := fun q h => by rw [← hAe] at h; exact h.elim (fun ⟨k9, e9, h9⟩ => hDa.2 k9 _ h9) (fun e => Nat.le_trans ha0 e)
  obtain ⟨tx71, hR71⟩ := hX.1
  have hS : va_S A s.heap s.heap [] := va_S.rf
  have hl := lv_entry ([.ref ta, .int x, .int lo, .int hi]) (n := 4) (Nat.le_of_ble_eq_true rfl)
  rw [show entryFrame m args 4 = entryFrame m ([.ref ta, .int x, .int lo, .int hi] : List Value).toArray 4 by rw [hav], lg_entry_eq]
  generalize (lg_sl ([.ref ta, .int x, .int lo, .int hi]) ++ List.replicate (4 - (lg_sl ([.ref ta, .int x, .int lo, .int hi])).length) Slot.unset).toArray = ls at hl ⊢
  have hl : lv_has ls 4 [(0, .ref ta), (1, .int x), (2, .int lo), (3, .int hi)] := hl
  obtain ⟨R, hR⟩ : ∃ R, R = (headSpec wsX7_readMeasure ({ frames := 6, cells := 0, slots := 0, locals := 420 } : Room)).room := ⟨_, rfl⟩
  rw [← hR]
  generalize hQ : MQ below _ args s 0 0 A = Q
  replace hQ := hQ.symm
  obtain ⟨H, hH⟩ : ∃ H, H = s.heap := ⟨_, rfl⟩
  rw [← hH] at hP ⊢
  have hS : va_S A s.heap H [] := by rw [hH]; exact hS
  obtain ⟨E0, hE0⟩ : ∃ E0 : Nat × Int32 × Int32 × Int32 × Int64 × Int32 × Int32, E0 = (fX7_readMeasure x lo hi ta_length ta_next ta_place ta_kind ta_value ta_letters ta_fault ta_signsF ta_wordsF f) := ⟨_, rfl⟩
  have hZ : (fX7_readMeasure x lo hi ta_length ta_next ta_place ta_kind ta_value ta_letters ta_fault ta_signsF ta_wordsF f) = E0 := hE0.symm
  refine lv_aload_n hx hb dX7_readMeasure_0 rfl (lv_at hl 0 rfl) ?_
  refine lv_iload_n hx hb dX7_readMeasure_1 rfl (lv_at hl 1 rfl) ?_
  refine kz_ViY (As := [.int x]) (rest := []) (wc := [(ta, kO 6 [.ref ta_signs, .ref ta_words, .int (nI ta_length), .int (nI ta_next), .int ta_place, .int ta_kind, .int ta_value, .long ta_letters, .int ta_fault]), (ta_signs, kB k 1000 ta_signsF), (ta_words, kJ k 23 ta_wordsF)]) (wr := []) ⟨hx, hb, hml, hown, hts⟩ hX hAX ha0 hK hE hP hD hS hA (sX6_takeWord l D k a0 sa sv f H.size ta x ta_signs ta_words ta_length ta_next ta_place ta_kind ta_value ta_letters ta_fault ta_signsF ta_wordsF (by first | omega | assumption | decide) (by first | omega | assumption | decide)) (cwV 1 hts gX7_readMeasure_X6_takeWord rfl rfl rfl (by decide +kernel) (by rw [hR]; exact ⟨Nat.le_of_ble_eq_true rfl, Nat.le_of_ble_eq_true rfl⟩)) [0, 1, 2] [] rfl rfl (by decide) (by decide) (by decide) 0 rfl rfl rfl hl.1 rfl (Nat.le_of_ble_eq_true rfl) dX7_readMeasure_2 (by rw [hR]; exact ⟨Nat.le_of_ble_eq_true rfl, Nat.le_of_ble_eq_true rfl⟩) (fun r1 u1 H locs hw1 hP hD hS => ?_)
  obtain ⟨u_ta_31, u_ta_41, u_ta_51, u_ta_61, u_ta_71, u_ta_81, ub1⟩ := u1
  try dsimp only at hw1
  obtain ⟨rfl, hw1⟩ := hw1
  have hP : va_P D vwCl [(ta, kO 6 [.ref ta_signs, .ref ta_words, .int (nI ta_length), .int (nI u_ta_31), .int u_ta_41, .int u_ta_51, .int u_ta_61, .long u_ta_71, .int u_ta_81]), (ta_signs, kB k 1000 ta_signsF), (ta_words, kJ k 23 ta_wordsF)] H := hP
  have hD : va_D A [(ta, kO 6 [.ref ta_signs, .ref ta_words, .int (nI ta_length), .int (nI u_ta_31), .int u_ta_41, .int u_ta_51, .int u_ta_61, .long u_ta_71, .int u_ta_81]), (ta_signs, kB k 1000 ta_signsF), (ta_words, kJ k 23 ta_wordsF)] := hD
  obtain ⟨hw1_0, hw1_1⟩ := hw1
  have hZ := bn7_e hw1_1 hZ
  have hj18_2 : ∀ (s0_18 : Int32) (fta_3_18 : Nat) (fta_4_18 : Int32) (fta_5_18 : Int32) (fta_6_18 : Int32) (fta_7_18 : Int64) (fta_8_18 : Int32) (H : Heap) (locs : List Loc) (ls : Array Slot), (fta_3_18 ≤ 1000) → (fX7_readMeasure_J18a s0_18 fta_3_18 fta_4_18 fta_5_18 fta_6_18 fta_7_18 fta_8_18 = E0) → va_P D vwCl [(ta, kO 6 [.ref ta_signs, .ref ta_words, .int (nI ta_length), .int (nI fta_3_18), .int fta_4_18, .int fta_5_18, .int fta_6_18, .long fta_7_18, .int fta_8_18]), (ta_signs, kB k 1000 ta_signsF), (ta_words, kJ k 23 ta_wordsF)] H → va_D A [(ta, kO 6 [.ref ta_signs, .ref ta_words, .int (nI ta_length), .int (nI fta_3_18), .int fta_4_18, .int fta_5_18, .int fta_6_18, .long fta_7_18, .int fta_8_18]), (ta_signs, kB k 1000 ta_signsF), (ta_words, kJ k 23 ta_wordsF)] → va_S A s.heap H locs → lv_has ls 4 [(0, .ref ta), (1, .int x), (2, .int lo), (3, .int hi)] → W p l e R s m args below meth c H locs 0 0 Q (F0 m 18 ls [.int s0_18]) := by
    intro s0_18 fta_3_18 fta_4_18 fta_5_18 fta_6_18 fta_7_18 fta_8_18 H locs ls i_fta_3_18 hZ hP hD hS hl
    rw [hQ]
    have hP9 := hP.sub (ws' := [(ta, kO 6 [.ref ta_signs, .ref ta_words, .int (nI ta_length), .int (nI fta_3_18), .int fta_4_18, .int fta_5_18, .int fta_6_18, .long fta_7_18, .int fta_8_18]), (ta_signs, kB k 1000 ta_signsF), (ta_words, kJ k 23 ta_wordsF)]) [0, 1, 2] rfl
    have hD9 := hD.sub (ws' := [(ta, kO 6 [.ref ta_signs, .ref ta_words, .int (nI ta_length), .int (nI fta_3_18), .int fta_4_18, .int fta_5_18, .int fta_6_18, .long fta_7_18, .int fta_8_18]), (ta_signs, kB k 1000 ta_signsF), (ta_words, kJ k 23 ta_wordsF)]) [0, 1, 2] (by decide) rfl
    exact W.iret (v := s0_18) hx hb hr (fun zt ht hW => ⟨⟨s0_18, ⟨fta_3_18, fta_4_18, fta_5_18, fta_6_18, fta_7_18, fta_8_18⟩, rfl, ⟨(by first | omega | (dsimp only; omega) | assumption), (hZ.trans hE0)⟩, by rw [ht]; exact hP9, hD9⟩, hS.F ht⟩) hS.2.2 dX7_readMeasure_18
  refine lv_if_eq (tgt := 17) hx hb dX7_readMeasure_5 (by decide) (fun c_3 => ?_) (fun c_3 => ?_)
  · skip
    have b_3 : ub1 = false := bB_0 c_3
    have hZ := (if_neg (bF b_3)).symm.trans hZ
    refine lv_iconst (v := (-1)) hx hb dX7_readMeasure_17 (by decide) ?_
    exact hj18_2 ((-1) : Int32) u_ta_31 u_ta_41 u_ta_51 u_ta_61 u_ta_71 u_ta_81 _ _ _ (by first | omega | assumption) hZ (hP.sub [0, 1, 2] rfl) (hD.sub [0, 1, 2] (by decide) rfl) hS (lv_sub hl [0, 1, 2, 3] rfl)
  · skip
    have b_3 : ub1 = true := bB_1 c_3
    have hZ := (if_pos b_3).symm.trans hZ
    refine lv_aload_n hx hb dX7_readMeasure_8 rfl (lv_at hl 0 rfl) ?_
    refine lv_iload_n hx hb dX7_readMeasure_9 rfl (lv_at hl 2 rfl) ?_
    refine lv_iload_n hx hb dX7_readMeasure_10 rfl (lv_at hl 3 rfl) ?_
    refine kz_ViY (As := [.int lo, .int hi]) (rest := []) (wc := [(ta, kO 6 [.ref ta_signs, .ref ta_words, .int (nI ta_length), .int (nI u_ta_31), .int u_ta_41, .int u_ta_51, .int u_ta_61, .long u_ta_71, .int u_ta_81]), (ta_signs, kB k 1000 ta_signsF), (ta_words, kJ k 23 ta_wordsF)]) (wr := []) ⟨hx, hb, hml, hown, hts⟩ hX hAX ha0 hK hE hP hD hS hA (sX6_takeNumber l D k a0 sa sv f H.size ta lo hi ta_signs ta_words ta_length u_ta_31 u_ta_41 u_ta_51 u_ta_61 u_ta_71 u_ta_81 ta_signsF ta_wordsF (by first | omega | assumption | decide) (by first | omega | assumption | decide)) (cwV 2 hts gX7_readMeasure_X6_takeNumber rfl rfl rfl (by decide +kernel) (by rw [hR]; exact ⟨Nat.le_of_ble_eq_true rfl, Nat.le_of_ble_eq_true rfl⟩)) [0, 1, 2] [] rfl rfl (by decide) (by decide) (by decide) 0 rfl rfl rfl hl.1 rfl (Nat.le_of_ble_eq_true rfl) dX7_readMeasure_11 (by rw [hR]; exact ⟨Nat.le_of_ble_eq_true rfl, Nat.le_of_ble_eq_true rfl⟩) (fun r4 u4 H locs hw4 hP hD hS => ?_)
    obtain ⟨u_ta_34, u_ta_44, u_ta_54, u_ta_64, u_ta_74, u_ta_84⟩ := u4
    try dsimp only at hw4
    have hP : va_P D vwCl [(ta, kO 6 [.ref ta_signs, .ref ta_words, .int (nI ta_length), .int (nI u_ta_34), .int u_ta_44, .int u_ta_54, .int u_ta_64, .long u_ta_74, .int u_ta_84]), (ta_signs, kB k 1000 ta_signsF), (ta_words, kJ k 23 ta_wordsF)] H := hP
    have hD : va_D A [(ta, kO 6 [.ref ta_signs, .ref ta_words, .int (nI ta_length), .int (nI u_ta_34), .int u_ta_44, .int u_ta_54, .int u_ta_64, .long u_ta_74, .int u_ta_84]), (ta_signs, kB k 1000 ta_signsF), (ta_words, kJ k 23 ta_wordsF)] := hD
    obtain ⟨hw4_0, hw4_1⟩ := hw4
    have hZ := bn7_e hw4_1 hZ
    refine lv_goto (tgt := 18) hx hb dX7_readMeasure_14 (by decide) ?_
    exact hj18_2 r4 u_ta_34 u_ta_44 u_ta_54 u_ta_64 u_ta_74 u_ta_84 _ _ _ (by first | omega | assumption) hZ (hP.sub [0, 1, 2] rfl) (hD.sub [0, 1, 2] (by decide) rfl) hS (lv_sub hl [0, 1, 2, 3] rfl)
