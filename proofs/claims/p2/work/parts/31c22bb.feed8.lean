set_option maxHeartbeats 4000000 in
set_option maxRecDepth 100000 in
theorem eX8_feed (l : Launch) (D : va_G) (k : Nat → ClassId) (sz : Nat) (x : Nat) (b1 : Int64) (b2 : Int64) (b3 : Int64) (ta : Nat) (t : Nat) (dr : Nat) (n : Nat) (nd : Nat) (d : Nat) (v : Nat) (z : Nat) (pa : Nat) (x_marks : Nat) (x_drawn : Int64) (ta_signs : Nat) (ta_words : Nat) (ta_length : Nat) (ta_next : Nat) (ta_place : Int32) (ta_kind : Int32) (ta_value : Int32) (ta_letters : Int64) (ta_fault : Int32) (ta_signsF : Nat → Int32) (h_ta_length : ta_length ≤ 1000) (h_ta_next : ta_next ≤ 1000) : Met l yX8_feed wsX8_feed ({ frames := 1, cells := 0, slots := 0, locals := 70 }) (va_Pc [.ref x, .long b1, .long b2, .long b3] (kz_Pre D k [(x, kO 8 [.ref ta, .ref t, .ref dr, .ref n, .ref nd, .ref d, .ref v, .ref z, .ref pa, .ref x_marks, .long x_drawn]), (ta, kO 6 [.ref ta_signs, .ref ta_words, .int (nI ta_length), .int (nI ta_next), .int ta_place, .int ta_kind, .int ta_value, .long ta_letters, .int ta_fault]), (ta_signs, kB k 1000 ta_signsF)] sz)) (va_Qi (fun (rr : Int32) (uu : Nat × (Nat → Int32)) => rr = nI (putN b3 8 (putN b2 8 (putN b1 8 ta_length))) ∧ (uu.1 ≤ 1000) ∧ (uu.1 = putN b3 8 (putN b2 8 (putN b1 8 ta_length)))) (fun uu zt => kz_B D (va_A [(x, kO 8 [.ref ta, .ref t, .ref dr, .ref n, .ref nd, .ref d, .ref v, .ref z, .ref pa, .ref x_marks, .long x_drawn]), (ta, kO 6 [.ref ta_signs, .ref ta_words, .int (nI ta_length), .int (nI ta_next), .int ta_place, .int ta_kind, .int ta_value, .long ta_letters, .int ta_fault]), (ta_signs, kB k 1000 ta_signsF)] sz) [(x, kO 8 [.ref ta, .ref t, .ref dr, .ref n, .ref nd, .ref d, .ref v, .ref z, .ref pa, .ref x_marks, .long x_drawn]), (ta, kO 6 [.ref ta_signs, .ref ta_words, .int (nI uu.1), .int (nI ta_next), .int ta_place, .int ta_kind, .int ta_value, .long ta_letters, .int ta_fault]), (ta_signs, kB k 1000 uu.2)] zt) (va_A [(x, kO 8 [.ref ta, .ref t, .ref dr, .ref n, .ref nd, .ref d, .ref v, .ref z, .ref pa, .ref x_marks, .long x_drawn]), (ta, kO 6 [.ref ta_signs, .ref ta_words, .int (nI ta_length), .int (nI ta_next), .int ta_place, .int ta_kind, .int ta_value, .long ta_letters, .int ta_fault]), (ta_signs, kB k 1000 ta_signsF)] sz)) 0 0 (va_A [(x, kO 8 [.ref ta, .ref t, .ref dr, .ref n, .ref nd, .ref d, .ref v, .ref z, .ref pa, .ref x_marks, .long x_drawn]), (ta, kO 6 [.ref ta_signs, .ref ta_words, .int (nI ta_length), .int (nI ta_next), .int ta_place, .int ta_kind, .int ta_value, .long ta_letters, .int ta_fault]), (ta_signs, kB k 1000 ta_signsF)] sz) := by
  refine Met.ofW (cc := cX8_feed) (maxL := 7) (ret := (some .int)) (by decide) rfl ?_
  intro p e s m args below meth c s₁ B hml hv
  obtain ⟨hav, hsz, hP, hK, hD0, hE⟩ := hv
  have hx := B.exec
  have hb := B.bytes
  have hr := B.returns
  have hts := atoms_spec (ws := wsX8_feed) B.pre
  have hown : s.vm.findClass RX8 = some m.cls := findClass_of_methodNamed B.named
  have hlocks := B.notSynchronized
  have hi6 : ∀ w ∈ u_ws RX6 TX6 9, w ∈ wsX8_feed := by decide +kernel
  have hi8 : ∀ w ∈ u_ws RX8 TX8 11, w ∈ wsX8_feed := by decide +kernel
  have lf10 := hts (.fieldLink RX8 10 "LastCook" "tape" "LLastCook$Tape;") (by decide +kernel)
  have lf71 := hts (.fieldLink RX8 71 "LastCook$Tape" "length" "I") (by decide +kernel)
  subst hsz
  have hD := hD0.self (sz := s.heap.size)
  generalize hAe : va_A [(x, kO 8 [.ref ta, .ref t, .ref dr, .ref n, .ref nd, .ref d, .ref v, .ref z, .ref pa, .ref x_marks, .long x_drawn]), (ta, kO 6 [.ref ta_signs, .ref ta_words, .int (nI ta_length), .int (nI ta_next), .int ta_place, .int ta_kind, .int ta_value, .long ta_letters, .int ta_fault]), (ta_signs, kB k 1000 ta_signsF)] s.heap.size = A at hD ⊢
  have hA : ∀ q : Nat, s.heap.size ≤ q → A q := fun q h => by rw [← hAe]; exact Or.inr h
  have hS : va_S A s.heap s.heap [] := va_S.rf
  have hl := lv_entry ([.ref x, .long b1, .long b2, .long b3]) (n := 7) (Nat.le_of_ble_eq_true rfl)
  rw [show entryFrame m args 7 = entryFrame m ([.ref x, .long b1, .long b2, .long b3] : List Value).toArray 7 by rw [hav], lg_entry_eq]
  generalize (lg_sl ([.ref x, .long b1, .long b2, .long b3]) ++ List.replicate (7 - (lg_sl ([.ref x, .long b1, .long b2, .long b3])).length) Slot.unset).toArray = ls at hl ⊢
  have hl : lv_has ls 7 [(0, .ref x), (1, .long b1), (3, .long b2), (5, .long b3)] := hl
  obtain ⟨R, hR⟩ : ∃ R, R = (headSpec wsX8_feed ({ frames := 1, cells := 0, slots := 0, locals := 70 } : Room)).room := ⟨_, rfl⟩
  rw [← hR]
  generalize hQ : MQ below _ args s 0 0 A = Q
  replace hQ := hQ.symm
  obtain ⟨H, hH⟩ : ∃ H, H = s.heap := ⟨_, rfl⟩
  rw [← hH] at hP ⊢
  have hS : va_S A s.heap H [] := by rw [hH]; exact hS
  refine lv_aload_n hx hb dX8_feed_0 rfl (lv_at hl 0 rfl) ?_
  refine va_get (D := D) (ci := 8) (v := .ref ta) (C := RX8) (T := TX8) (N := 11) hx hb hts hi8 hown hK hP 0 rfl rfl 0 (by decide) lf10 (fun _ h9 => h9) rfl dX8_feed_1 ?_
  refine lv_lload_n hx hb dX8_feed_4 rfl (lv_at hl 1 rfl) ?_
  refine kz_Vv (As := [.long b1]) (rest := []) (wc := [(ta, kO 6 [.ref ta_signs, .ref ta_words, .int (nI ta_length), .int (nI ta_next), .int ta_place, .int ta_kind, .int ta_value, .long ta_letters, .int ta_fault]), (ta_signs, kB k 1000 ta_signsF)]) (wr := [(x, kO 8 [.ref ta, .ref t, .ref dr, .ref n, .ref nd, .ref d, .ref v, .ref z, .ref pa, .ref x_marks, .long x_drawn])]) ⟨hx, hb, hml, hown, hts⟩ hK hE hP hD hS hA (eX6_put l D k H.size ta b1 ta_signs ta_words ta_length ta_next ta_place ta_kind ta_value ta_letters ta_fault ta_signsF (by first | omega | assumption | decide) (by first | omega | assumption | decide)) (cwV 1 hts gX8_feed_X6_put rfl rfl rfl (by decide +kernel) (by rw [hR]; exact ⟨Nat.le_of_ble_eq_true rfl, Nat.le_of_ble_eq_true rfl⟩)) [1, 2] [0] rfl rfl (by decide) (by decide) (by decide) 0 rfl rfl rfl hl.1 rfl (Nat.le_of_ble_eq_true rfl) dX8_feed_5 (by rw [hR]; exact ⟨Nat.le_of_ble_eq_true rfl, Nat.le_of_ble_eq_true rfl⟩) (fun u1 H locs hw1 hP hD hS => ?_)
  obtain ⟨u_ta_21, u_ta_signs1⟩ := u1
  try dsimp only at hw1
  have hP : va_P D vwCl [(x, kO 8 [.ref ta, .ref t, .ref dr, .ref n, .ref nd, .ref d, .ref v, .ref z, .ref pa, .ref x_marks, .long x_drawn]), (ta, kO 6 [.ref ta_signs, .ref ta_words, .int (nI u_ta_21), .int (nI ta_next), .int ta_place, .int ta_kind, .int ta_value, .long ta_letters, .int ta_fault]), (ta_signs, kB k 1000 u_ta_signs1)] H := hP
  have hD : va_D A [(x, kO 8 [.ref ta, .ref t, .ref dr, .ref n, .ref nd, .ref d, .ref v, .ref z, .ref pa, .ref x_marks, .long x_drawn]), (ta, kO 6 [.ref ta_signs, .ref ta_words, .int (nI u_ta_21), .int (nI ta_next), .int ta_place, .int ta_kind, .int ta_value, .long ta_letters, .int ta_fault]), (ta_signs, kB k 1000 u_ta_signs1)] := hD
  obtain ⟨hw1_0, hw1_1⟩ := hw1
  refine lv_aload_n hx hb dX8_feed_8 rfl (lv_at hl 0 rfl) ?_
  refine va_get (D := D) (ci := 8) (v := .ref ta) (C := RX8) (T := TX8) (N := 11) hx hb hts hi8 hown hK hP 0 rfl rfl 0 (by decide) lf10 (fun _ h9 => h9) rfl dX8_feed_9 ?_
  refine lv_lload_n hx hb dX8_feed_12 rfl (lv_at hl 2 rfl) ?_
  refine kz_Vv (As := [.long b2]) (rest := []) (wc := [(ta, kO 6 [.ref ta_signs, .ref ta_words, .int (nI u_ta_21), .int (nI ta_next), .int ta_place, .int ta_kind, .int ta_value, .long ta_letters, .int ta_fault]), (ta_signs, kB k 1000 u_ta_signs1)]) (wr := [(x, kO 8 [.ref ta, .ref t, .ref dr, .ref n, .ref nd, .ref d, .ref v, .ref z, .ref pa, .ref x_marks, .long x_drawn])]) ⟨hx, hb, hml, hown, hts⟩ hK hE hP hD hS hA (eX6_put l D k H.size ta b2 ta_signs ta_words u_ta_21 ta_next ta_place ta_kind ta_value ta_letters ta_fault u_ta_signs1 (by first | omega | assumption | decide) (by first | omega | assumption | decide)) (cwV 1 hts gX8_feed_X6_put rfl rfl rfl (by decide +kernel) (by rw [hR]; exact ⟨Nat.le_of_ble_eq_true rfl, Nat.le_of_ble_eq_true rfl⟩)) [1, 2] [0] rfl rfl (by decide) (by decide) (by decide) 0 rfl rfl rfl hl.1 rfl (Nat.le_of_ble_eq_true rfl) dX8_feed_13 (by rw [hR]; exact ⟨Nat.le_of_ble_eq_true rfl, Nat.le_of_ble_eq_true rfl⟩) (fun u2 H locs hw2 hP hD hS => ?_)
  obtain ⟨u_ta_22, u_ta_signs2⟩ := u2
  try dsimp only at hw2
  have hP : va_P D vwCl [(x, kO 8 [.ref ta, .ref t, .ref dr, .ref n, .ref nd, .ref d, .ref v, .ref z, .ref pa, .ref x_marks, .long x_drawn]), (ta, kO 6 [.ref ta_signs, .ref ta_words, .int (nI u_ta_22), .int (nI ta_next), .int ta_place, .int ta_kind, .int ta_value, .long ta_letters, .int ta_fault]), (ta_signs, kB k 1000 u_ta_signs2)] H := hP
  have hD : va_D A [(x, kO 8 [.ref ta, .ref t, .ref dr, .ref n, .ref nd, .ref d, .ref v, .ref z, .ref pa, .ref x_marks, .long x_drawn]), (ta, kO 6 [.ref ta_signs, .ref ta_words, .int (nI u_ta_22), .int (nI ta_next), .int ta_place, .int ta_kind, .int ta_value, .long ta_letters, .int ta_fault]), (ta_signs, kB k 1000 u_ta_signs2)] := hD
  obtain ⟨hw2_0, hw2_1⟩ := hw2
  refine lv_aload_n hx hb dX8_feed_16 rfl (lv_at hl 0 rfl) ?_
  refine va_get (D := D) (ci := 8) (v := .ref ta) (C := RX8) (T := TX8) (N := 11) hx hb hts hi8 hown hK hP 0 rfl rfl 0 (by decide) lf10 (fun _ h9 => h9) rfl dX8_feed_17 ?_
  refine lv_lload hx hb dX8_feed_20 (lv_at hl 3 rfl) ?_
  refine kz_Vv (As := [.long b3]) (rest := []) (wc := [(ta, kO 6 [.ref ta_signs, .ref ta_words, .int (nI u_ta_22), .int (nI ta_next), .int ta_place, .int ta_kind, .int ta_value, .long ta_letters, .int ta_fault]), (ta_signs, kB k 1000 u_ta_signs2)]) (wr := [(x, kO 8 [.ref ta, .ref t, .ref dr, .ref n, .ref nd, .ref d, .ref v, .ref z, .ref pa, .ref x_marks, .long x_drawn])]) ⟨hx, hb, hml, hown, hts⟩ hK hE hP hD hS hA (eX6_put l D k H.size ta b3 ta_signs ta_words u_ta_22 ta_next ta_place ta_kind ta_value ta_letters ta_fault u_ta_signs2 (by first | omega | assumption | decide) (by first | omega | assumption | decide)) (cwV 1 hts gX8_feed_X6_put rfl rfl rfl (by decide +kernel) (by rw [hR]; exact ⟨Nat.le_of_ble_eq_true rfl, Nat.le_of_ble_eq_true rfl⟩)) [1, 2] [0] rfl rfl (by decide) (by decide) (by decide) 0 rfl rfl rfl hl.1 rfl (Nat.le_of_ble_eq_true rfl) dX8_feed_22 (by rw [hR]; exact ⟨Nat.le_of_ble_eq_true rfl, Nat.le_of_ble_eq_true rfl⟩) (fun u3 H locs hw3 hP hD hS => ?_)
  obtain ⟨u_ta_23, u_ta_signs3⟩ := u3
  try dsimp only at hw3
  have hP : va_P D vwCl [(x, kO 8 [.ref ta, .ref t, .ref dr, .ref n, .ref nd, .ref d, .ref v, .ref z, .ref pa, .ref x_marks, .long x_drawn]), (ta, kO 6 [.ref ta_signs, .ref ta_words, .int (nI u_ta_23), .int (nI ta_next), .int ta_place, .int ta_kind, .int ta_value, .long ta_letters, .int ta_fault]), (ta_signs, kB k 1000 u_ta_signs3)] H := hP
  have hD : va_D A [(x, kO 8 [.ref ta, .ref t, .ref dr, .ref n, .ref nd, .ref d, .ref v, .ref z, .ref pa, .ref x_marks, .long x_drawn]), (ta, kO 6 [.ref ta_signs, .ref ta_words, .int (nI u_ta_23), .int (nI ta_next), .int ta_place, .int ta_kind, .int ta_value, .long ta_letters, .int ta_fault]), (ta_signs, kB k 1000 u_ta_signs3)] := hD
  obtain ⟨hw3_0, hw3_1⟩ := hw3
  refine lv_aload_n hx hb dX8_feed_25 rfl (lv_at hl 0 rfl) ?_
  refine va_get (D := D) (ci := 8) (v := .ref ta) (C := RX8) (T := TX8) (N := 11) hx hb hts hi8 hown hK hP 0 rfl rfl 0 (by decide) lf10 (fun _ h9 => h9) rfl dX8_feed_26 ?_
  refine va_get (D := D) (ci := 6) (v := .int (nI u_ta_23)) (C := RX6) (T := TX6) (N := 9) hx hb hts hi6 hown hK hP 1 rfl rfl 2 (by decide) lf71 (fun _ h9 => h9) rfl dX8_feed_29 ?_
  rw [hQ]
  have hP9 := hP.sub (ws' := [(x, kO 8 [.ref ta, .ref t, .ref dr, .ref n, .ref nd, .ref d, .ref v, .ref z, .ref pa, .ref x_marks, .long x_drawn]), (ta, kO 6 [.ref ta_signs, .ref ta_words, .int (nI u_ta_23), .int (nI ta_next), .int ta_place, .int ta_kind, .int ta_value, .long ta_letters, .int ta_fault]), (ta_signs, kB k 1000 u_ta_signs3)]) [0, 1, 2] rfl
  have hD9 := hD.sub (ws' := [(x, kO 8 [.ref ta, .ref t, .ref dr, .ref n, .ref nd, .ref d, .ref v, .ref z, .ref pa, .ref x_marks, .long x_drawn]), (ta, kO 6 [.ref ta_signs, .ref ta_words, .int (nI u_ta_23), .int (nI ta_next), .int ta_place, .int ta_kind, .int ta_value, .long ta_letters, .int ta_fault]), (ta_signs, kB k 1000 u_ta_signs3)]) [0, 1, 2] (by decide) rfl
  exact W.iret (v := (nI u_ta_23)) hx hb hr (fun zt ht hW => ⟨⟨(nI u_ta_23), ⟨u_ta_23, u_ta_signs3⟩, rfl, ⟨(congrArg nI (by subst_vars; rfl)), (by first | omega | (dsimp only; omega) | assumption), (by subst_vars; rfl)⟩, by rw [ht]; exact hP9, hD9⟩, hS.F ht⟩) hS.2.2 dX8_feed_32
