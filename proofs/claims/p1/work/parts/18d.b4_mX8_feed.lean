theorem dX8_feed_0 : decode cX8_feed 0 = .ok (.aload_n 0, 1) := by decide +kernel
theorem dX8_feed_1 : decode cX8_feed 1 = .ok (.getfield 10, 3) := by decide +kernel
theorem dX8_feed_4 : decode cX8_feed 4 = .ok (.lload_n 1, 1) := by decide +kernel
theorem dX8_feed_5 : decode cX8_feed 5 = .ok (.invokevirtual 67, 3) := by decide +kernel
theorem dX8_feed_8 : decode cX8_feed 8 = .ok (.aload_n 0, 1) := by decide +kernel
theorem dX8_feed_9 : decode cX8_feed 9 = .ok (.getfield 10, 3) := by decide +kernel
theorem dX8_feed_12 : decode cX8_feed 12 = .ok (.lload_n 3, 1) := by decide +kernel
theorem dX8_feed_13 : decode cX8_feed 13 = .ok (.invokevirtual 67, 3) := by decide +kernel
theorem dX8_feed_16 : decode cX8_feed 16 = .ok (.aload_n 0, 1) := by decide +kernel
theorem dX8_feed_17 : decode cX8_feed 17 = .ok (.getfield 10, 3) := by decide +kernel
theorem dX8_feed_20 : decode cX8_feed 20 = .ok (.lload 5, 2) := by decide +kernel
theorem dX8_feed_22 : decode cX8_feed 22 = .ok (.invokevirtual 67, 3) := by decide +kernel
theorem dX8_feed_25 : decode cX8_feed 25 = .ok (.aload_n 0, 1) := by decide +kernel
theorem dX8_feed_26 : decode cX8_feed 26 = .ok (.getfield 10, 3) := by decide +kernel
theorem dX8_feed_29 : decode cX8_feed 29 = .ok (.getfield 71, 3) := by decide +kernel
theorem dX8_feed_32 : decode cX8_feed 32 = .ok (.ireturn, 1) := by decide +kernel
set_option maxRecDepth 20000 in
theorem ggX8_feed_X6_put : GoodIn wsX8_feed wsX6_put := goodIn_r _ [7, 8, 9, 10, 22, 23, 24, 25, 26, 27, 28, 29, 30] rfl (by decide +kernel)
set_option maxRecDepth 20000 in
theorem gX8_feed_X6_put : GoodIn wsX8_feed (wsV RX8 67 RX6 yX6_put wsX6_put) := goodIn_app (goodIn_of _ (by decide +kernel)) ggX8_feed_X6_put
set_option maxHeartbeats 4000000 in
set_option maxRecDepth 100000 in
theorem mX8_feed (l : Launch) (D : va_G) (k : Nat → ClassId) (sz : Nat) (x : Nat) (q1 : Int64) (q2 : Int64) (q3 : Int64) (tp : Nat) (x_told : Value) (x_draft : Value) (x_lines : Value) (x_draftLines : Value) (x_now : Value) (x_trial : Value) (x_sights : Value) (x_past : Value) (x_marks : Value) (x_drawn : Int64) (tp0 : Nat) (tp_words : Value) (tp_next : Int32) (tp_place : Int32) (tp_kind : Int32) (tp_value : Int32) (tp_letters : Int64) (tp_fault : Int32) (f : Nat → Int32) : Met l yX8_feed wsX8_feed ({ frames := 1, cells := 0, slots := 0, locals := 70 }) (va_Pc [.ref x, .long q1, .long q2, .long q3] (kz_Pre D k [(x, kO 8 [.ref tp, x_told, x_draft, x_lines, x_draftLines, x_now, x_trial, x_sights, x_past, x_marks, .long x_drawn]), (tp, kO 6 [.ref tp0, tp_words, .int 0, .int tp_next, .int tp_place, .int tp_kind, .int tp_value, .long tp_letters, .int tp_fault]), (tp0, kB k 1000 f)] sz)) (va_Qi (fun (rr : Int32) (uu : Unit) => rr = aF q1 q2 q3) (fun uu zt => kz_B D (va_A [(x, kO 8 [.ref tp, x_told, x_draft, x_lines, x_draftLines, x_now, x_trial, x_sights, x_past, x_marks, .long x_drawn]), (tp, kO 6 [.ref tp0, tp_words, .int 0, .int tp_next, .int tp_place, .int tp_kind, .int tp_value, .long tp_letters, .int tp_fault]), (tp0, kB k 1000 f)] sz) [] zt) (va_A [(x, kO 8 [.ref tp, x_told, x_draft, x_lines, x_draftLines, x_now, x_trial, x_sights, x_past, x_marks, .long x_drawn]), (tp, kO 6 [.ref tp0, tp_words, .int 0, .int tp_next, .int tp_place, .int tp_kind, .int tp_value, .long tp_letters, .int tp_fault]), (tp0, kB k 1000 f)] sz)) 0 0 (va_A [(x, kO 8 [.ref tp, x_told, x_draft, x_lines, x_draftLines, x_now, x_trial, x_sights, x_past, x_marks, .long x_drawn]), (tp, kO 6 [.ref tp0, tp_words, .int 0, .int tp_next, .int tp_place, .int tp_kind, .int tp_value, .long tp_letters, .int tp_fault]), (tp0, kB k 1000 f)] sz) := by
  refine Met.ofW (cc := cX8_feed) (maxL := 7) (ret := (some .int)) (by decide) rfl ?_
  intro p e s m args below meth c s₁ B hml hv
  obtain ⟨hav, hsz, hP, hK, hD0, hE⟩ := hv
  have hx := B.exec
  have hb := B.bytes
  have hr := B.returns
  have hts := atoms_spec (ws := wsX8_feed) B.pre
  have hown : s.vm.findClass RX8 = some m.cls := findClass_of_methodNamed B.named
  have hlocks := B.notSynchronized
  have hi6 : ∀ w ∈ u_ws RX6 TX6 9, w ∈ wsX8_feed := by decide +kernel
  have hi8 : ∀ w ∈ u_ws RX8 TX8 11, w ∈ wsX8_feed := by decide +kernel
  have lf10 := hts (.fieldLink RX8 10 "LastCook" "tape" "LLastCook$Tape;") (by decide +kernel)
  have lf71 := hts (.fieldLink RX8 71 "LastCook$Tape" "length" "I") (by decide +kernel)
  subst hsz
  have hD := hD0.self (sz := s.heap.size)
  generalize hAe : va_A [(x, kO 8 [.ref tp, x_told, x_draft, x_lines, x_draftLines, x_now, x_trial, x_sights, x_past, x_marks, .long x_drawn]), (tp, kO 6 [.ref tp0, tp_words, .int 0, .int tp_next, .int tp_place, .int tp_kind, .int tp_value, .long tp_letters, .int tp_fault]), (tp0, kB k 1000 f)] s.heap.size = A at hD ⊢
  have hA : ∀ q : Nat, s.heap.size ≤ q → A q := fun q h => by rw [← hAe]; exact Or.inr h
  have hS : va_S A s.heap s.heap [] := va_S.rf
  have hl := lv_entry ([.ref x, .long q1, .long q2, .long q3]) (n := 7) (Nat.le_of_ble_eq_true rfl)
  rw [show entryFrame m args 7 = entryFrame m ([.ref x, .long q1, .long q2, .long q3] : List Value).toArray 7 by rw [hav], lg_entry_eq]
  generalize (lg_sl ([.ref x, .long q1, .long q2, .long q3]) ++ List.replicate (7 - (lg_sl ([.ref x, .long q1, .long q2, .long q3])).length) Slot.unset).toArray = ls at hl ⊢
  have hl : lv_has ls 7 [(0, .ref x), (1, .long q1), (3, .long q2), (5, .long q3)] := hl
  obtain ⟨R, hR⟩ : ∃ R, R = (headSpec wsX8_feed ({ frames := 1, cells := 0, slots := 0, locals := 70 } : Room)).room := ⟨_, rfl⟩
  rw [← hR]
  generalize hQ : MQ below _ args s 0 0 A = Q
  replace hQ := hQ.symm
  obtain ⟨H, hH⟩ : ∃ H, H = s.heap := ⟨_, rfl⟩
  rw [← hH] at hP ⊢
  have hS : va_S A s.heap H [] := by rw [hH]; exact hS
  refine lv_aload_n hx hb dX8_feed_0 rfl (lv_at hl 0 rfl) ?_
  refine va_get (D := D) (ci := 8) (v := .ref tp) (C := RX8) (T := TX8) (N := 11) hx hb hts hi8 hown hK hP 0 rfl rfl 0 (by decide) lf10 (fun _ h9 => h9) rfl dX8_feed_1 ?_
  refine lv_lload_n hx hb dX8_feed_4 rfl (lv_at hl 1 rfl) ?_
  refine kz_Vv (As := [.long q1]) (rest := []) (wc := [(tp, kO 6 [.ref tp0, tp_words, .int (nI 0), .int tp_next, .int tp_place, .int tp_kind, .int tp_value, .long tp_letters, .int tp_fault]), (tp0, kB k 1000 f)]) (wr := [(x, kO 8 [.ref tp, x_told, x_draft, x_lines, x_draftLines, x_now, x_trial, x_sights, x_past, x_marks, .long x_drawn])]) ⟨hx, hb, hml, hown, hts⟩ hK hE hP hD hS hA (mX6_put l D k H.size tp q1 tp0 tp_words 0 tp_next tp_place tp_kind tp_value tp_letters tp_fault f (by omega)) (cwV 1 hts gX8_feed_X6_put rfl rfl rfl (by decide +kernel) (by rw [hR]; exact ⟨Nat.le_of_ble_eq_true rfl, Nat.le_of_ble_eq_true rfl⟩)) [1, 2] [0] rfl rfl (by decide) (by decide) (by decide) 0 rfl rfl rfl hl.1 rfl (Nat.le_of_ble_eq_true rfl) dX8_feed_5 (by rw [hR]; exact ⟨Nat.le_of_ble_eq_true rfl, Nat.le_of_ble_eq_true rfl⟩) (fun u1 H locs hw1 hP hD hS => ?_)
  have hP : va_P D vwCl [(x, kO 8 [.ref tp, x_told, x_draft, x_lines, x_draftLines, x_now, x_trial, x_sights, x_past, x_marks, .long x_drawn]), (tp, kO 6 [.ref tp0, tp_words, .int (nI (0 + kn (byt q1) 8)), .int tp_next, .int tp_place, .int tp_kind, .int tp_value, .long tp_letters, .int tp_fault]), (tp0, kB k 1000 u1)] H := hP
  have hD : va_D A [(x, kO 8 [.ref tp, x_told, x_draft, x_lines, x_draftLines, x_now, x_trial, x_sights, x_past, x_marks, .long x_drawn]), (tp, kO 6 [.ref tp0, tp_words, .int (nI (0 + kn (byt q1) 8)), .int tp_next, .int tp_place, .int tp_kind, .int tp_value, .long tp_letters, .int tp_fault]), (tp0, kB k 1000 u1)] := hD
  refine lv_aload_n hx hb dX8_feed_8 rfl (lv_at hl 0 rfl) ?_
  refine va_get (D := D) (ci := 8) (v := .ref tp) (C := RX8) (T := TX8) (N := 11) hx hb hts hi8 hown hK hP 0 rfl rfl 0 (by decide) lf10 (fun _ h9 => h9) rfl dX8_feed_9 ?_
  refine lv_lload_n hx hb dX8_feed_12 rfl (lv_at hl 2 rfl) ?_
  refine kz_Vv (As := [.long q2]) (rest := []) (wc := [(tp, kO 6 [.ref tp0, tp_words, .int (nI (0 + kn (byt q1) 8)), .int tp_next, .int tp_place, .int tp_kind, .int tp_value, .long tp_letters, .int tp_fault]), (tp0, kB k 1000 u1)]) (wr := [(x, kO 8 [.ref tp, x_told, x_draft, x_lines, x_draftLines, x_now, x_trial, x_sights, x_past, x_marks, .long x_drawn])]) ⟨hx, hb, hml, hown, hts⟩ hK hE hP hD hS hA (mX6_put l D k H.size tp q2 tp0 tp_words (0 + kn (byt q1) 8) tp_next tp_place tp_kind tp_value tp_letters tp_fault u1 (by have := kn_le (byt q1) 8; omega)) (cwV 1 hts gX8_feed_X6_put rfl rfl rfl (by decide +kernel) (by rw [hR]; exact ⟨Nat.le_of_ble_eq_true rfl, Nat.le_of_ble_eq_true rfl⟩)) [1, 2] [0] rfl rfl (by decide) (by decide) (by decide) 0 rfl rfl rfl hl.1 rfl (Nat.le_of_ble_eq_true rfl) dX8_feed_13 (by rw [hR]; exact ⟨Nat.le_of_ble_eq_true rfl, Nat.le_of_ble_eq_true rfl⟩) (fun u2 H locs hw2 hP hD hS => ?_)
  have hP : va_P D vwCl [(x, kO 8 [.ref tp, x_told, x_draft, x_lines, x_draftLines, x_now, x_trial, x_sights, x_past, x_marks, .long x_drawn]), (tp, kO 6 [.ref tp0, tp_words, .int (nI ((0 + kn (byt q1) 8) + kn (byt q2) 8)), .int tp_next, .int tp_place, .int tp_kind, .int tp_value, .long tp_letters, .int tp_fault]), (tp0, kB k 1000 u2)] H := hP
  have hD : va_D A [(x, kO 8 [.ref tp, x_told, x_draft, x_lines, x_draftLines, x_now, x_trial, x_sights, x_past, x_marks, .long x_drawn]), (tp, kO 6 [.ref tp0, tp_words, .int (nI ((0 + kn (byt q1) 8) + kn (byt q2) 8)), .int tp_next, .int tp_place, .int tp_kind, .int tp_value, .long tp_letters, .int tp_fault]), (tp0, kB k 1000 u2)] := hD
  refine lv_aload_n hx hb dX8_feed_16 rfl (lv_at hl 0 rfl) ?_
  refine va_get (D := D) (ci := 8) (v := .ref tp) (C := RX8) (T := TX8) (N := 11) hx hb hts hi8 hown hK hP 0 rfl rfl 0 (by decide) lf10 (fun _ h9 => h9) rfl dX8_feed_17 ?_
  refine lv_lload hx hb dX8_feed_20 (lv_at hl 3 rfl) ?_
  refine kz_Vv (As := [.long q3]) (rest := []) (wc := [(tp, kO 6 [.ref tp0, tp_words, .int (nI ((0 + kn (byt q1) 8) + kn (byt q2) 8)), .int tp_next, .int tp_place, .int tp_kind, .int tp_value, .long tp_letters, .int tp_fault]), (tp0, kB k 1000 u2)]) (wr := [(x, kO 8 [.ref tp, x_told, x_draft, x_lines, x_draftLines, x_now, x_trial, x_sights, x_past, x_marks, .long x_drawn])]) ⟨hx, hb, hml, hown, hts⟩ hK hE hP hD hS hA (mX6_put l D k H.size tp q3 tp0 tp_words ((0 + kn (byt q1) 8) + kn (byt q2) 8) tp_next tp_place tp_kind tp_value tp_letters tp_fault u2 (by have := kn_le (byt q1) 8; have := kn_le (byt q2) 8; omega)) (cwV 1 hts gX8_feed_X6_put rfl rfl rfl (by decide +kernel) (by rw [hR]; exact ⟨Nat.le_of_ble_eq_true rfl, Nat.le_of_ble_eq_true rfl⟩)) [1, 2] [0] rfl rfl (by decide) (by decide) (by decide) 0 rfl rfl rfl hl.1 rfl (Nat.le_of_ble_eq_true rfl) dX8_feed_22 (by rw [hR]; exact ⟨Nat.le_of_ble_eq_true rfl, Nat.le_of_ble_eq_true rfl⟩) (fun u3 H locs hw3 hP hD hS => ?_)
  have hP : va_P D vwCl [(x, kO 8 [.ref tp, x_told, x_draft, x_lines, x_draftLines, x_now, x_trial, x_sights, x_past, x_marks, .long x_drawn]), (tp, kO 6 [.ref tp0, tp_words, .int (nI (((0 + kn (byt q1) 8) + kn (byt q2) 8) + kn (byt q3) 8)), .int tp_next, .int tp_place, .int tp_kind, .int tp_value, .long tp_letters, .int tp_fault]), (tp0, kB k 1000 u3)] H := hP
  have hD : va_D A [(x, kO 8 [.ref tp, x_told, x_draft, x_lines, x_draftLines, x_now, x_trial, x_sights, x_past, x_marks, .long x_drawn]), (tp, kO 6 [.ref tp0, tp_words, .int (nI (((0 + kn (byt q1) 8) + kn (byt q2) 8) + kn (byt q3) 8)), .int tp_next, .int tp_place, .int tp_kind, .int tp_value, .long tp_letters, .int tp_fault]), (tp0, kB k 1000 u3)] := hD
  refine lv_aload_n hx hb dX8_feed_25 rfl (lv_at hl 0 rfl) ?_
  refine va_get (D := D) (ci := 8) (v := .ref tp) (C := RX8) (T := TX8) (N := 11) hx hb hts hi8 hown hK hP 0 rfl rfl 0 (by decide) lf10 (fun _ h9 => h9) rfl dX8_feed_26 ?_
  refine va_get (D := D) (ci := 6) (v := .int (nI (((0 + kn (byt q1) 8) + kn (byt q2) 8) + kn (byt q3) 8))) (C := RX6) (T := TX6) (N := 9) hx hb hts hi6 hown hK hP 1 rfl rfl 2 (by decide) lf71 (fun _ h9 => h9) rfl dX8_feed_29 ?_
  rw [hQ]
  have hP9 := hP.sub (ws' := []) [] rfl
  have hD9 := hD.sub (ws' := []) [] (by decide) rfl
  exact W.iret (v := (nI (((0 + kn (byt q1) 8) + kn (byt q2) 8) + kn (byt q3) 8))) hx hb hr (fun zt ht hW => ⟨⟨(nI (((0 + kn (byt q1) 8) + kn (byt q2) 8) + kn (byt q3) 8)), (), rfl, rfl, by rw [ht]; exact hP9, hD9⟩, hS.F ht⟩) hS.2.2 dX8_feed_32
