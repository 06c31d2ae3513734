theorem dX4_canEngage_0 : decode cX4_canEngage 0 = .ok (.iload_n 1, 1) := by decide +kernel
theorem dX4_canEngage_1 : decode cX4_canEngage 1 = .ok (.iload_n 2, 1) := by decide +kernel
theorem dX4_canEngage_2 : decode cX4_canEngage 2 = .ok (.if_icmp .eq 33, 3) := by decide +kernel
theorem dX4_canEngage_5 : decode cX4_canEngage 5 = .ok (.aload_n 0, 1) := by decide +kernel
theorem dX4_canEngage_6 : decode cX4_canEngage 6 = .ok (.iload_n 1, 1) := by decide +kernel
theorem dX4_canEngage_7 : decode cX4_canEngage 7 = .ok (.invokevirtual 66, 3) := by decide +kernel
theorem dX4_canEngage_10 : decode cX4_canEngage 10 = .ok (.ifCond .eq 25, 3) := by decide +kernel
theorem dX4_canEngage_35 : decode cX4_canEngage 35 = .ok (.iconst 0, 1) := by decide +kernel
theorem dX4_canEngage_36 : decode cX4_canEngage 36 = .ok (.ireturn, 1) := by decide +kernel
set_option maxRecDepth 20000 in
theorem ggX4_canEngage_X4_isOnRoad : GoodIn wsX4_canEngage wsX4_isOnRoad := goodIn_r _ [6, 7, 8, 9, 10, 11, 12, 13, 14, 15, 16, 17, 18, 19, 20] rfl (by decide +kernel)
set_option maxRecDepth 20000 in
theorem gX4_canEngage_X4_isOnRoad : GoodIn wsX4_canEngage (wsV RX4 66 RX4 yX4_isOnRoad wsX4_isOnRoad) := goodIn_app (goodIn_of _ (by decide +kernel)) ggX4_canEngage_X4_isOnRoad
set_option maxHeartbeats 4000000 in
set_option maxRecDepth 100000 in
theorem mX4_canEngage (l : Launch) (D : va_G) (k : Nat → ClassId) (sz : Nat) (r : Nat) (q1 : Int32) (q2 : Int32) (ry : Nat) (r_paces : Value) (r_stuck : Value) (r_hirers : Value) (r_places : Value) (r_cameAt : Value) (r_cooked : Value) (r_inside : Int32) (r_night : Int32) (r_minute : Int32) (r_tasted : Int32) (r_lastCook : Int32) (r_stirred : Int32) : Met l yX4_canEngage wsX4_canEngage ({ frames := 1, cells := 0, slots := 0, locals := 70 }) (va_Pc [.ref r, .int q1, .int q2] (kz_Pre D k [(r, kO 4 [.ref ry, r_paces, r_stuck, r_hirers, r_places, r_cameAt, r_cooked, .int r_inside, .int r_night, .int r_minute, .int r_tasted, .int r_lastCook, .int r_stirred]), (ry, kI k 6 (fun _ => 0))] sz)) (va_Qi (fun (rr : Int32) (uu : Unit) => rr = 0) (fun uu zt => kz_B D (va_A [(r, kO 4 [.ref ry, r_paces, r_stuck, r_hirers, r_places, r_cameAt, r_cooked, .int r_inside, .int r_night, .int r_minute, .int r_tasted, .int r_lastCook, .int r_stirred]), (ry, kI k 6 (fun _ => 0))] sz) [(r, kO 4 [.ref ry, r_paces, r_stuck, r_hirers, r_places, r_cameAt, r_cooked, .int r_inside, .int r_night, .int r_minute, .int r_tasted, .int r_lastCook, .int r_stirred]), (ry, kI k 6 (fun _ => 0))] zt) (va_A [(r, kO 4 [.ref ry, r_paces, r_stuck, r_hirers, r_places, r_cameAt, r_cooked, .int r_inside, .int r_night, .int r_minute, .int r_tasted, .int r_lastCook, .int r_stirred]), (ry, kI k 6 (fun _ => 0))] sz)) 0 0 (va_A [(r, kO 4 [.ref ry, r_paces, r_stuck, r_hirers, r_places, r_cameAt, r_cooked, .int r_inside, .int r_night, .int r_minute, .int r_tasted, .int r_lastCook, .int r_stirred]), (ry, kI k 6 (fun _ => 0))] sz) := by
  refine Met.ofW (cc := cX4_canEngage) (maxL := 3) (ret := (some .boolean)) (by decide) rfl ?_
  intro p e s m args below meth c s₁ B hml hv
  obtain ⟨hav, hsz, hP, hK, hD0, hE⟩ := hv
  have hx := B.exec
  have hb := B.bytes
  have hr := B.returns
  have hts := atoms_spec (ws := wsX4_canEngage) B.pre
  have hown : s.vm.findClass RX4 = some m.cls := findClass_of_methodNamed B.named
  have hlocks := B.notSynchronized
  subst hsz
  have hD := hD0.self (sz := s.heap.size)
  generalize hAe : va_A [(r, kO 4 [.ref ry, r_paces, r_stuck, r_hirers, r_places, r_cameAt, r_cooked, .int r_inside, .int r_night, .int r_minute, .int r_tasted, .int r_lastCook, .int r_stirred]), (ry, kI k 6 (fun _ => 0))] s.heap.size = A at hD ⊢
  have hA : ∀ q : Nat, s.heap.size ≤ q → A q := fun q h => by rw [← hAe]; exact Or.inr h
  have hS : va_S A s.heap s.heap [] := va_S.rf
  have hl := lv_entry ([.ref r, .int q1, .int q2]) (n := 3) (Nat.le_of_ble_eq_true rfl)
  rw [show entryFrame m args 3 = entryFrame m ([.ref r, .int q1, .int q2] : List Value).toArray 3 by rw [hav], lg_entry_eq]
  generalize (lg_sl ([.ref r, .int q1, .int q2]) ++ List.replicate (3 - (lg_sl ([.ref r, .int q1, .int q2])).length) Slot.unset).toArray = ls at hl ⊢
  have hl : lv_has ls 3 [(0, .ref r), (1, .int q1), (2, .int q2)] := hl
  obtain ⟨R, hR⟩ : ∃ R, R = (headSpec wsX4_canEngage ({ frames := 1, cells := 0, slots := 0, locals := 70 } : Room)).room := ⟨_, rfl⟩
  rw [← hR]
  generalize hQ : MQ below _ args s 0 0 A = Q
  replace hQ := hQ.symm
  obtain ⟨H, hH⟩ : ∃ H, H = s.heap := ⟨_, rfl⟩
  rw [← hH] at hP ⊢
  have hS : va_S A s.heap H [] := by rw [hH]; exact hS
  refine lv_iload_n hx hb dX4_canEngage_0 rfl (lv_at hl 1 rfl) ?_
  refine lv_iload_n hx hb dX4_canEngage_1 rfl (lv_at hl 2 rfl) ?_
  refine lv_icmp_eq (tgt := 35) hx hb dX4_canEngage_2 (by decide) (fun c_1 => ?_) (fun c_1 => ?_)
  · skip
    refine lv_iconst (v := 0) hx hb dX4_canEngage_35 (by decide) ?_
    rw [hQ]
    have hP9 := hP.sub (ws' := [(r, kO 4 [.ref ry, r_paces, r_stuck, r_hirers, r_places, r_cameAt, r_cooked, .int r_inside, .int r_night, .int r_minute, .int r_tasted, .int r_lastCook, .int r_stirred]), (ry, kI k 6 (fun _ => 0))]) [0, 1] rfl
    have hD9 := hD.sub (ws' := [(r, kO 4 [.ref ry, r_paces, r_stuck, r_hirers, r_places, r_cameAt, r_cooked, .int r_inside, .int r_night, .int r_minute, .int r_tasted, .int r_lastCook, .int r_stirred]), (ry, kI k 6 (fun _ => 0))]) [0, 1] (by decide) rfl
    exact W.zret (v := 0) hx hb hr rfl (fun zt ht hW => ⟨⟨0, (), rfl, rfl, by rw [ht]; exact hP9, hD9⟩, hS.F ht⟩) hS.2.2 dX4_canEngage_36
  · skip
    refine lv_aload_n hx hb dX4_canEngage_5 rfl (lv_at hl 0 rfl) ?_
    refine lv_iload_n hx hb dX4_canEngage_6 rfl (lv_at hl 1 rfl) ?_
    refine kz_Vi (As := [.int q1]) (rest := []) (wc := [(r, kO 4 [.ref ry, r_paces, r_stuck, r_hirers, r_places, r_cameAt, r_cooked, .int r_inside, .int r_night, .int r_minute, .int r_tasted, .int r_lastCook, .int r_stirred]), (ry, kI k 6 (fun _ => 0))]) (wr := []) ⟨hx, hb, hml, hown, hts⟩ hK hE hP hD hS hA (mX4_isOnRoad0 l D k H.size r q1 ry r_paces r_stuck r_hirers r_places r_cameAt r_cooked r_inside r_night r_minute r_tasted r_lastCook r_stirred) (cwV 1 hts gX4_canEngage_X4_isOnRoad rfl rfl rfl (by decide +kernel) (by rw [hR]; exact ⟨Nat.le_of_ble_eq_true rfl, Nat.le_of_ble_eq_true rfl⟩)) [0, 1] [] rfl rfl (by decide) (by decide) (by decide) 0 rfl rfl rfl hl.1 rfl (Nat.le_of_ble_eq_true rfl) dX4_canEngage_7 (by rw [hR]; exact ⟨Nat.le_of_ble_eq_true rfl, Nat.le_of_ble_eq_true rfl⟩) (fun r2 u2 H locs hw2 hP hD hS => ?_)
    try dsimp only at hw2
    obtain rfl : r2 = 0 := hw2
    have hP : va_P D vwCl [(r, kO 4 [.ref ry, r_paces, r_stuck, r_hirers, r_places, r_cameAt, r_cooked, .int r_inside, .int r_night, .int r_minute, .int r_tasted, .int r_lastCook, .int r_stirred]), (ry, kI k 6 (fun _ => 0))] H := hP
    have hD : va_D A [(r, kO 4 [.ref ry, r_paces, r_stuck, r_hirers, r_places, r_cameAt, r_cooked, .int r_inside, .int r_night, .int r_minute, .int r_tasted, .int r_lastCook, .int r_stirred]), (ry, kI k 6 (fun _ => 0))] := hD
    refine lv_if_eq (tgt := 35) hx hb dX4_canEngage_10 (by decide) (fun c_3 => ?_) (fun c_3 => absurd (by decide) c_3)
    refine lv_iconst (v := 0) hx hb dX4_canEngage_35 (by decide) ?_
    rw [hQ]
    have hP9 := hP.sub (ws' := [(r, kO 4 [.ref ry, r_paces, r_stuck, r_hirers, r_places, r_cameAt, r_cooked, .int r_inside, .int r_night, .int r_minute, .int r_tasted, .int r_lastCook, .int r_stirred]), (ry, kI k 6 (fun _ => 0))]) [0, 1] rfl
    have hD9 := hD.sub (ws' := [(r, kO 4 [.ref ry, r_paces, r_stuck, r_hirers, r_places, r_cameAt, r_cooked, .int r_inside, .int r_night, .int r_minute, .int r_tasted, .int r_lastCook, .int r_stirred]), (ry, kI k 6 (fun _ => 0))]) [0, 1] (by decide) rfl
    exact W.zret (v := 0) hx hb hr rfl (fun zt ht hW => ⟨⟨0, (), rfl, rfl, by rw [ht]; exact hP9, hD9⟩, hS.F ht⟩) hS.2.2 dX4_canEngage_36
