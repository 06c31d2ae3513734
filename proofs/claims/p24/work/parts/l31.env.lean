/-! what the law has at its start: the classes, the arrays' classes, the nest's links, the words' text -/
theorem arr_p {args : Array Value} {s : State} {ty : FieldType} (h : (Cond.arrayClass ty).before args s = true) : ∃ cA : ClassId, ArrOfT s cA ty ∧ s.vm.findClass ("[" ++ ty.toString) = some cA := by
  obtain ⟨c, k, comp, h1, h2, h3⟩ := Cond.arrayClass_spec h
  exact ⟨c, fun n z => ⟨fun k h => (by cases h), k, h2, comp, h3⟩, h1⟩
theorem arr_o {args : Array Value} {s : State} {C : String} (h : (Cond.arrayOver (.object C)).before args s = true) : ∃ cA : ClassId, ArrOfT s cA (.object C) ∧ va_RA s cA (.object C) := by
  obtain ⟨comp, c, k, hcomp, hidx, hk, hkind, hname⟩ := Cond.arrayOver_spec h
  exact ⟨c, fun n z => ⟨fun k h => (by cases h), k, hk, comp, hkind⟩, k, comp, hk, hkind, hcomp, hname⟩
set_option maxRecDepth 100000 in
theorem law_env {s : State} {a : Array Value} (hts : ∀ w ∈ lw_tbl, w.before a s = true) : ∃ (D : va_G) (k : Nat → ClassId), va_K D vwCl (tysW k) s := by
  obtain ⟨c0, i0, h0⟩ := u_known (C := RX0) (T := TX0) (N := 5) (n := 5) hts inX0 (hts (.instantiable RX0 5) (lw_ch_in 1 (List.mem_of_getElem? (i := 136) rfl)))
  obtain ⟨c1, i1, h1⟩ := u_known (C := RX1) (T := TX1) (N := 4) (n := 4) hts inX1 (hts (.instantiable RX1 4) (lw_ch_in 1 (List.mem_of_getElem? (i := 212) rfl)))
  obtain ⟨c2, i2, h2⟩ := u_known (C := RX2) (T := TX2) (N := 4) (n := 4) hts inX2 (hts (.instantiable RX2 4) (lw_ch_in 2 (List.mem_of_getElem? (i := 93) rfl)))
  obtain ⟨c3, i3, h3⟩ := u_known (C := RX3) (T := TX3) (N := 3) (n := 3) hts inX3 (hts (.instantiable RX3 3) (lw_ch_in 2 (List.mem_of_getElem? (i := 72) rfl)))
  obtain ⟨c4, i4, h4⟩ := u_known (C := RX4) (T := TX4) (N := 13) (n := 13) hts inX4 (hts (.instantiable RX4 13) (lw_ch_in 1 (List.mem_of_getElem? (i := 232) rfl)))
  obtain ⟨c5, i5, h5⟩ := u_known (C := RX5) (T := TX5) (N := 4) (n := 4) hts inX5 (hts (.instantiable RX5 4) (lw_ch_in 2 (List.mem_of_getElem? (i := 51) rfl)))
  obtain ⟨c6, i6, h6⟩ := u_known (C := RX6) (T := TX6) (N := 9) (n := 9) hts inX6 (hts (.instantiable RX6 9) (lw_ch_in 1 (List.mem_of_getElem? (i := 32) rfl)))
  obtain ⟨c7, i7, h7⟩ := u_known (C := RX7) (T := TX7) (N := 13) (n := 13) hts inX7 (hts (.instantiable RX7 13) (lw_ch_in 1 (List.mem_of_getElem? (i := 130) rfl)))
  obtain ⟨c8, i8, h8⟩ := u_known (C := RX8) (T := TX8) (N := 11) (n := 11) hts inX8 (hts (.instantiable RX8 11) (lw_ch_in 1 (List.mem_of_getElem? (i := 24) rfl)))
  obtain ⟨c9, i9, h9⟩ := u_known (C := RX9) (T := TX9) (N := 58) (n := 58) hts inX9 (hts (.instantiable RX9 58) (lw_ch_in 5 (List.mem_of_getElem? (i := 95) rfl)))
  obtain ⟨k0, a0, b0⟩ := arr_p (hts (.arrayClass .int) (lw_ch_in 1 (List.mem_of_getElem? (i := 157) rfl)))
  obtain ⟨k1, a1, b1⟩ := arr_p (hts (.arrayClass .long) (lw_ch_in 1 (List.mem_of_getElem? (i := 128) rfl)))
  obtain ⟨k2, a2, b2⟩ := arr_p (hts (.arrayClass .byte) (lw_ch_in 1 (List.mem_of_getElem? (i := 127) rfl)))
  obtain ⟨k3, a3, b3⟩ := arr_p (hts (.arrayClass .boolean) (lw_ch_in 2 (List.mem_of_getElem? (i := 70) rfl)))
  obtain ⟨k4, a4, b4⟩ := arr_o (hts (.arrayOver (.object "LastCook$Mark")) (lw_ch_in 2 (List.mem_of_getElem? (i := 92) rfl)))
  obtain ⟨k5, a5, b5⟩ := arr_o (hts (.arrayOver (.object "LastCook$Road")) (lw_ch_in 2 (List.mem_of_getElem? (i := 78) rfl)))
  refine ⟨(fun j => [c0, c1, c2, c3, c4, c5, c6, c7, c8, c9].getD j c0, fun j => [i0, i1, i2, i3, i4, i5, i6, i7, i8, i9].getD j i0), fun j => [k0, k1, k2, k3, k4, k5].getD j k0, ?_, ?_⟩
  · intro j q hq
    match j, hq with
    | 0, hq => cases hq; exact h0
    | 1, hq => cases hq; exact h1
    | 2, hq => cases hq; exact h2
    | 3, hq => cases hq; exact h3
    | 4, hq => cases hq; exact h4
    | 5, hq => cases hq; exact h5
    | 6, hq => cases hq; exact h6
    | 7, hq => cases hq; exact h7
    | 8, hq => cases hq; exact h8
    | 9, hq => cases hq; exact h9
    | j + 10, hq => simp [vwCl] at hq
  · intro j q hq
    match j, hq with
    | 0, hq => cases hq; exact ⟨a0, b0⟩
    | 1, hq => cases hq; exact ⟨a1, b1⟩
    | 2, hq => cases hq; exact ⟨a2, b2⟩
    | 3, hq => cases hq; exact ⟨a3, b3⟩
    | 4, hq => cases hq; exact ⟨a4, b4⟩
    | 5, hq => cases hq; exact ⟨a5, b5⟩
    | j + 6, hq => simp [tysW] at hq
set_option maxRecDepth 100000 in
theorem law_E {s : State} {a : Array Value} (hts : ∀ w ∈ lw_tbl, w.before a s = true) : kz_E s :=
  ⟨va_Nw.of rfl (hts _ (by decide +kernel)), va_Nw.of rfl (hts _ (by decide +kernel)), va_Nw.of rfl (hts _ (by decide +kernel)), va_Nw.of rfl (hts _ (by decide +kernel)), va_Nw.of rfl (hts _ (by decide +kernel)), va_Nw.of rfl (hts _ (by decide +kernel)), va_Nw.of rfl (hts _ (by decide +kernel)), va_Nw.of rfl (hts _ (by decide +kernel)), va_Nw.of rfl (hts _ (by decide +kernel)), va_Nw.of rfl (hts _ (by decide +kernel)), va_Nw.of rfl (hts _ (by decide +kernel)), va_AO.of (hts _ (by decide +kernel)), va_AO.of (hts _ (by decide +kernel))⟩
abbrev tmS : Term := .field (.string "LastCook$Tape" 19) "java/lang/String" "value" "[B"
def txB : List Int32 := [103, 117, 101, 115, 116, 32, 111, 102, 102, 32, 112, 97, 99, 101, 32, 99, 111, 111, 107, 115, 32, 98, 101, 110, 100, 32, 104, 111, 117, 114, 32, 115, 110, 111, 119, 32, 116, 97, 115, 116, 101, 115, 32, 119, 104, 101, 101, 108, 32, 114, 117, 110, 32, 104, 105, 114, 101, 32, 109, 105, 110, 117, 116, 101, 32, 112, 108, 97, 105, 110, 32, 100, 111, 99, 116, 111, 114, 32, 115, 104, 121, 32, 103, 114, 101, 97, 116, 32, 110, 111, 116, 32, 97, 110, 100, 32, 111, 114, 32, 115, 107, 105, 108, 108, 32, 108, 97, 116, 101, 32, 103, 117, 101, 115, 116, 115, 32, 110, 105, 103, 104, 116, 32]
set_option maxRecDepth 100000 in
theorem law_X {s : State} {a : Array Value} (hts : ∀ w ∈ lw_tbl, w.before a s = true) (hgv : (Jvm.Cond.and given_1 narrow_1).before a s = true) : ∃ sa sv : Nat, kz_X s.heap.size sa sv (fun j => txB.getD j 0) s := by
  have hs := flat_of_before _ hgv
  have hA : ∀ q : Nat, q < s.heap.size → ¬ (fun q => s.heap.size ≤ q) q := fun q h => Nat.not_le.mpr h
  have hex : (Cond.exactly (.string "LastCook$Tape" 19) "java/lang/String").before a s = true := hs _ (by decide +kernel)
  obtain ⟨sa, c, cA, kA, q1, -⟩ := Cond.exactly_spec (args := a) (first := s) (o := none) (s := s) (idx := []) (t := .string "LastCook$Tape" 19) (cls := "java/lang/String") hex
  have e9 : ((flatC (Jvm.Cond.and given_1 narrow_1)).drop 49).take 123 = (List.range 123).map (fun j => Cond.eq (.elem tmS (.int (Int32.ofNat j))) (.int (txB.getD j 0))) := by decide +kernel
  have hel : ∀ j, j < 123 → (Cond.eq (.elem tmS (.int (Int32.ofNat j))) (.int (txB.getD j 0))).before a s = true := fun j hj => by
    have m9 : Cond.eq (.elem tmS (.int (Int32.ofNat j))) (.int (txB.getD j 0)) ∈ ((flatC (Jvm.Cond.and given_1 narrow_1)).drop 49).take 123 := by
      rw [e9]; exact List.mem_map.mpr ⟨j, List.mem_range.mpr hj, rfl⟩
    exact hs _ (List.mem_of_mem_drop (List.mem_of_mem_take m9))
  obtain ⟨sv, hv, hT⟩ := va_Tof (tm := tmS) (ty := .byte) (N := 123) (f := fun j => .int (txB.getD j 0)) (by decide) (hs _ (by decide +kernel)) (va_eqt (hs (Cond.eq (.length tmS) (.int 123)) (by decide +kernel))) (fun j hj => va_eqt (hel j hj)) hA
  exact ⟨sa, sv, ⟨_, vk_R.of (tx := "guest off pace cooks bend hour snow tastes wheel run hire minute plain doctor shy great not and or skill late guests night ") (hts _ (by decide +kernel)) q1⟩, va_Oof hex q1 hA, vk_OFof q1 (va_eqt (hs (Cond.eq (.field (.string "LastCook$Tape" 19) "java/lang/String" "coder" "B") (.int 0)) (by decide +kernel))) hA, vk_OFof q1 hv hA, hT, va_Zof (hts _ (by decide +kernel)) (hts _ (by decide +kernel)) (va_eqi (hs _ (by decide +kernel))) hA, va_Zqof (hts _ (by decide +kernel)) (hts _ (by decide +kernel)) (hs _ (by decide +kernel)) hA⟩
abbrev tmQ : Term := .field (.string "LastCook$Tape" 71) "java/lang/String" "value" "[B"
def txS : List Int32 := [40, 41, 60, 61, 43, 45, 42, 59]
set_option maxRecDepth 100000 in
theorem law_Y {s : State} {a : Array Value} (hts : ∀ w ∈ lw_tbl, w.before a s = true) (hgv : (Jvm.Cond.and given_1 narrow_1).before a s = true) : ∃ sa sv : Nat, ky_X s.heap.size sa sv (fun j => txS.getD j 0) s := by
  have hs := flat_of_before _ hgv
  have hA : ∀ q : Nat, q < s.heap.size → ¬ (fun q => s.heap.size ≤ q) q := fun q h => Nat.not_le.mpr h
  have hex : (Cond.exactly (.string "LastCook$Tape" 71) "java/lang/String").before a s = true := hs _ (by decide +kernel)
  obtain ⟨sa, c, cA, kA, q1, -⟩ := Cond.exactly_spec (args := a) (first := s) (o := none) (s := s) (idx := []) (t := .string "LastCook$Tape" 71) (cls := "java/lang/String") hex
  have hel : ∀ j, j < 8 → (Cond.eq (.elem tmQ (.int (Int32.ofNat j))) (.int (txS.getD j 0))).before a s = true := fun j hj => hs _ ((by decide +kernel : ∀ j, j < 8 → Cond.eq (.elem tmQ (.int (Int32.ofNat j))) (.int (txS.getD j 0)) ∈ _) j hj)
  obtain ⟨sv, hv, hT⟩ := va_Tof (tm := tmQ) (ty := .byte) (N := 8) (f := fun j => .int (txS.getD j 0)) (by decide) (hs _ (by decide +kernel)) (va_eqt (hs (Cond.eq (.length tmQ) (.int 8)) (by decide +kernel))) (fun j hj => va_eqt (hel j hj)) hA
  exact ⟨sa, sv, ⟨_, vk_R.of (tx := "()<=+-*;") (hts _ (by decide +kernel)) q1⟩, va_Oof hex q1 hA, vk_OFof q1 (va_eqt (hs (Cond.eq (.field (.string "LastCook$Tape" 71) "java/lang/String" "coder" "B") (.int 0)) (by decide +kernel))) hA, vk_OFof q1 hv hA, hT, va_Zof (hts _ (by decide +kernel)) (hts _ (by decide +kernel)) (va_eqi (hs _ (by decide +kernel))) hA⟩
