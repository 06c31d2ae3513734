theorem dX9_shifts_0 : decode cX9_shifts 0 = .ok (.iconst 0, 1) := by decide +kernel
theorem dX9_shifts_1 : decode cX9_shifts 1 = .ok (.istore_n 2, 1) := by decide +kernel
theorem dX9_shifts_2 : decode cX9_shifts 2 = .ok (.iload_n 2, 1) := by decide +kernel
theorem dX9_shifts_3 : decode cX9_shifts 3 = .ok (.iload_n 1, 1) := by decide +kernel
theorem dX9_shifts_4 : decode cX9_shifts 4 = .ok (.if_icmp .ge 17, 3) := by decide +kernel
theorem dX9_shifts_7 : decode cX9_shifts 7 = .ok (.aload_n 0, 1) := by decide +kernel
theorem dX9_shifts_8 : decode cX9_shifts 8 = .ok (.iload_n 2, 1) := by decide +kernel
theorem dX9_shifts_9 : decode cX9_shifts 9 = .ok (.aload_n 0, 1) := by decide +kernel
theorem dX9_shifts_10 : decode cX9_shifts 10 = .ok (.iload_n 1, 1) := by decide +kernel
theorem dX9_shifts_11 : decode cX9_shifts 11 = .ok (.iload_n 2, 1) := by decide +kernel
theorem dX9_shifts_12 : decode cX9_shifts 12 = .ok (.iadd, 1) := by decide +kernel
theorem dX9_shifts_13 : decode cX9_shifts 13 = .ok (.iaload, 1) := by decide +kernel
theorem dX9_shifts_14 : decode cX9_shifts 14 = .ok (.iastore, 1) := by decide +kernel
theorem dX9_shifts_15 : decode cX9_shifts 15 = .ok (.iinc 2 1, 3) := by decide +kernel
theorem dX9_shifts_18 : decode cX9_shifts 18 = .ok (.goto (-16), 3) := by decide +kernel
theorem dX9_shifts_21 : decode cX9_shifts 21 = .ok (.return_, 1) := by decide +kernel
set_option maxHeartbeats 4000000 in
set_option maxRecDepth 100000 in
theorem mX9_shifts (l : Launch) (D : va_G) (k : Nat → ClassId) (sz : Nat) (ra : Nat) (n0 : Nat) (nr : Nat) (f0 : Nat → Int32) (hn1 : n0 + n0 ≤ nr) (hn2 : nr < 10000) : Met l yX9_shifts wsX9_shifts ({ frames := 0, cells := 0, slots := 0, locals := 0 }) (va_Pc [.ref ra, .int (nI n0)] (kz_Pre D k [(ra, kI k nr f0)] sz)) (va_Qv (fun (uu : Unit) => True) (fun uu zt => kz_B D (va_A [(ra, kI k nr f0)] sz) [(ra, kI k nr (sft f0 n0 n0))] zt) (va_A [(ra, kI k nr f0)] sz)) 0 0 (va_A [(ra, kI k nr f0)] sz) := by
  refine Met.ofW (cc := cX9_shifts) (maxL := 3) (ret := none) (by decide) rfl ?_
  intro p e s m args below meth c s₁ B hml hv
  obtain ⟨hav, hsz, hP, hK, hD0, hE⟩ := hv
  have hx := B.exec
  have hb := B.bytes
  have hr := B.returns
  have hts := atoms_spec (ws := wsX9_shifts) B.pre
  have hown : s.vm.findClass RX9 = some m.cls := findClass_of_methodNamed B.named
  have hlocks := B.notSynchronized
  subst hsz
  have hD := hD0.self (sz := s.heap.size)
  generalize hAe : va_A [(ra, kI k nr f0)] s.heap.size = A at hD ⊢
  have hA : ∀ q : Nat, s.heap.size ≤ q → A q := fun q h => by rw [← hAe]; exact Or.inr h
  have hS : va_S A s.heap s.heap [] := va_S.rf
  have hl := lv_entry ([.ref ra, .int (nI n0)]) (n := 3) (Nat.le_of_ble_eq_true rfl)
  rw [show entryFrame m args 3 = entryFrame m ([.ref ra, .int (nI n0)] : List Value).toArray 3 by rw [hav], lg_entry_eq]
  generalize (lg_sl ([.ref ra, .int (nI n0)]) ++ List.replicate (3 - (lg_sl ([.ref ra, .int (nI n0)])).length) Slot.unset).toArray = ls at hl ⊢
  have hl : lv_has ls 3 [(0, .ref ra), (1, .int (nI n0))] := hl
  obtain ⟨R, hR⟩ : ∃ R, R = (headSpec wsX9_shifts ({ frames := 0, cells := 0, slots := 0, locals := 0 } : Room)).room := ⟨_, rfl⟩
  rw [← hR]
  generalize hQ : MQ below _ args s 0 0 A = Q
  replace hQ := hQ.symm
  obtain ⟨H, hH⟩ : ∃ H, H = s.heap := ⟨_, rfl⟩
  rw [← hH] at hP ⊢
  have hS : va_S A s.heap H [] := by rw [hH]; exact hS
  refine lv_iconst (v := 0) hx hb dX9_shifts_0 (by decide) ?_
  refine lv_istore_n (lv' := [(2, .int 0), (0, .ref ra), (1, .int (nI n0))]) hx hb dX9_shifts_1 rfl hl (by decide) rfl (fun ls hl => ?_)
  have hloop2 : ∀ (n : Nat) (j : Nat), n0 - j < n → (j ≤ n0) → ∀ (H : Heap) (locs : List Loc) (ls : Array Slot), va_P D vwCl [(ra, kI k nr (sft f0 n0 j))] H → va_D A [(ra, kI k nr (sft f0 n0 j))] → va_S A s.heap H locs → lv_has ls 3 [(2, .int (nI j)), (0, .ref ra), (1, .int (nI n0))] → W p l e R s m args below meth c H locs 0 0 Q (F0 m 2 ls []) := by
    intro n2
    induction n2 with
    | zero => intro j hm; exact absurd hm (Nat.not_lt_zero _)
    | succ n2 ih2 =>
      intro j hm2 hj H locs ls hP hD hS hl
      refine lv_iload_n hx hb dX9_shifts_2 rfl (lv_at hl 0 rfl) ?_
      refine lv_iload_n hx hb dX9_shifts_3 rfl (lv_at hl 2 rfl) ?_
      refine lv_icmp_ge (tgt := 21) hx hb dX9_shifts_4 (by decide) (fun c_1 => ?_) (fun c_1 => ?_)
      · skip
        have k_1 : n0 ≤ j := (nI_leI (a := n0) (b := j) (by omega) (by omega)).mp c_1
        have ej : j = n0 := by omega
        rw [ej] at hP hD
        have hP : va_P D vwCl [(ra, kI k nr (sft f0 n0 n0))] H := hP
        have hD : va_D A [(ra, kI k nr (sft f0 n0 n0))] := hD
        rw [hQ]
        have hP9 := hP.sub (ws' := [(ra, kI k nr (sft f0 n0 n0))]) [0] rfl
        have hD9 := hD.sub (ws' := [(ra, kI k nr (sft f0 n0 n0))]) [0] (by decide +kernel) rfl
        exact W.vret hx hb hr (fun zt ht hW => ⟨⟨(), rfl, trivial, by rw [ht]; exact hP9, hD9⟩, hS.F ht⟩) hS.2.2 dX9_shifts_21
      · skip
        have k_1 : ¬ (n0 ≤ j) := fun h => c_1 ((nI_leI (a := n0) (b := j) (by omega) (by omega)).mpr h)
        refine lv_aload_n hx hb dX9_shifts_7 rfl (lv_at hl 1 rfl) ?_
        refine lv_iload_n hx hb dX9_shifts_8 rfl (lv_at hl 0 rfl) ?_
        refine lv_aload_n hx hb dX9_shifts_9 rfl (lv_at hl 1 rfl) ?_
        refine lv_iload_n hx hb dX9_shifts_10 rfl (lv_at hl 2 rfl) ?_
        refine lv_iload_n hx hb dX9_shifts_11 rfl (lv_at hl 0 rfl) ?_
        refine lv_iadd hx hb dX9_shifts_12 ?_
        refine lv_topi (fun x2 ex2 => ?_)
        obtain rfl : x2 = (nI (n0 + j)) := ex2.trans (nI_add n0 j)
        refine va_iald hx hb hK hP 0 0 rfl rfl (vp_in_nI (n := (n0 + j)) (by omega) (by omega)) dX9_shifts_13 ?_
        refine va_iast hx hb hK hP hD hS 0 0 rfl rfl (vp_in_nI (n := j) (by omega) (by omega)) dX9_shifts_14 (fun H locs hP hD hS => ?_)
        have hP : va_P D vwCl [(ra, kI k nr (upd (sft f0 n0 j) (Int32.toNatClampNeg (nI j)) ((sft f0 n0 j) (Int32.toNatClampNeg (nI (n0 + j))))))] H := hP
        have hD : va_D A [(ra, kI k nr (upd (sft f0 n0 j) (Int32.toNatClampNeg (nI j)) ((sft f0 n0 j) (Int32.toNatClampNeg (nI (n0 + j))))))] := hD
        rw [sft_s (by omega) (by omega)] at hP hD
        have hP : va_P D vwCl [(ra, kI k nr (sft f0 n0 (j + 1)))] H := hP
        have hD : va_D A [(ra, kI k nr (sft f0 n0 (j + 1)))] := hD
        refine lv_iinc (v := (nI (j + 1))) (lv' := [(2, .int (nI (j + 1))), (0, .ref ra), (1, .int (nI n0))]) hx hb dX9_shifts_15 hl (k := 0) rfl (nI_1 _) (by decide) rfl (fun ls hl => ?_)
        refine lv_goto (tgt := 2) hx hb dX9_shifts_18 (by decide) ?_
        exact ih2 (j + 1) (by omega) (by omega) _ _ _ (hP.sub [0] rfl) (hD.sub [0] (by decide +kernel) rfl) hS (lv_sub hl [0, 1, 2] rfl)
  rw [← sft_0 (f := f0) (n := n0)] at hP hD
  have hP : va_P D vwCl [(ra, kI k nr (sft f0 n0 0))] H := hP
  have hD : va_D A [(ra, kI k nr (sft f0 n0 0))] := hD
  exact hloop2 ((n0 - 0) + 1) 0 (Nat.lt_succ_self _) (by omega) _ _ _ (hP.sub [0] rfl) (hD.sub [0] (by decide +kernel) rfl) hS (lv_sub hl [0, 1, 2] rfl)
