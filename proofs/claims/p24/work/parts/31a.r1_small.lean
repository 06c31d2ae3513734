set_option maxHeartbeats 4000000 in
set_option maxRecDepth 100000 in
theorem sX9_within (l : Launch) (D : va_G) (k : Nat → ClassId) (sz : Nat) (x_ : Int32) (lo : Int32) (hi : Int32) : Met l yX9_within wsX9_within ({ frames := 0, cells := 0, slots := 0, locals := 0 }) (va_Pc [.int x_, .int lo, .int hi] (kz_Pre D k [] sz)) (va_Qi (fun (rr : Int32) (uu : Bool) => rr = bB uu ∧ ((uu) = (fX9_within x_ lo hi)) ∧ (uu = true → (Int32.toInt lo ≤ Int32.toInt x_ ∧ Int32.toInt x_ ≤ Int32.toInt hi))) (fun uu zt => kz_B D (va_A [] sz) [] zt) (va_A [] sz)) 0 0 (va_A [] sz) := by
  refine Met.ofW (cc := cX9_within) (maxL := 3) (ret := (some .boolean)) (by decide) rfl ?_
  intro p e s m args below meth c s₁ B hml hv
  obtain ⟨hav, hsz, hP, hK, hD0, hE⟩ := hv
  have hx := B.exec
  have hb := B.bytes
  have hr := B.returns
  have hts := atoms_spec (ws := wsX9_within) B.pre
  have hown : s.vm.findClass RX9 = some m.cls := findClass_of_methodNamed B.named
  have hlocks := B.notSynchronized
  subst hsz
  have hD := hD0.self (sz := s.heap.size)
  generalize hAe : va_A [] s.heap.size = A at hD ⊢
  have hA : ∀ q : Nat, s.heap.size ≤ q → A q := fun q h => by rw [← hAe]; exact Or.inr h
  have hS : va_S A s.heap s.heap [] := va_S.rf
  have hl := lv_entry ([.int x_, .int lo, .int hi]) (n := 3) (Nat.le_of_ble_eq_true rfl)
  rw [show entryFrame m args 3 = entryFrame m ([.int x_, .int lo, .int hi] : List Value).toArray 3 by rw [hav], lg_entry_eq]
  generalize (lg_sl ([.int x_, .int lo, .int hi]) ++ List.replicate (3 - (lg_sl ([.int x_, .int lo, .int hi])).length) Slot.unset).toArray = ls at hl ⊢
  have hl : lv_has ls 3 [(0, .int x_), (1, .int lo), (2, .int hi)] := hl
  obtain ⟨R, hR⟩ : ∃ R, R = (headSpec wsX9_within ({ frames := 0, cells := 0, slots := 0, locals := 0 } : Room)).room := ⟨_, rfl⟩
  rw [← hR]
  generalize hQ : MQ below _ args s 0 0 A = Q
  replace hQ := hQ.symm
  obtain ⟨H, hH⟩ : ∃ H, H = s.heap := ⟨_, rfl⟩
  rw [← hH] at hP ⊢
  have hS : va_S A s.heap H [] := by rw [hH]; exact hS
  obtain ⟨E0, hE0⟩ : ∃ E0 : Bool, E0 = (fX9_within x_ lo hi) := ⟨_, rfl⟩
  have hZ : (fX9_within x_ lo hi) = E0 := hE0.symm
  refine lv_iload_n hx hb dX9_within_0 rfl (lv_at hl 0 rfl) ?_
  refine lv_iload_n hx hb dX9_within_1 rfl (lv_at hl 1 rfl) ?_
  have hj14_1 : ∀ (H : Heap) (locs : List Loc) (ls : Array Slot), (fX9_within_J14a = E0) → va_P D vwCl [] H → va_D A [] → va_S A s.heap H locs → lv_has ls 3 [(0, .int x_), (1, .int lo), (2, .int hi)] → W p l e R s m args below meth c H locs 0 0 Q (F0 m 14 ls []) := by
    intro H locs ls hZ hP hD hS hl
    refine lv_iconst (v := 0) hx hb dX9_within_14 (by decide) ?_
    rw [hQ]
    have hP9 := hP.sub (ws' := []) [] rfl
    have hD9 := hD.sub (ws' := []) [] (by decide) rfl
    exact W.zret (v := 0) hx hb hr rfl (fun zt ht hW => ⟨⟨0, false, rfl, ⟨rfl, (hZ.trans hE0), (fun h9 => by first | exact absurd h9 (by decide) | exact Bool.noConfusion h9 | omega | (dsimp only; omega))⟩, by rw [ht]; exact hP9, hD9⟩, hS.F ht⟩) hS.2.2 dX9_within_15
  refine lv_icmp_lt (tgt := 14) hx hb dX9_within_2 (by decide) (fun c_2 => ?_) (fun c_2 => ?_)
  · exact by
     have t_2 : (Int32.toInt x_) < (Int32.toInt lo) := tI_lt rfl rfl c_2
     have hZ := (if_pos c_2).symm.trans hZ
     exact hj14_1 _ _ _ hZ (hP.sub [] rfl) (hD.sub [] (by decide) rfl) hS (lv_sub hl [0, 1, 2] rfl)
  · exact by
     have t_2 : (Int32.toInt x_) ≥ (Int32.toInt lo) := tI_nlt rfl rfl c_2
     have hZ := (if_neg c_2).symm.trans hZ
     refine lv_iload_n hx hb dX9_within_5 rfl (lv_at hl 0 rfl) ?_
     refine lv_iload_n hx hb dX9_within_6 rfl (lv_at hl 2 rfl) ?_
     refine lv_icmp_gt (tgt := 14) hx hb dX9_within_7 (by decide) (fun c_3 => ?_) (fun c_3 => ?_)
     · exact by
        have t_3 : (Int32.toInt hi) < (Int32.toInt x_) := tI_lt rfl rfl c_3
        have hZ := (if_pos c_3).symm.trans hZ
        exact hj14_1 _ _ _ hZ (hP.sub [] rfl) (hD.sub [] (by decide) rfl) hS (lv_sub hl [0, 1, 2] rfl)
     · exact by
        have t_3 : (Int32.toInt hi) ≥ (Int32.toInt x_) := tI_nlt rfl rfl c_3
        have hZ := (if_neg c_3).symm.trans hZ
        refine lv_iconst (v := 1) hx hb dX9_within_10 (by decide) ?_
        refine lv_goto (tgt := 15) hx hb dX9_within_11 (by decide) ?_
        rw [hQ]
        have hP9 := hP.sub (ws' := []) [] rfl
        have hD9 := hD.sub (ws' := []) [] (by decide) rfl
        exact W.zret (v := 1) hx hb hr rfl (fun zt ht hW => ⟨⟨1, true, rfl, ⟨rfl, (hZ.trans hE0), (fun h9 => by first | exact absurd h9 (by decide) | exact Bool.noConfusion h9 | omega | (dsimp only; omega))⟩, by rw [ht]; exact hP9, hD9⟩, hS.F ht⟩) hS.2.2 dX9_within_15
theorem dX9_between_0 : decode cX9_between 0 = .ok (.iload_n 0, 1) := dk_iload_n_0 (by decide +kernel)
theorem dX9_between_1 : decode cX9_between 1 = .ok (.iload_n 1, 1) := dk_iload_n_1 (by decide +kernel)
theorem dX9_between_2 : decode cX9_between 2 = .ok (.if_icmp .ge 7, 3) := dk_if_icmp_ge (by decide +kernel)
theorem dX9_between_5 : decode cX9_between 5 = .ok (.iload_n 1, 1) := dk_iload_n_1 (by decide +kernel)
theorem dX9_between_6 : decode cX9_between 6 = .ok (.goto 13, 3) := dk_goto (by decide +kernel)
theorem dX9_between_9 : decode cX9_between 9 = .ok (.iload_n 0, 1) := dk_iload_n_0 (by decide +kernel)
theorem dX9_between_10 : decode cX9_between 10 = .ok (.iload_n 2, 1) := dk_iload_n_2 (by decide +kernel)
theorem dX9_between_11 : decode cX9_between 11 = .ok (.if_icmp .le 7, 3) := dk_if_icmp_le (by decide +kernel)
theorem dX9_between_14 : decode cX9_between 14 = .ok (.iload_n 2, 1) := dk_iload_n_2 (by decide +kernel)
theorem dX9_between_15 : decode cX9_between 15 = .ok (.goto 4, 3) := dk_goto (by decide +kernel)
theorem dX9_between_18 : decode cX9_between 18 = .ok (.iload_n 0, 1) := dk_iload_n_0 (by decide +kernel)
theorem dX9_between_19 : decode cX9_between 19 = .ok (.ireturn, 1) := dk_ireturn (by decide +kernel)
set_option maxHeartbeats 4000000 in
set_option maxRecDepth 100000 in
theorem sX9_between (l : Launch) (D : va_G) (k : Nat → ClassId) (sz : Nat) (x_ : Int32) (lo : Int32) (hi : Int32) : Met l yX9_between wsX9_between ({ frames := 0, cells := 0, slots := 0, locals := 0 }) (va_Pc [.int x_, .int lo, .int hi] (kz_Pre D k [] sz)) (va_Qi (fun (rr : Int32) (uu : Unit) => ((rr) = (fX9_between x_ lo hi))) (fun uu zt => kz_B D (va_A [] sz) [] zt) (va_A [] sz)) 0 0 (va_A [] sz) := by
  refine Met.ofW (cc := cX9_between) (maxL := 3) (ret := (some .int)) (by decide) rfl ?_
  intro p e s m args below meth c s₁ B hml hv
  obtain ⟨hav, hsz, hP, hK, hD0, hE⟩ := hv
  have hx := B.exec
  have hb := B.bytes
  have hr := B.returns
  have hts := atoms_spec (ws := wsX9_between) B.pre
  have hown : s.vm.findClass RX9 = some m.cls := findClass_of_methodNamed B.named
  have hlocks := B.notSynchronized
  subst hsz
  have hD := hD0.self (sz := s.heap.size)
  generalize hAe : va_A [] s.heap.size = A at hD ⊢
  have hA : ∀ q : Nat, s.heap.size ≤ q → A q := fun q h => by rw [← hAe]; exact Or.inr h
  have hS : va_S A s.heap s.heap [] := va_S.rf
  have hl := lv_entry ([.int x_, .int lo, .int hi]) (n := 3) (Nat.le_of_ble_eq_true rfl)
  rw [show entryFrame m args 3 = entryFrame m ([.int x_, .int lo, .int hi] : List Value).toArray 3 by rw [hav], lg_entry_eq]
  generalize (lg_sl ([.int x_, .int lo, .int hi]) ++ List.replicate (3 - (lg_sl ([.int x_, .int lo, .int hi])).length) Slot.unset).toArray = ls at hl ⊢
  have hl : lv_has ls 3 [(0, .int x_), (1, .int lo), (2, .int hi)] := hl
  obtain ⟨R, hR⟩ : ∃ R, R = (headSpec wsX9_between ({ frames := 0, cells := 0, slots := 0, locals := 0 } : Room)).room := ⟨_, rfl⟩
  rw [← hR]
  generalize hQ : MQ below _ args s 0 0 A = Q
  replace hQ := hQ.symm
  obtain ⟨H, hH⟩ : ∃ H, H = s.heap := ⟨_, rfl⟩
  rw [← hH] at hP ⊢
  have hS : va_S A s.heap H [] := by rw [hH]; exact hS
  obtain ⟨E0, hE0⟩ : ∃ E0 : Int32, E0 = (fX9_between x_ lo hi) := ⟨_, rfl⟩
  have hZ : (fX9_between x_ lo hi) = E0 := hE0.symm
  refine lv_iload_n hx hb dX9_between_0 rfl (lv_at hl 0 rfl) ?_
  refine lv_iload_n hx hb dX9_between_1 rfl (lv_at hl 1 rfl) ?_
  have hj19_1 : ∀ (s0_19 : Int32) (H : Heap) (locs : List Loc) (ls : Array Slot), (fX9_between_J19a s0_19 = E0) → va_P D vwCl [] H → va_D A [] → va_S A s.heap H locs → lv_has ls 3 [(0, .int x_), (1, .int lo), (2, .int hi)] → W p l e R s m args below meth c H locs 0 0 Q (F0 m 19 ls [.int s0_19]) := by
    intro s0_19 H locs ls hZ hP hD hS hl
    rw [hQ]
    have hP9 := hP.sub (ws' := []) [] rfl
    have hD9 := hD.sub (ws' := []) [] (by decide) rfl
    exact W.iret (v := s0_19) hx hb hr (fun zt ht hW => ⟨⟨s0_19, (), rfl, (hZ.trans hE0), by rw [ht]; exact hP9, hD9⟩, hS.F ht⟩) hS.2.2 dX9_between_19
  refine lv_icmp_ge (tgt := 9) hx hb dX9_between_2 (by decide) (fun c_2 => ?_) (fun c_2 => ?_)
  · exact by
     have t_2 : (Int32.toInt lo) ≤ (Int32.toInt x_) := tI_le rfl rfl c_2
     have hZ := (if_pos c_2).symm.trans hZ
     refine lv_iload_n hx hb dX9_between_9 rfl (lv_at hl 0 rfl) ?_
     refine lv_iload_n hx hb dX9_between_10 rfl (lv_at hl 2 rfl) ?_
     refine lv_icmp_le (tgt := 18) hx hb dX9_between_11 (by decide) (fun c_3 => ?_) (fun c_3 => ?_)
     · exact by
        have t_3 : (Int32.toInt x_) ≤ (Int32.toInt hi) := tI_le rfl rfl c_3
        have hZ := (if_pos c_3).symm.trans hZ
        refine lv_iload_n hx hb dX9_between_18 rfl (lv_at hl 0 rfl) ?_
        exact hj19_1 x_ _ _ _ hZ (hP.sub [] rfl) (hD.sub [] (by decide) rfl) hS (lv_sub hl [0, 1, 2] rfl)
     · exact by
        have t_3 : (Int32.toInt x_) > (Int32.toInt hi) := tI_nle rfl rfl c_3
        have hZ := (if_neg c_3).symm.trans hZ
        refine lv_iload_n hx hb dX9_between_14 rfl (lv_at hl 2 rfl) ?_
        refine lv_goto (tgt := 19) hx hb dX9_between_15 (by decide) ?_
        exact hj19_1 hi _ _ _ hZ (hP.sub [] rfl) (hD.sub [] (by decide) rfl) hS (lv_sub hl [0, 1, 2] rfl)
  · exact by
     have t_2 : (Int32.toInt lo) > (Int32.toInt x_) := tI_nle rfl rfl c_2
     have hZ := (if_neg c_2).symm.trans hZ
     refine lv_iload_n hx hb dX9_between_5 rfl (lv_at hl 1 rfl) ?_
     refine lv_goto (tgt := 19) hx hb dX9_between_6 (by decide) ?_
     exact hj19_1 lo _ _ _ hZ (hP.sub [] rfl) (hD.sub [] (by decide) rfl) hS (lv_sub hl [0, 1, 2] rfl)
set_option maxHeartbeats 4000000 in
set_option maxRecDepth 100000 in
theorem sX9_bits (l : Launch) (D : va_G) (k : Nat → ClassId) (sz : Nat) (x_ : Int32) : Met l yX9_bits wsX9_bits ({ frames := 0, cells := 0, slots := 0, locals := 0 }) (va_Pc [.int x_] (kz_Pre D k [] sz)) (va_Qi (fun (rr : Int32) (uu : Unit) => ((rr) = (fX9_bits x_))) (fun uu zt => kz_B D (va_A [] sz) [] zt) (va_A [] sz)) 0 0 (va_A [] sz) := by
  refine Met.ofW (cc := cX9_bits) (maxL := 3) (ret := (some .int)) (by decide) rfl ?_
  intro p e s m args below meth c s₁ B hml hv
  obtain ⟨hav, hsz, hP, hK, hD0, hE⟩ := hv
  have hx := B.exec
  have hb := B.bytes
  have hr := B.returns
  have hts := atoms_spec (ws := wsX9_bits) B.pre
  have hown : s.vm.findClass RX9 = some m.cls := findClass_of_methodNamed B.named
  have hlocks := B.notSynchronized
  subst hsz
  have hD := hD0.self (sz := s.heap.size)
  generalize hAe : va_A [] s.heap.size = A at hD ⊢
  have hA : ∀ q : Nat, s.heap.size ≤ q → A q := fun q h => by rw [← hAe]; exact Or.inr h
  have hS : va_S A s.heap s.heap [] := va_S.rf
  have hl := lv_entry ([.int x_]) (n := 3) (Nat.le_of_ble_eq_true rfl)
  rw [show entryFrame m args 3 = entryFrame m ([.int x_] : List Value).toArray 3 by rw [hav], lg_entry_eq]
  generalize (lg_sl ([.int x_]) ++ List.replicate (3 - (lg_sl ([.int x_])).length) Slot.unset).toArray = ls at hl ⊢
  have hl : lv_has ls 3 [(0, .int x_)] := hl
  obtain ⟨R, hR⟩ : ∃ R, R = (headSpec wsX9_bits ({ frames := 0, cells := 0, slots := 0, locals := 0 } : Room)).room := ⟨_, rfl⟩
  rw [← hR]
  generalize hQ : MQ below _ args s 0 0 A = Q
  replace hQ := hQ.symm
  obtain ⟨H, hH⟩ : ∃ H, H = s.heap := ⟨_, rfl⟩
  rw [← hH] at hP ⊢
  have hS : va_S A s.heap H [] := by rw [hH]; exact hS
  obtain ⟨E0, hE0⟩ : ∃ E0 : Int32, E0 = (fX9_bits x_) := ⟨_, rfl⟩
  have hZ : (fX9_bits x_) = E0 := hE0.symm
  refine lv_iconst (v := 0) hx hb dX9_bits_0 (by decide) ?_
  refine lv_istore_n (lv' := [(1, .int 0), (0, .int x_)]) hx hb dX9_bits_1 rfl hl (by decide) rfl (fun ls hl => ?_)
  exact by
   refine lv_iconst (v := 0) hx hb dX9_bits_2 (by decide) ?_
   refine lv_istore_n (lv' := [(2, .int 0), (1, .int 0), (0, .int x_)]) hx hb dX9_bits_3 rfl hl (by decide) rfl (fun ls hl => ?_)
   exact by
    have hloop4 : ∀ (nq : Nat) (l1_4 : Int32) (l2_4 : Nat) (H : Heap) (locs : List Loc) (ls : Array Slot), (6 + 1 - l2_4) < nq → (l2_4 ≤ 6) → (lp (fun _ _ => (0 : Int32)) (fX9_bits_B4a x_) nq l1_4 l2_4 = E0) → va_P D vwCl [] H → va_D A [] → va_S A s.heap H locs → lv_has ls 3 [(0, .int x_), (1, .int l1_4), (2, .int (nI l2_4))] → W p l e R s m args below meth c H locs 0 0 Q (F0 m 4 ls []) := by
      intro n4
      induction n4 with
      | zero => intro l1_4 l2_4 H locs ls hm; exact absurd hm (Nat.not_lt_zero _)
      | succ n4 ih4 =>
        intro l1_4 l2_4 H locs ls hm4 i_l2_4 hZ hP hD hS hl
        obtain ⟨rc4_1, hrc4_1⟩ : ∃ r : Int32 → Nat → Int32, r = lp (fun _ _ => (0 : Int32)) (fX9_bits_B4a x_) n4 := ⟨_, rfl⟩
        have hZ : (fX9_bits_B4a x_) rc4_1 l1_4 l2_4 = E0 := by rw [hrc4_1]; exact hZ
        refine lv_iload_n hx hb dX9_bits_4 rfl (lv_at hl 2 rfl) ?_
        refine lv_bipush (v := 6) hx hb dX9_bits_5 (by decide) ?_
        refine lv_icmp_ge (tgt := 24) hx hb dX9_bits_7 (by decide) (fun c_2 => ?_) (fun c_2 => ?_)
        · exact by
           have k_2 : 6 ≤ l2_4 := (nI_leI (a := 6) (b := l2_4) (by omega) (by omega)).mp c_2
           have hZ := (if_pos k_2).symm.trans hZ
           refine lv_iload_n hx hb dX9_bits_24 rfl (lv_at hl 1 rfl) ?_
           rw [hQ]
           have hP9 := hP.sub (ws' := []) [] rfl
           have hD9 := hD.sub (ws' := []) [] (by decide) rfl
           exact W.iret (v := l1_4) hx hb hr (fun zt ht hW => ⟨⟨l1_4, (), rfl, (hZ.trans hE0), by rw [ht]; exact hP9, hD9⟩, hS.F ht⟩) hS.2.2 dX9_bits_25
        · exact by
           have k_2 : ¬ (6 ≤ l2_4) := fun h => c_2 ((nI_leI (a := 6) (b := l2_4) (by omega) (by omega)).mpr h)
           have hZ := (if_neg k_2).symm.trans hZ
           refine lv_iload_n hx hb dX9_bits_10 rfl (lv_at hl 1 rfl) ?_
           refine lv_iload_n hx hb dX9_bits_11 rfl (lv_at hl 0 rfl) ?_
           refine lv_iload_n hx hb dX9_bits_12 rfl (lv_at hl 2 rfl) ?_
           refine lv_ishr hx hb dX9_bits_13 ?_
           refine lv_iconst (v := 1) hx hb dX9_bits_14 (by decide) ?_
           refine lv_iand hx hb dX9_bits_15 ?_
           refine lv_iadd hx hb dX9_bits_16 ?_
           refine lv_istore_n (lv' := [(1, .int (l1_4 + ((x_ >>> ((nI l2_4) &&& 31)) &&& 1))), (0, .int x_), (2, .int (nI l2_4))]) hx hb dX9_bits_17 rfl hl (by decide) rfl (fun ls hl => ?_)
           exact by
            refine lv_iinc (v := (nI (l2_4 + 1))) (lv' := [(2, .int (nI (l2_4 + 1))), (1, .int (l1_4 + ((x_ >>> ((nI l2_4) &&& 31)) &&& 1))), (0, .int x_)]) hx hb dX9_bits_18 hl (k := 2) rfl (nI_1 _) (by decide) rfl (fun ls hl => ?_)
            exact by
             refine lv_goto (tgt := 4) hx hb dX9_bits_21 (by decide) ?_
             exact ih4 (l1_4 + ((x_ >>> ((nI l2_4) &&& 31)) &&& 1)) (l2_4 + 1) _ _ _ (by omega) (by first | omega | assumption) (by rw [← hrc4_1]; exact hZ) (hP.sub [] rfl) (hD.sub [] (by decide) rfl) hS (lv_sub hl [2, 1, 0] rfl)
    exact hloop4 ((6 + 1 - 0) + 1) (0 : Int32) 0 _ _ _ (Nat.lt_succ_self _) (by first | omega | assumption) hZ (hP.sub [] rfl) (hD.sub [] (by decide) rfl) hS (lv_sub hl [2, 1, 0] rfl)
theorem dX9_feed_0 : decode cX9_feed 0 = .ok (.aload_n 0, 1) := dk_aload_n_0 (by decide +kernel)
theorem dX9_feed_1 : decode cX9_feed 1 = .ok (.iconst 0, 1) := dk_iconst_0 (by decide +kernel)
theorem dX9_feed_2 : decode cX9_feed 2 = .ok (.putfield 143, 3) := dk_putfield (by decide +kernel)
theorem dX9_feed_5 : decode cX9_feed 5 = .ok (.iconst 0, 1) := dk_iconst_0 (by decide +kernel)
theorem dX9_feed_6 : decode cX9_feed 6 = .ok (.istore 7, 2) := dk_istore (by decide +kernel)
theorem dX9_feed_8 : decode cX9_feed 8 = .ok (.iload 7, 2) := dk_iload (by decide +kernel)
theorem dX9_feed_10 : decode cX9_feed 10 = .ok (.bipush 24, 2) := dk_bipush (by decide +kernel)
theorem dX9_feed_12 : decode cX9_feed 12 = .ok (.if_icmp .ge 108, 3) := dk_if_icmp_ge (by decide +kernel)
theorem dX9_feed_15 : decode cX9_feed 15 = .ok (.iload 7, 2) := dk_iload (by decide +kernel)
theorem dX9_feed_17 : decode cX9_feed 17 = .ok (.bipush 8, 2) := dk_bipush (by decide +kernel)
theorem dX9_feed_19 : decode cX9_feed 19 = .ok (.if_icmp .ge 7, 3) := dk_if_icmp_ge (by decide +kernel)
theorem dX9_feed_22 : decode cX9_feed 22 = .ok (.lload_n 1, 1) := dk_lload_n_1 (by decide +kernel)
theorem dX9_feed_23 : decode cX9_feed 23 = .ok (.goto 16, 3) := dk_goto (by decide +kernel)
theorem dX9_feed_26 : decode cX9_feed 26 = .ok (.iload 7, 2) := dk_iload (by decide +kernel)
theorem dX9_feed_28 : decode cX9_feed 28 = .ok (.bipush 16, 2) := dk_bipush (by decide +kernel)
theorem dX9_feed_30 : decode cX9_feed 30 = .ok (.if_icmp .ge 7, 3) := dk_if_icmp_ge (by decide +kernel)
theorem dX9_feed_33 : decode cX9_feed 33 = .ok (.lload_n 3, 1) := dk_lload_n_3 (by decide +kernel)
theorem dX9_feed_34 : decode cX9_feed 34 = .ok (.goto 5, 3) := dk_goto (by decide +kernel)
theorem dX9_feed_37 : decode cX9_feed 37 = .ok (.lload 5, 2) := dk_lload (by decide +kernel)
theorem dX9_feed_39 : decode cX9_feed 39 = .ok (.lstore 8, 2) := dk_lstore (by decide +kernel)
theorem dX9_feed_41 : decode cX9_feed 41 = .ok (.lload 8, 2) := dk_lload (by decide +kernel)
theorem dX9_feed_43 : decode cX9_feed 43 = .ok (.bipush 56, 2) := dk_bipush (by decide +kernel)
theorem dX9_feed_45 : decode cX9_feed 45 = .ok (.bipush 8, 2) := dk_bipush (by decide +kernel)
theorem dX9_feed_47 : decode cX9_feed 47 = .ok (.iload 7, 2) := dk_iload (by decide +kernel)
theorem dX9_feed_49 : decode cX9_feed 49 = .ok (.bipush 7, 2) := dk_bipush (by decide +kernel)
theorem dX9_feed_51 : decode cX9_feed 51 = .ok (.iand, 1) := dk_iand (by decide +kernel)
theorem dX9_feed_52 : decode cX9_feed 52 = .ok (.imul, 1) := dk_imul (by decide +kernel)
theorem dX9_feed_53 : decode cX9_feed 53 = .ok (.isub, 1) := dk_isub (by decide +kernel)
theorem dX9_feed_54 : decode cX9_feed 54 = .ok (.lushr, 1) := dk_lushr (by decide +kernel)
theorem dX9_feed_55 : decode cX9_feed 55 = .ok (.ldc2_w 146, 3) := dk_ldc2_w (by decide +kernel)
theorem dX9_feed_58 : decode cX9_feed 58 = .ok (.land, 1) := dk_land (by decide +kernel)
theorem dX9_feed_59 : decode cX9_feed 59 = .ok (.l2i, 1) := dk_l2i (by decide +kernel)
theorem dX9_feed_60 : decode cX9_feed 60 = .ok (.istore 10, 2) := dk_istore (by decide +kernel)
theorem dX9_feed_62 : decode cX9_feed 62 = .ok (.aload_n 0, 1) := dk_aload_n_0 (by decide +kernel)
theorem dX9_feed_63 : decode cX9_feed 63 = .ok (.getfield 148, 3) := dk_getfield (by decide +kernel)
theorem dX9_feed_66 : decode cX9_feed 66 = .ok (.sipush 1000, 3) := dk_sipush (by decide +kernel)
theorem dX9_feed_69 : decode cX9_feed 69 = .ok (.if_icmp .ge 45, 3) := dk_if_icmp_ge (by decide +kernel)
theorem dX9_feed_72 : decode cX9_feed 72 = .ok (.iload 10, 2) := dk_iload (by decide +kernel)
theorem dX9_feed_74 : decode cX9_feed 74 = .ok (.bipush 10, 2) := dk_bipush (by decide +kernel)
theorem dX9_feed_76 : decode cX9_feed 76 = .ok (.if_icmp .eq 17, 3) := dk_if_icmp_eq (by decide +kernel)
theorem dX9_feed_79 : decode cX9_feed 79 = .ok (.iload 10, 2) := dk_iload (by decide +kernel)
theorem dX9_feed_81 : decode cX9_feed 81 = .ok (.bipush 32, 2) := dk_bipush (by decide +kernel)
theorem dX9_feed_83 : decode cX9_feed 83 = .ok (.if_icmp .lt 31, 3) := dk_if_icmp_lt (by decide +kernel)
theorem dX9_feed_86 : decode cX9_feed 86 = .ok (.iload 10, 2) := dk_iload (by decide +kernel)
theorem dX9_feed_88 : decode cX9_feed 88 = .ok (.bipush 126, 2) := dk_bipush (by decide +kernel)
theorem dX9_feed_90 : decode cX9_feed 90 = .ok (.if_icmp .gt 24, 3) := dk_if_icmp_gt (by decide +kernel)
theorem dX9_feed_93 : decode cX9_feed 93 = .ok (.aload_n 0, 1) := dk_aload_n_0 (by decide +kernel)
theorem dX9_feed_94 : decode cX9_feed 94 = .ok (.getfield 7, 3) := dk_getfield (by decide +kernel)
theorem dX9_feed_97 : decode cX9_feed 97 = .ok (.aload_n 0, 1) := dk_aload_n_0 (by decide +kernel)
theorem dX9_feed_98 : decode cX9_feed 98 = .ok (.getfield 148, 3) := dk_getfield (by decide +kernel)
theorem dX9_feed_101 : decode cX9_feed 101 = .ok (.iload 10, 2) := dk_iload (by decide +kernel)
theorem dX9_feed_103 : decode cX9_feed 103 = .ok (.iastore, 1) := dk_iastore (by decide +kernel)
theorem dX9_feed_104 : decode cX9_feed 104 = .ok (.aload_n 0, 1) := dk_aload_n_0 (by decide +kernel)
theorem dX9_feed_105 : decode cX9_feed 105 = .ok (.dup, 1) := dk_dup (by decide +kernel)
theorem dX9_feed_106 : decode cX9_feed 106 = .ok (.getfield 148, 3) := dk_getfield (by decide +kernel)
theorem dX9_feed_109 : decode cX9_feed 109 = .ok (.iconst 1, 1) := dk_iconst_1 (by decide +kernel)
theorem dX9_feed_110 : decode cX9_feed 110 = .ok (.iadd, 1) := dk_iadd (by decide +kernel)
theorem dX9_feed_111 : decode cX9_feed 111 = .ok (.putfield 148, 3) := dk_putfield (by decide +kernel)
theorem dX9_feed_114 : decode cX9_feed 114 = .ok (.iinc 7 1, 3) := dk_iinc (by decide +kernel)
theorem dX9_feed_117 : decode cX9_feed 117 = .ok (.goto (-109), 3) := dk_goto (by decide +kernel)
theorem dX9_feed_120 : decode cX9_feed 120 = .ok (.aload_n 0, 1) := dk_aload_n_0 (by decide +kernel)
theorem dX9_feed_121 : decode cX9_feed 121 = .ok (.getfield 148, 3) := dk_getfield (by decide +kernel)
theorem dX9_feed_124 : decode cX9_feed 124 = .ok (.ireturn, 1) := dk_ireturn (by decide +kernel)
set_option maxHeartbeats 4000000 in
set_option maxRecDepth 100000 in
theorem sX9_feed (l : Launch) (D : va_G) (k : Nat → ClassId) (sz : Nat) (y : Nat) (b1 : Int64) (b2 : Int64) (b3 : Int64) (y_thrown : Int32) (y_taped : Nat) (y_tape : Nat) (y_size : Nat) (y_place : Nat) (y_begin : Nat) (y_token : Nat) (y_word : Int64) (y_told : Int32) (y_wrong : Int32) (y_supper : Nat) (y_guestName : Nat) (y_kind : Nat) (y_offTold : Nat) (y_pace : Nat) (y_cooks : Nat) (y_snow : Nat) (y_lineFrom : Nat) (y_lineTo : Nat) (y_codes : Nat) (y_code : Nat) (y_toldLines : Int32) (y_opened : Nat) (y_compared : Nat) (y_kept : Nat) (y_keptBy : Nat) (y_ahead : Nat) (y_against : Nat) (y_sum : Nat) (y_sumBy : Nat) (y_term : Nat) (y_termBy : Nat) (y_byNot : Nat) (y_valueOf : Nat) (y_given : Int32) (y_lines : Nat) (y_lineWhat : Nat) (y_lineA : Nat) (y_lineB : Nat) (y_seens : Nat) (y_seenIn : Nat) (y_seenYards : Nat) (y_seenNear : Nat) (y_s : Nat) (y_aside : Nat) (y_before : Nat) (y_marked : Nat) (y_undone : Nat) (y_isLaid : Nat) (y_done : Nat) (y_snowNow : Int32) (y_cameNow : Int32) (y_cookThen : Int32) (y_tasteThen : Int32) (y_places : Nat) (y_comesAt : Nat) (y_yardsIn : Nat) (y_g : Int64) (y_tapeF : Nat → Int32) (h_y_taped : y_taped ≤ 1000) (h_y_size : y_size ≤ 1000) (h_y_place : y_place ≤ 1000) (h_y_begin : y_begin ≤ 1000) (h_y_token : y_token ≤ 4) (h_y_told : 0 ≤ Int32.toInt y_told ∧ Int32.toInt y_told ≤ 9999) (h_y_code : y_code ≤ 2000) (h_y_done : y_done ≤ 16) : Met l yX9_feed wsX9_feed ({ frames := 0, cells := 0, slots := 0, locals := 0 }) (va_Pc [.ref y, .long b1, .long b2, .long b3] (kz_Pre D k [(y, kO 9 [.int y_thrown, .int (nI y_taped), .ref y_tape, .int (nI y_size), .int (nI y_place), .int (nI y_begin), .int (nI y_token), .long y_word, .int y_told, .int y_wrong, .ref y_supper, .ref y_guestName, .ref y_kind, .ref y_offTold, .ref y_pace, .ref y_cooks, .ref y_snow, .ref y_lineFrom, .ref y_lineTo, .ref y_codes, .int (nI y_code), .int y_toldLines, .ref y_opened, .ref y_compared, .ref y_kept, .ref y_keptBy, .ref y_ahead, .ref y_against, .ref y_sum, .ref y_sumBy, .ref y_term, .ref y_termBy, .ref y_byNot, .ref y_valueOf, .int y_given, .ref y_lines, .ref y_lineWhat, .ref y_lineA, .ref y_lineB, .ref y_seens, .ref y_seenIn, .ref y_seenYards, .ref y_seenNear, .ref y_s, .ref y_aside, .ref y_before, .ref y_marked, .ref y_undone, .ref y_isLaid, .int (nI y_done), .int y_snowNow, .int y_cameNow, .int y_cookThen, .int y_tasteThen, .ref y_places, .ref y_comesAt, .ref y_yardsIn, .long y_g]), (y_tape, kI k 1000 y_tapeF)] sz)) (va_Qi (fun (rr : Int32) (uu : Int32 × Nat × (Nat → Int32)) => (uu.2.1 ≤ 1000) ∧ ((uu.1, uu.2.1, uu.2.2, rr) = (fX9_feed b1 b2 b3 y_taped y_tapeF))) (fun uu zt => kz_B D (va_A [(y, kO 9 [.int y_thrown, .int (nI y_taped), .ref y_tape, .int (nI y_size), .int (nI y_place), .int (nI y_begin), .int (nI y_token), .long y_word, .int y_told, .int y_wrong, .ref y_supper, .ref y_guestName, .ref y_kind, .ref y_offTold, .ref y_pace, .ref y_cooks, .ref y_snow, .ref y_lineFrom, .ref y_lineTo, .ref y_codes, .int (nI y_code), .int y_toldLines, .ref y_opened, .ref y_compared, .ref y_kept, .ref y_keptBy, .ref y_ahead, .ref y_against, .ref y_sum, .ref y_sumBy, .ref y_term, .ref y_termBy, .ref y_byNot, .ref y_valueOf, .int y_given, .ref y_lines, .ref y_lineWhat, .ref y_lineA, .ref y_lineB, .ref y_seens, .ref y_seenIn, .ref y_seenYards, .ref y_seenNear, .ref y_s, .ref y_aside, .ref y_before, .ref y_marked, .ref y_undone, .ref y_isLaid, .int (nI y_done), .int y_snowNow, .int y_cameNow, .int y_cookThen, .int y_tasteThen, .ref y_places, .ref y_comesAt, .ref y_yardsIn, .long y_g]), (y_tape, kI k 1000 y_tapeF)] sz) [(y, kO 9 [.int uu.1, .int (nI uu.2.1), .ref y_tape, .int (nI y_size), .int (nI y_place), .int (nI y_begin), .int (nI y_token), .long y_word, .int y_told, .int y_wrong, .ref y_supper, .ref y_guestName, .ref y_kind, .ref y_offTold, .ref y_pace, .ref y_cooks, .ref y_snow, .ref y_lineFrom, .ref y_lineTo, .ref y_codes, .int (nI y_code), .int y_toldLines, .ref y_opened, .ref y_compared, .ref y_kept, .ref y_keptBy, .ref y_ahead, .ref y_against, .ref y_sum, .ref y_sumBy, .ref y_term, .ref y_termBy, .ref y_byNot, .ref y_valueOf, .int y_given, .ref y_lines, .ref y_lineWhat, .ref y_lineA, .ref y_lineB, .ref y_seens, .ref y_seenIn, .ref y_seenYards, .ref y_seenNear, .ref y_s, .ref y_aside, .ref y_before, .ref y_marked, .ref y_undone, .ref y_isLaid, .int (nI y_done), .int y_snowNow, .int y_cameNow, .int y_cookThen, .int y_tasteThen, .ref y_places, .ref y_comesAt, .ref y_yardsIn, .long y_g]), (y_tape, kI k 1000 uu.2.2)] zt) (va_A [(y, kO 9 [.int y_thrown, .int (nI y_taped), .ref y_tape, .int (nI y_size), .int (nI y_place), .int (nI y_begin), .int (nI y_token), .long y_word, .int y_told, .int y_wrong, .ref y_supper, .ref y_guestName, .ref y_kind, .ref y_offTold, .ref y_pace, .ref y_cooks, .ref y_snow, .ref y_lineFrom, .ref y_lineTo, .ref y_codes, .int (nI y_code), .int y_toldLines, .ref y_opened, .ref y_compared, .ref y_kept, .ref y_keptBy, .ref y_ahead, .ref y_against, .ref y_sum, .ref y_sumBy, .ref y_term, .ref y_termBy, .ref y_byNot, .ref y_valueOf, .int y_given, .ref y_lines, .ref y_lineWhat, .ref y_lineA, .ref y_lineB, .ref y_seens, .ref y_seenIn, .ref y_seenYards, .ref y_seenNear, .ref y_s, .ref y_aside, .ref y_before, .ref y_marked, .ref y_undone, .ref y_isLaid, .int (nI y_done), .int y_snowNow, .int y_cameNow, .int y_cookThen, .int y_tasteThen, .ref y_places, .ref y_comesAt, .ref y_yardsIn, .long y_g]), (y_tape, kI k 1000 y_tapeF)] sz)) 0 0 (va_A [(y, kO 9 [.int y_thrown, .int (nI y_taped), .ref y_tape, .int (nI y_size), .int (nI y_place), .int (nI y_begin), .int (nI y_token), .long y_word, .int y_told, .int y_wrong, .ref y_supper, .ref y_guestName, .ref y_kind, .ref y_offTold, .ref y_pace, .ref y_cooks, .ref y_snow, .ref y_lineFrom, .ref y_lineTo, .ref y_codes, .int (nI y_code), .int y_toldLines, .ref y_opened, .ref y_compared, .ref y_kept, .ref y_keptBy, .ref y_ahead, .ref y_against, .ref y_sum, .ref y_sumBy, .ref y_term, .ref y_termBy, .ref y_byNot, .ref y_valueOf, .int y_given, .ref y_lines, .ref y_lineWhat, .ref y_lineA, .ref y_lineB, .ref y_seens, .ref y_seenIn, .ref y_seenYards, .ref y_seenNear, .ref y_s, .ref y_aside, .ref y_before, .ref y_marked, .ref y_undone, .ref y_isLaid, .int (nI y_done), .int y_snowNow, .int y_cameNow, .int y_cookThen, .int y_tasteThen, .ref y_places, .ref y_comesAt, .ref y_yardsIn, .long y_g]), (y_tape, kI k 1000 y_tapeF)] sz) := by
  refine Met.ofW (cc := cX9_feed) (maxL := 11) (ret := (some .int)) (by decide) rfl ?_
  intro p e s m args below meth c s₁ B hml hv
  obtain ⟨hav, hsz, hP, hK, hD0, hE⟩ := hv
  have hx := B.exec
  have hb := B.bytes
  have hr := B.returns
  have hts := atoms_spec (ws := wsX9_feed) B.pre
  have hown : s.vm.findClass RX9 = some m.cls := findClass_of_methodNamed B.named
  have hlocks := B.notSynchronized
  have hi9 : ∀ w ∈ u_ws RX9 TX9 58, w ∈ wsX9_feed := fun w h9 => List.mem_cons_of_mem _ (List.mem_append_right _ h9)
  have lf143 := hts (.fieldLink RX9 143 "LastCookModel" "thrown" "I") (List.mem_cons_of_mem _ (List.mem_append_left _ (List.mem_of_getElem? (i := 0) rfl)))
  have lf148 := hts (.fieldLink RX9 148 "LastCookModel" "taped" "I") (List.mem_cons_of_mem _ (List.mem_append_left _ (List.mem_of_getElem? (i := 2) rfl)))
  have lc146 := hts (.constantLong RX9 146 (255)) (List.mem_cons_of_mem _ (List.mem_append_left _ (List.mem_of_getElem? (i := 1) rfl)))
  have lf7 := hts (.fieldLink RX9 7 "LastCookModel" "tape" "[I") (List.mem_cons_of_mem _ (List.mem_append_left _ (List.mem_of_getElem? (i := 3) rfl)))
  subst hsz
  have hD := hD0.self (sz := s.heap.size)
  generalize hAe : va_A [(y, kO 9 [.int y_thrown, .int (nI y_taped), .ref y_tape, .int (nI y_size), .int (nI y_place), .int (nI y_begin), .int (nI y_token), .long y_word, .int y_told, .int y_wrong, .ref y_supper, .ref y_guestName, .ref y_kind, .ref y_offTold, .ref y_pace, .ref y_cooks, .ref y_snow, .ref y_lineFrom, .ref y_lineTo, .ref y_codes, .int (nI y_code), .int y_toldLines, .ref y_opened, .ref y_compared, .ref y_kept, .ref y_keptBy, .ref y_ahead, .ref y_against, .ref y_sum, .ref y_sumBy, .ref y_term, .ref y_termBy, .ref y_byNot, .ref y_valueOf, .int y_given, .ref y_lines, .ref y_lineWhat, .ref y_lineA, .ref y_lineB, .ref y_seens, .ref y_seenIn, .ref y_seenYards, .ref y_seenNear, .ref y_s, .ref y_aside, .ref y_before, .ref y_marked, .ref y_undone, .ref y_isLaid, .int (nI y_done), .int y_snowNow, .int y_cameNow, .int y_cookThen, .int y_tasteThen, .ref y_places, .ref y_comesAt, .ref y_yardsIn, .long y_g]), (y_tape, kI k 1000 y_tapeF)] s.heap.size = A at hD ⊢
  have hA : ∀ q : Nat, s.heap.size ≤ q → A q := fun q h => by rw [← hAe]; exact Or.inr h
  have hS : va_S A s.heap s.heap [] := va_S.rf
  have hl := lv_entry ([.ref y, .long b1, .long b2, .long b3]) (n := 11) (Nat.le_of_ble_eq_true rfl)
  rw [show entryFrame m args 11 = entryFrame m ([.ref y, .long b1, .long b2, .long b3] : List Value).toArray 11 by rw [hav], lg_entry_eq]
  generalize (lg_sl ([.ref y, .long b1, .long b2, .long b3]) ++ List.replicate (11 - (lg_sl ([.ref y, .long b1, .long b2, .long b3])).length) Slot.unset).toArray = ls at hl ⊢
  have hl : lv_has ls 11 [(0, .ref y), (1, .long b1), (3, .long b2), (5, .long b3)] := hl
  obtain ⟨R, hR⟩ : ∃ R, R = (headSpec wsX9_feed ({ frames := 0, cells := 0, slots := 0, locals := 0 } : Room)).room := ⟨_, rfl⟩
  rw [← hR]
  generalize hQ : MQ below _ args s 0 0 A = Q
  replace hQ := hQ.symm
  obtain ⟨H, hH⟩ : ∃ H, H = s.heap := ⟨_, rfl⟩
  rw [← hH] at hP ⊢
  have hS : va_S A s.heap H [] := by rw [hH]; exact hS
  obtain ⟨E0, hE0⟩ : ∃ E0 : Int32 × Nat × (Nat → Int32) × Int32, E0 = (fX9_feed b1 b2 b3 y_taped y_tapeF) := ⟨_, rfl⟩
  have hZ : (fX9_feed b1 b2 b3 y_taped y_tapeF) = E0 := hE0.symm
  refine lv_aload_n hx hb dX9_feed_0 rfl (lv_at hl 0 rfl) ?_
  refine lv_iconst (v := 0) hx hb dX9_feed_1 (by decide) ?_
  refine va_put (D := D) (ci := 9) (v := .int 0) (ty := .int) (C := RX9) (T := TX9) (N := 58) hx hb hts hi9 tyX9 tyX9_ok nmX9 hown hK hP hD hS 0 rfl rfl 0 (by decide) lf143 (fun _ h9 => h9) rfl (by decide +kernel) rfl rfl (Nat.le_of_ble_eq_true rfl) dX9_feed_2 (fun H locs hP hD hS => ?_)
  exact by
   have hP : va_P D vwCl [(y, kO 9 [.int 0, .int (nI y_taped), .ref y_tape, .int (nI y_size), .int (nI y_place), .int (nI y_begin), .int (nI y_token), .long y_word, .int y_told, .int y_wrong, .ref y_supper, .ref y_guestName, .ref y_kind, .ref y_offTold, .ref y_pace, .ref y_cooks, .ref y_snow, .ref y_lineFrom, .ref y_lineTo, .ref y_codes, .int (nI y_code), .int y_toldLines, .ref y_opened, .ref y_compared, .ref y_kept, .ref y_keptBy, .ref y_ahead, .ref y_against, .ref y_sum, .ref y_sumBy, .ref y_term, .ref y_termBy, .ref y_byNot, .ref y_valueOf, .int y_given, .ref y_lines, .ref y_lineWhat, .ref y_lineA, .ref y_lineB, .ref y_seens, .ref y_seenIn, .ref y_seenYards, .ref y_seenNear, .ref y_s, .ref y_aside, .ref y_before, .ref y_marked, .ref y_undone, .ref y_isLaid, .int (nI y_done), .int y_snowNow, .int y_cameNow, .int y_cookThen, .int y_tasteThen, .ref y_places, .ref y_comesAt, .ref y_yardsIn, .long y_g]), (y_tape, kI k 1000 y_tapeF)] H := hP
   have hD : va_D A [(y, kO 9 [.int 0, .int (nI y_taped), .ref y_tape, .int (nI y_size), .int (nI y_place), .int (nI y_begin), .int (nI y_token), .long y_word, .int y_told, .int y_wrong, .ref y_supper, .ref y_guestName, .ref y_kind, .ref y_offTold, .ref y_pace, .ref y_cooks, .ref y_snow, .ref y_lineFrom, .ref y_lineTo, .ref y_codes, .int (nI y_code), .int y_toldLines, .ref y_opened, .ref y_compared, .ref y_kept, .ref y_keptBy, .ref y_ahead, .ref y_against, .ref y_sum, .ref y_sumBy, .ref y_term, .ref y_termBy, .ref y_byNot, .ref y_valueOf, .int y_given, .ref y_lines, .ref y_lineWhat, .ref y_lineA, .ref y_lineB, .ref y_seens, .ref y_seenIn, .ref y_seenYards, .ref y_seenNear, .ref y_s, .ref y_aside, .ref y_before, .ref y_marked, .ref y_undone, .ref y_isLaid, .int (nI y_done), .int y_snowNow, .int y_cameNow, .int y_cookThen, .int y_tasteThen, .ref y_places, .ref y_comesAt, .ref y_yardsIn, .long y_g]), (y_tape, kI k 1000 y_tapeF)] := hD
   refine lv_iconst (v := 0) hx hb dX9_feed_5 (by decide) ?_
   refine lv_istore (lv' := [(7, .int 0), (0, .ref y), (1, .long b1), (3, .long b2), (5, .long b3)]) hx hb dX9_feed_6 hl (by decide) rfl (fun ls hl => ?_)
   exact by
    have hloop8 : ∀ (nq : Nat) (l7_8 : Nat) (fy_1_8 : Nat) (ay_tape_8 : Nat → Int32) (H : Heap) (locs : List Loc) (ls : Array Slot), (24 + 1 - l7_8) < nq → (l7_8 ≤ 24) → (fy_1_8 ≤ 1000) → (lp (fun _ _ _ => ((0 : Int32), 0, (fun _ => 0), (0 : Int32))) (fX9_feed_B8a b1 b2 b3) nq l7_8 fy_1_8 ay_tape_8 = E0) → va_P D vwCl [(y, kO 9 [.int 0, .int (nI fy_1_8), .ref y_tape, .int (nI y_size), .int (nI y_place), .int (nI y_begin), .int (nI y_token), .long y_word, .int y_told, .int y_wrong, .ref y_supper, .ref y_guestName, .ref y_kind, .ref y_offTold, .ref y_pace, .ref y_cooks, .ref y_snow, .ref y_lineFrom, .ref y_lineTo, .ref y_codes, .int (nI y_code), .int y_toldLines, .ref y_opened, .ref y_compared, .ref y_kept, .ref y_keptBy, .ref y_ahead, .ref y_against, .ref y_sum, .ref y_sumBy, .ref y_term, .ref y_termBy, .ref y_byNot, .ref y_valueOf, .int y_given, .ref y_lines, .ref y_lineWhat, .ref y_lineA, .ref y_lineB, .ref y_seens, .ref y_seenIn, .ref y_seenYards, .ref y_seenNear, .ref y_s, .ref y_aside, .ref y_before, .ref y_marked, .ref y_undone, .ref y_isLaid, .int (nI y_done), .int y_snowNow, .int y_cameNow, .int y_cookThen, .int y_tasteThen, .ref y_places, .ref y_comesAt, .ref y_yardsIn, .long y_g]), (y_tape, kI k 1000 ay_tape_8)] H → va_D A [(y, kO 9 [.int 0, .int (nI fy_1_8), .ref y_tape, .int (nI y_size), .int (nI y_place), .int (nI y_begin), .int (nI y_token), .long y_word, .int y_told, .int y_wrong, .ref y_supper, .ref y_guestName, .ref y_kind, .ref y_offTold, .ref y_pace, .ref y_cooks, .ref y_snow, .ref y_lineFrom, .ref y_lineTo, .ref y_codes, .int (nI y_code), .int y_toldLines, .ref y_opened, .ref y_compared, .ref y_kept, .ref y_keptBy, .ref y_ahead, .ref y_against, .ref y_sum, .ref y_sumBy, .ref y_term, .ref y_termBy, .ref y_byNot, .ref y_valueOf, .int y_given, .ref y_lines, .ref y_lineWhat, .ref y_lineA, .ref y_lineB, .ref y_seens, .ref y_seenIn, .ref y_seenYards, .ref y_seenNear, .ref y_s, .ref y_aside, .ref y_before, .ref y_marked, .ref y_undone, .ref y_isLaid, .int (nI y_done), .int y_snowNow, .int y_cameNow, .int y_cookThen, .int y_tasteThen, .ref y_places, .ref y_comesAt, .ref y_yardsIn, .long y_g]), (y_tape, kI k 1000 ay_tape_8)] → va_S A s.heap H locs → lv_has ls 11 [(0, .ref y), (1, .long b1), (3, .long b2), (5, .long b3), (7, .int (nI l7_8))] → W p l e R s m args below meth c H locs 0 0 Q (F0 m 8 ls []) := by
      intro n8
      induction n8 with
      | zero => intro l7_8 fy_1_8 ay_tape_8 H locs ls hm; exact absurd hm (Nat.not_lt_zero _)
      | succ n8 ih8 =>
        intro l7_8 fy_1_8 ay_tape_8 H locs ls hm8 i_l7_8 i_fy_1_8 hZ hP hD hS hl
        obtain ⟨rc8_1, hrc8_1⟩ : ∃ r : Nat → Nat → (Nat → Int32) → Int32 × Nat × (Nat → Int32) × Int32, r = lp (fun _ _ _ => ((0 : Int32), 0, (fun _ => 0), (0 : Int32))) (fX9_feed_B8a b1 b2 b3) n8 := ⟨_, rfl⟩
        have hZ : (fX9_feed_B8a b1 b2 b3) rc8_1 l7_8 fy_1_8 ay_tape_8 = E0 := by rw [hrc8_1]; exact hZ
        refine lv_iload hx hb dX9_feed_8 (lv_at hl 4 rfl) ?_
        refine lv_bipush (v := 24) hx hb dX9_feed_10 (by decide) ?_
        refine lv_icmp_ge (tgt := 120) hx hb dX9_feed_12 (by decide) (fun c_2 => ?_) (fun c_2 => ?_)
        · exact by
           have k_2 : 24 ≤ l7_8 := (nI_leI (a := 24) (b := l7_8) (by omega) (by omega)).mp c_2
           have hZ := (if_pos k_2).symm.trans hZ
           refine lv_aload_n hx hb dX9_feed_120 rfl (lv_at hl 0 rfl) ?_
           refine va_get (D := D) (ci := 9) (v := .int (nI fy_1_8)) (C := RX9) (T := TX9) (N := 58) hx hb hts hi9 hown hK hP 0 rfl rfl 1 (by decide) lf148 (fun _ h9 => h9) rfl dX9_feed_121 ?_
           rw [hQ]
           have hP9 := hP.sub (ws' := [(y, kO 9 [.int (0 : Int32), .int (nI fy_1_8), .ref y_tape, .int (nI y_size), .int (nI y_place), .int (nI y_begin), .int (nI y_token), .long y_word, .int y_told, .int y_wrong, .ref y_supper, .ref y_guestName, .ref y_kind, .ref y_offTold, .ref y_pace, .ref y_cooks, .ref y_snow, .ref y_lineFrom, .ref y_lineTo, .ref y_codes, .int (nI y_code), .int y_toldLines, .ref y_opened, .ref y_compared, .ref y_kept, .ref y_keptBy, .ref y_ahead, .ref y_against, .ref y_sum, .ref y_sumBy, .ref y_term, .ref y_termBy, .ref y_byNot, .ref y_valueOf, .int y_given, .ref y_lines, .ref y_lineWhat, .ref y_lineA, .ref y_lineB, .ref y_seens, .ref y_seenIn, .ref y_seenYards, .ref y_seenNear, .ref y_s, .ref y_aside, .ref y_before, .ref y_marked, .ref y_undone, .ref y_isLaid, .int (nI y_done), .int y_snowNow, .int y_cameNow, .int y_cookThen, .int y_tasteThen, .ref y_places, .ref y_comesAt, .ref y_yardsIn, .long y_g]), (y_tape, kI k 1000 ay_tape_8)]) [0, 1] rfl
           have hD9 := hD.sub (ws' := [(y, kO 9 [.int (0 : Int32), .int (nI fy_1_8), .ref y_tape, .int (nI y_size), .int (nI y_place), .int (nI y_begin), .int (nI y_token), .long y_word, .int y_told, .int y_wrong, .ref y_supper, .ref y_guestName, .ref y_kind, .ref y_offTold, .ref y_pace, .ref y_cooks, .ref y_snow, .ref y_lineFrom, .ref y_lineTo, .ref y_codes, .int (nI y_code), .int y_toldLines, .ref y_opened, .ref y_compared, .ref y_kept, .ref y_keptBy, .ref y_ahead, .ref y_against, .ref y_sum, .ref y_sumBy, .ref y_term, .ref y_termBy, .ref y_byNot, .ref y_valueOf, .int y_given, .ref y_lines, .ref y_lineWhat, .ref y_lineA, .ref y_lineB, .ref y_seens, .ref y_seenIn, .ref y_seenYards, .ref y_seenNear, .ref y_s, .ref y_aside, .ref y_before, .ref y_marked, .ref y_undone, .ref y_isLaid, .int (nI y_done), .int y_snowNow, .int y_cameNow, .int y_cookThen, .int y_tasteThen, .ref y_places, .ref y_comesAt, .ref y_yardsIn, .long y_g]), (y_tape, kI k 1000 ay_tape_8)]) [0, 1] (by decide +kernel) rfl
           exact W.iret (v := (nI fy_1_8)) hx hb hr (fun zt ht hW => ⟨⟨(nI fy_1_8), ⟨(0 : Int32), fy_1_8, ay_tape_8⟩, rfl, ⟨(by first | omega | (dsimp only; omega) | assumption), (hZ.trans hE0)⟩, by rw [ht]; exact hP9, hD9⟩, hS.F ht⟩) hS.2.2 dX9_feed_124
        · exact by
           have k_2 : ¬ (24 ≤ l7_8) := fun h => c_2 ((nI_leI (a := 24) (b := l7_8) (by omega) (by omega)).mpr h)
           have hZ := (if_neg k_2).symm.trans hZ
           refine lv_iload hx hb dX9_feed_15 (lv_at hl 4 rfl) ?_
           refine lv_bipush (v := 8) hx hb dX9_feed_17 (by decide) ?_
           have hj39_3 : ∀ (s0_39 : Int64) (H : Heap) (locs : List Loc) (ls : Array Slot), ((fX9_feed_J39a l7_8 fy_1_8 ay_tape_8 rc8_1) s0_39 = E0) → va_P D vwCl [(y, kO 9 [.int 0, .int (nI fy_1_8), .ref y_tape, .int (nI y_size), .int (nI y_place), .int (nI y_begin), .int (nI y_token), .long y_word, .int y_told, .int y_wrong, .ref y_supper, .ref y_guestName, .ref y_kind, .ref y_offTold, .ref y_pace, .ref y_cooks, .ref y_snow, .ref y_lineFrom, .ref y_lineTo, .ref y_codes, .int (nI y_code), .int y_toldLines, .ref y_opened, .ref y_compared, .ref y_kept, .ref y_keptBy, .ref y_ahead, .ref y_against, .ref y_sum, .ref y_sumBy, .ref y_term, .ref y_termBy, .ref y_byNot, .ref y_valueOf, .int y_given, .ref y_lines, .ref y_lineWhat, .ref y_lineA, .ref y_lineB, .ref y_seens, .ref y_seenIn, .ref y_seenYards, .ref y_seenNear, .ref y_s, .ref y_aside, .ref y_before, .ref y_marked, .ref y_undone, .ref y_isLaid, .int (nI y_done), .int y_snowNow, .int y_cameNow, .int y_cookThen, .int y_tasteThen, .ref y_places, .ref y_comesAt, .ref y_yardsIn, .long y_g]), (y_tape, kI k 1000 ay_tape_8)] H → va_D A [(y, kO 9 [.int 0, .int (nI fy_1_8), .ref y_tape, .int (nI y_size), .int (nI y_place), .int (nI y_begin), .int (nI y_token), .long y_word, .int y_told, .int y_wrong, .ref y_supper, .ref y_guestName, .ref y_kind, .ref y_offTold, .ref y_pace, .ref y_cooks, .ref y_snow, .ref y_lineFrom, .ref y_lineTo, .ref y_codes, .int (nI y_code), .int y_toldLines, .ref y_opened, .ref y_compared, .ref y_kept, .ref y_keptBy, .ref y_ahead, .ref y_against, .ref y_sum, .ref y_sumBy, .ref y_term, .ref y_termBy, .ref y_byNot, .ref y_valueOf, .int y_given, .ref y_lines, .ref y_lineWhat, .ref y_lineA, .ref y_lineB, .ref y_seens, .ref y_seenIn, .ref y_seenYards, .ref y_seenNear, .ref y_s, .ref y_aside, .ref y_before, .ref y_marked, .ref y_undone, .ref y_isLaid, .int (nI y_done), .int y_snowNow, .int y_cameNow, .int y_cookThen, .int y_tasteThen, .ref y_places, .ref y_comesAt, .ref y_yardsIn, .long y_g]), (y_tape, kI k 1000 ay_tape_8)] → va_S A s.heap H locs → lv_has ls 11 [(0, .ref y), (1, .long b1), (3, .long b2), (5, .long b3), (7, .int (nI l7_8))] → W p l e R s m args below meth c H locs 0 0 Q (F0 m 39 ls [.long s0_39]) := by
             intro s0_39 H locs ls hZ hP hD hS hl
             refine lv_lstore (lv' := [(8, .long s0_39), (0, .ref y), (1, .long b1), (3, .long b2), (5, .long b3), (7, .int (nI l7_8))]) hx hb dX9_feed_39 hl (by decide) rfl (fun ls hl => ?_)
             exact by
              refine lv_lload hx hb dX9_feed_41 (lv_at hl 0 rfl) ?_
              refine lv_bipush (v := 56) hx hb dX9_feed_43 (by decide) ?_
              refine lv_bipush (v := 8) hx hb dX9_feed_45 (by decide) ?_
              refine lv_iload hx hb dX9_feed_47 (lv_at hl 5 rfl) ?_
              refine lv_bipush (v := 7) hx hb dX9_feed_49 (by decide) ?_
              refine lv_iand hx hb dX9_feed_51 ?_
              refine lv_imul hx hb dX9_feed_52 ?_
              refine lv_isub hx hb dX9_feed_53 ?_
              refine lv_lushr hx hb dX9_feed_54 rfl ?_
              refine lv_ldc2 hx hb hown lc146 dX9_feed_55 ?_
              refine lv_land hx hb dX9_feed_58 ?_
              refine lv_l2i hx hb dX9_feed_59 rfl ?_
              refine lv_istore (lv' := [(10, .int ((((s0_39.toUInt64 >>> ((56 - (8 * ((nI l7_8) &&& 7))).toInt64.toUInt64 &&& Int64.toUInt64 63)).toInt64) &&& 255).toInt32)), (8, .long s0_39), (0, .ref y), (1, .long b1), (3, .long b2), (5, .long b3), (7, .int (nI l7_8))]) hx hb dX9_feed_60 hl (by decide) rfl (fun ls hl => ?_)
              exact by
               refine lv_aload_n hx hb dX9_feed_62 rfl (lv_at hl 2 rfl) ?_
               refine va_get (D := D) (ci := 9) (v := .int (nI fy_1_8)) (C := RX9) (T := TX9) (N := 58) hx hb hts hi9 hown hK hP 0 rfl rfl 1 (by decide) lf148 (fun _ h9 => h9) rfl dX9_feed_63 ?_
               refine lv_sipush (v := 1000) hx hb dX9_feed_66 (by decide) ?_
               have hj114_4 : ∀ (fy_1_114 : Nat) (ay_tape_114 : Nat → Int32) (H : Heap) (locs : List Loc) (ls : Array Slot), (fy_1_114 ≤ 1000) → ((fX9_feed_J114a l7_8 rc8_1) fy_1_114 ay_tape_114 = E0) → va_P D vwCl [(y, kO 9 [.int 0, .int (nI fy_1_114), .ref y_tape, .int (nI y_size), .int (nI y_place), .int (nI y_begin), .int (nI y_token), .long y_word, .int y_told, .int y_wrong, .ref y_supper, .ref y_guestName, .ref y_kind, .ref y_offTold, .ref y_pace, .ref y_cooks, .ref y_snow, .ref y_lineFrom, .ref y_lineTo, .ref y_codes, .int (nI y_code), .int y_toldLines, .ref y_opened, .ref y_compared, .ref y_kept, .ref y_keptBy, .ref y_ahead, .ref y_against, .ref y_sum, .ref y_sumBy, .ref y_term, .ref y_termBy, .ref y_byNot, .ref y_valueOf, .int y_given, .ref y_lines, .ref y_lineWhat, .ref y_lineA, .ref y_lineB, .ref y_seens, .ref y_seenIn, .ref y_seenYards, .ref y_seenNear, .ref y_s, .ref y_aside, .ref y_before, .ref y_marked, .ref y_undone, .ref y_isLaid, .int (nI y_done), .int y_snowNow, .int y_cameNow, .int y_cookThen, .int y_tasteThen, .ref y_places, .ref y_comesAt, .ref y_yardsIn, .long y_g]), (y_tape, kI k 1000 ay_tape_114)] H → va_D A [(y, kO 9 [.int 0, .int (nI fy_1_114), .ref y_tape, .int (nI y_size), .int (nI y_place), .int (nI y_begin), .int (nI y_token), .long y_word, .int y_told, .int y_wrong, .ref y_supper, .ref y_guestName, .ref y_kind, .ref y_offTold, .ref y_pace, .ref y_cooks, .ref y_snow, .ref y_lineFrom, .ref y_lineTo, .ref y_codes, .int (nI y_code), .int y_toldLines, .ref y_opened, .ref y_compared, .ref y_kept, .ref y_keptBy, .ref y_ahead, .ref y_against, .ref y_sum, .ref y_sumBy, .ref y_term, .ref y_termBy, .ref y_byNot, .ref y_valueOf, .int y_given, .ref y_lines, .ref y_lineWhat, .ref y_lineA, .ref y_lineB, .ref y_seens, .ref y_seenIn, .ref y_seenYards, .ref y_seenNear, .ref y_s, .ref y_aside, .ref y_before, .ref y_marked, .ref y_undone, .ref y_isLaid, .int (nI y_done), .int y_snowNow, .int y_cameNow, .int y_cookThen, .int y_tasteThen, .ref y_places, .ref y_comesAt, .ref y_yardsIn, .long y_g]), (y_tape, kI k 1000 ay_tape_114)] → va_S A s.heap H locs → lv_has ls 11 [(0, .ref y), (1, .long b1), (3, .long b2), (5, .long b3), (7, .int (nI l7_8)), (8, .long s0_39), (10, .int ((((s0_39.toUInt64 >>> ((56 - (8 * ((nI l7_8) &&& 7))).toInt64.toUInt64 &&& Int64.toUInt64 63)).toInt64) &&& 255).toInt32))] → W p l e R s m args below meth c H locs 0 0 Q (F0 m 114 ls []) := by
                 intro fy_1_114 ay_tape_114 H locs ls i_fy_1_114 hZ hP hD hS hl
                 refine lv_iinc (v := (nI (l7_8 + 1))) (lv' := [(7, .int (nI (l7_8 + 1))), (0, .ref y), (1, .long b1), (3, .long b2), (5, .long b3), (8, .long s0_39), (10, .int ((((s0_39.toUInt64 >>> ((56 - (8 * ((nI l7_8) &&& 7))).toInt64.toUInt64 &&& Int64.toUInt64 63)).toInt64) &&& 255).toInt32))]) hx hb dX9_feed_114 hl (k := 4) rfl (nI_1 _) (by decide) rfl (fun ls hl => ?_)
                 exact by
                  refine lv_goto (tgt := 8) hx hb dX9_feed_117 (by decide) ?_
                  exact ih8 (l7_8 + 1) fy_1_114 ay_tape_114 _ _ _ (by omega) (by first | omega | assumption) (by first | omega | assumption) (by rw [← hrc8_1]; exact hZ) (hP.sub [0, 1] rfl) (hD.sub [0, 1] (by decide +kernel) rfl) hS (lv_sub hl [1, 2, 3, 4, 0] rfl)
               refine lv_icmp_ge (tgt := 114) hx hb dX9_feed_69 (by decide) (fun c_5 => ?_) (fun c_5 => ?_)
               · exact by
                  have k_5 : 1000 ≤ fy_1_8 := (nI_leI (a := 1000) (b := fy_1_8) (by omega) (by omega)).mp c_5
                  have hZ := (if_pos k_5).symm.trans hZ
                  exact hj114_4 fy_1_8 ay_tape_8 _ _ _ (by first | omega | assumption) hZ (hP.sub [0, 1] rfl) (hD.sub [0, 1] (by decide +kernel) rfl) hS (lv_sub hl [2, 3, 4, 5, 6, 1, 0] rfl)
               · exact by
                  have k_5 : ¬ (1000 ≤ fy_1_8) := fun h => c_5 ((nI_leI (a := 1000) (b := fy_1_8) (by omega) (by omega)).mpr h)
                  have hZ := (if_neg k_5).symm.trans hZ
                  refine lv_iload hx hb dX9_feed_72 (lv_at hl 0 rfl) ?_
                  refine lv_bipush (v := 10) hx hb dX9_feed_74 (by decide) ?_
                  have hj93_6 : ∀ (H : Heap) (locs : List Loc) (ls : Array Slot), ((fX9_feed_J93a l7_8 fy_1_8 ay_tape_8 rc8_1 s0_39) = E0) → va_P D vwCl [(y, kO 9 [.int 0, .int (nI fy_1_8), .ref y_tape, .int (nI y_size), .int (nI y_place), .int (nI y_begin), .int (nI y_token), .long y_word, .int y_told, .int y_wrong, .ref y_supper, .ref y_guestName, .ref y_kind, .ref y_offTold, .ref y_pace, .ref y_cooks, .ref y_snow, .ref y_lineFrom, .ref y_lineTo, .ref y_codes, .int (nI y_code), .int y_toldLines, .ref y_opened, .ref y_compared, .ref y_kept, .ref y_keptBy, .ref y_ahead, .ref y_against, .ref y_sum, .ref y_sumBy, .ref y_term, .ref y_termBy, .ref y_byNot, .ref y_valueOf, .int y_given, .ref y_lines, .ref y_lineWhat, .ref y_lineA, .ref y_lineB, .ref y_seens, .ref y_seenIn, .ref y_seenYards, .ref y_seenNear, .ref y_s, .ref y_aside, .ref y_before, .ref y_marked, .ref y_undone, .ref y_isLaid, .int (nI y_done), .int y_snowNow, .int y_cameNow, .int y_cookThen, .int y_tasteThen, .ref y_places, .ref y_comesAt, .ref y_yardsIn, .long y_g]), (y_tape, kI k 1000 ay_tape_8)] H → va_D A [(y, kO 9 [.int 0, .int (nI fy_1_8), .ref y_tape, .int (nI y_size), .int (nI y_place), .int (nI y_begin), .int (nI y_token), .long y_word, .int y_told, .int y_wrong, .ref y_supper, .ref y_guestName, .ref y_kind, .ref y_offTold, .ref y_pace, .ref y_cooks, .ref y_snow, .ref y_lineFrom, .ref y_lineTo, .ref y_codes, .int (nI y_code), .int y_toldLines, .ref y_opened, .ref y_compared, .ref y_kept, .ref y_keptBy, .ref y_ahead, .ref y_against, .ref y_sum, .ref y_sumBy, .ref y_term, .ref y_termBy, .ref y_byNot, .ref y_valueOf, .int y_given, .ref y_lines, .ref y_lineWhat, .ref y_lineA, .ref y_lineB, .ref y_seens, .ref y_seenIn, .ref y_seenYards, .ref y_seenNear, .ref y_s, .ref y_aside, .ref y_before, .ref y_marked, .ref y_undone, .ref y_isLaid, .int (nI y_done), .int y_snowNow, .int y_cameNow, .int y_cookThen, .int y_tasteThen, .ref y_places, .ref y_comesAt, .ref y_yardsIn, .long y_g]), (y_tape, kI k 1000 ay_tape_8)] → va_S A s.heap H locs → lv_has ls 11 [(0, .ref y), (1, .long b1), (3, .long b2), (5, .long b3), (7, .int (nI l7_8)), (8, .long s0_39), (10, .int ((((s0_39.toUInt64 >>> ((56 - (8 * ((nI l7_8) &&& 7))).toInt64.toUInt64 &&& Int64.toUInt64 63)).toInt64) &&& 255).toInt32))] → W p l e R s m args below meth c H locs 0 0 Q (F0 m 93 ls []) := by
                    intro H locs ls hZ hP hD hS hl
                    refine lv_aload_n hx hb dX9_feed_93 rfl (lv_at hl 0 rfl) ?_
                    refine va_get (D := D) (ci := 9) (v := .ref y_tape) (C := RX9) (T := TX9) (N := 58) hx hb hts hi9 hown hK hP 0 rfl rfl 2 (by decide) lf7 (fun _ h9 => h9) rfl dX9_feed_94 ?_
                    refine lv_aload_n hx hb dX9_feed_97 rfl (lv_at hl 0 rfl) ?_
                    refine va_get (D := D) (ci := 9) (v := .int (nI fy_1_8)) (C := RX9) (T := TX9) (N := 58) hx hb hts hi9 hown hK hP 0 rfl rfl 1 (by decide) lf148 (fun _ h9 => h9) rfl dX9_feed_98 ?_
                    refine lv_iload hx hb dX9_feed_101 (lv_at hl 6 rfl) ?_
                    refine va_iast hx hb hK hP hD hS 1 0 rfl rfl (vp_in_nI (n := fy_1_8) (by omega) (by omega)) dX9_feed_103 (fun H locs hP hD hS => ?_)
                    exact by
                     have hP : va_P D vwCl [(y, kO 9 [.int 0, .int (nI fy_1_8), .ref y_tape, .int (nI y_size), .int (nI y_place), .int (nI y_begin), .int (nI y_token), .long y_word, .int y_told, .int y_wrong, .ref y_supper, .ref y_guestName, .ref y_kind, .ref y_offTold, .ref y_pace, .ref y_cooks, .ref y_snow, .ref y_lineFrom, .ref y_lineTo, .ref y_codes, .int (nI y_code), .int y_toldLines, .ref y_opened, .ref y_compared, .ref y_kept, .ref y_keptBy, .ref y_ahead, .ref y_against, .ref y_sum, .ref y_sumBy, .ref y_term, .ref y_termBy, .ref y_byNot, .ref y_valueOf, .int y_given, .ref y_lines, .ref y_lineWhat, .ref y_lineA, .ref y_lineB, .ref y_seens, .ref y_seenIn, .ref y_seenYards, .ref y_seenNear, .ref y_s, .ref y_aside, .ref y_before, .ref y_marked, .ref y_undone, .ref y_isLaid, .int (nI y_done), .int y_snowNow, .int y_cameNow, .int y_cookThen, .int y_tasteThen, .ref y_places, .ref y_comesAt, .ref y_yardsIn, .long y_g]), (y_tape, kI k 1000 (upd ay_tape_8 (Int32.toNatClampNeg (nI fy_1_8)) ((((s0_39.toUInt64 >>> ((56 - (8 * ((nI l7_8) &&& 7))).toInt64.toUInt64 &&& Int64.toUInt64 63)).toInt64) &&& 255).toInt32)))] H := hP
                     have hD : va_D A [(y, kO 9 [.int 0, .int (nI fy_1_8), .ref y_tape, .int (nI y_size), .int (nI y_place), .int (nI y_begin), .int (nI y_token), .long y_word, .int y_told, .int y_wrong, .ref y_supper, .ref y_guestName, .ref y_kind, .ref y_offTold, .ref y_pace, .ref y_cooks, .ref y_snow, .ref y_lineFrom, .ref y_lineTo, .ref y_codes, .int (nI y_code), .int y_toldLines, .ref y_opened, .ref y_compared, .ref y_kept, .ref y_keptBy, .ref y_ahead, .ref y_against, .ref y_sum, .ref y_sumBy, .ref y_term, .ref y_termBy, .ref y_byNot, .ref y_valueOf, .int y_given, .ref y_lines, .ref y_lineWhat, .ref y_lineA, .ref y_lineB, .ref y_seens, .ref y_seenIn, .ref y_seenYards, .ref y_seenNear, .ref y_s, .ref y_aside, .ref y_before, .ref y_marked, .ref y_undone, .ref y_isLaid, .int (nI y_done), .int y_snowNow, .int y_cameNow, .int y_cookThen, .int y_tasteThen, .ref y_places, .ref y_comesAt, .ref y_yardsIn, .long y_g]), (y_tape, kI k 1000 (upd ay_tape_8 (Int32.toNatClampNeg (nI fy_1_8)) ((((s0_39.toUInt64 >>> ((56 - (8 * ((nI l7_8) &&& 7))).toInt64.toUInt64 &&& Int64.toUInt64 63)).toInt64) &&& 255).toInt32)))] := hD
                     refine lv_aload_n hx hb dX9_feed_104 rfl (lv_at hl 0 rfl) ?_
                     refine lv_dup hx hb dX9_feed_105 rfl ?_
                     refine va_get (D := D) (ci := 9) (v := .int (nI fy_1_8)) (C := RX9) (T := TX9) (N := 58) hx hb hts hi9 hown hK hP 0 rfl rfl 1 (by decide) lf148 (fun _ h9 => h9) rfl dX9_feed_106 ?_
                     refine lv_iconst (v := 1) hx hb dX9_feed_109 (by decide) ?_
                     refine lv_iadd hx hb dX9_feed_110 ?_
                     refine lv_topi (fun x7 ex7 => ?_)
                     exact by
                      obtain rfl : x7 = (nI (fy_1_8 + 1)) := ex7.trans (nI_add fy_1_8 1)
                      refine va_put (D := D) (ci := 9) (v := .int (nI (fy_1_8 + 1))) (ty := .int) (C := RX9) (T := TX9) (N := 58) hx hb hts hi9 tyX9 tyX9_ok nmX9 hown hK hP hD hS 0 rfl rfl 1 (by decide) lf148 (fun _ h9 => h9) rfl (by decide +kernel) rfl rfl (Nat.le_of_ble_eq_true rfl) dX9_feed_111 (fun H locs hP hD hS => ?_)
                      exact by
                       have hP : va_P D vwCl [(y, kO 9 [.int 0, .int (nI (fy_1_8 + 1)), .ref y_tape, .int (nI y_size), .int (nI y_place), .int (nI y_begin), .int (nI y_token), .long y_word, .int y_told, .int y_wrong, .ref y_supper, .ref y_guestName, .ref y_kind, .ref y_offTold, .ref y_pace, .ref y_cooks, .ref y_snow, .ref y_lineFrom, .ref y_lineTo, .ref y_codes, .int (nI y_code), .int y_toldLines, .ref y_opened, .ref y_compared, .ref y_kept, .ref y_keptBy, .ref y_ahead, .ref y_against, .ref y_sum, .ref y_sumBy, .ref y_term, .ref y_termBy, .ref y_byNot, .ref y_valueOf, .int y_given, .ref y_lines, .ref y_lineWhat, .ref y_lineA, .ref y_lineB, .ref y_seens, .ref y_seenIn, .ref y_seenYards, .ref y_seenNear, .ref y_s, .ref y_aside, .ref y_before, .ref y_marked, .ref y_undone, .ref y_isLaid, .int (nI y_done), .int y_snowNow, .int y_cameNow, .int y_cookThen, .int y_tasteThen, .ref y_places, .ref y_comesAt, .ref y_yardsIn, .long y_g]), (y_tape, kI k 1000 (upd ay_tape_8 (Int32.toNatClampNeg (nI fy_1_8)) ((((s0_39.toUInt64 >>> ((56 - (8 * ((nI l7_8) &&& 7))).toInt64.toUInt64 &&& Int64.toUInt64 63)).toInt64) &&& 255).toInt32)))] H := hP
                       have hD : va_D A [(y, kO 9 [.int 0, .int (nI (fy_1_8 + 1)), .ref y_tape, .int (nI y_size), .int (nI y_place), .int (nI y_begin), .int (nI y_token), .long y_word, .int y_told, .int y_wrong, .ref y_supper, .ref y_guestName, .ref y_kind, .ref y_offTold, .ref y_pace, .ref y_cooks, .ref y_snow, .ref y_lineFrom, .ref y_lineTo, .ref y_codes, .int (nI y_code), .int y_toldLines, .ref y_opened, .ref y_compared, .ref y_kept, .ref y_keptBy, .ref y_ahead, .ref y_against, .ref y_sum, .ref y_sumBy, .ref y_term, .ref y_termBy, .ref y_byNot, .ref y_valueOf, .int y_given, .ref y_lines, .ref y_lineWhat, .ref y_lineA, .ref y_lineB, .ref y_seens, .ref y_seenIn, .ref y_seenYards, .ref y_seenNear, .ref y_s, .ref y_aside, .ref y_before, .ref y_marked, .ref y_undone, .ref y_isLaid, .int (nI y_done), .int y_snowNow, .int y_cameNow, .int y_cookThen, .int y_tasteThen, .ref y_places, .ref y_comesAt, .ref y_yardsIn, .long y_g]), (y_tape, kI k 1000 (upd ay_tape_8 (Int32.toNatClampNeg (nI fy_1_8)) ((((s0_39.toUInt64 >>> ((56 - (8 * ((nI l7_8) &&& 7))).toInt64.toUInt64 &&& Int64.toUInt64 63)).toInt64) &&& 255).toInt32)))] := hD
                       exact hj114_4 (fy_1_8 + 1) (upd ay_tape_8 (Int32.toNatClampNeg (nI fy_1_8)) ((((s0_39.toUInt64 >>> ((56 - (8 * ((nI l7_8) &&& 7))).toInt64.toUInt64 &&& Int64.toUInt64 63)).toInt64) &&& 255).toInt32)) _ _ _ (by first | omega | assumption) hZ (hP.sub [0, 1] rfl) (hD.sub [0, 1] (by decide +kernel) rfl) hS (lv_sub hl [0, 1, 2, 3, 4, 5, 6] rfl)
                  refine lv_icmp_eq (tgt := 93) hx hb dX9_feed_76 (by decide) (fun c_8 => ?_) (fun c_8 => ?_)
                  · exact by
                     have t_8 : (Int32.toInt ((((s0_39.toUInt64 >>> ((56 - (8 * ((nI l7_8) &&& 7))).toInt64.toUInt64 &&& Int64.toUInt64 63)).toInt64) &&& 255).toInt32)) = 10 := tI_eq rfl (by decide) c_8
                     have hZ := (if_pos c_8).symm.trans hZ
                     exact hj93_6 _ _ _ hZ (hP.sub [0, 1] rfl) (hD.sub [0, 1] (by decide +kernel) rfl) hS (lv_sub hl [2, 3, 4, 5, 6, 1, 0] rfl)
                  · exact by
                     have t_8 : (Int32.toInt ((((s0_39.toUInt64 >>> ((56 - (8 * ((nI l7_8) &&& 7))).toInt64.toUInt64 &&& Int64.toUInt64 63)).toInt64) &&& 255).toInt32)) ≠ 10 := tI_ne rfl (by decide) c_8
                     have hZ := (if_neg c_8).symm.trans hZ
                     refine lv_iload hx hb dX9_feed_79 (lv_at hl 0 rfl) ?_
                     refine lv_bipush (v := 32) hx hb dX9_feed_81 (by decide) ?_
                     refine lv_icmp_lt (tgt := 114) hx hb dX9_feed_83 (by decide) (fun c_9 => ?_) (fun c_9 => ?_)
                     · exact by
                        have t_9 : (Int32.toInt ((((s0_39.toUInt64 >>> ((56 - (8 * ((nI l7_8) &&& 7))).toInt64.toUInt64 &&& Int64.toUInt64 63)).toInt64) &&& 255).toInt32)) < 32 := tI_lt rfl (by decide) c_9
                        have hZ := (if_pos c_9).symm.trans hZ
                        exact hj114_4 fy_1_8 ay_tape_8 _ _ _ (by first | omega | assumption) hZ (hP.sub [0, 1] rfl) (hD.sub [0, 1] (by decide +kernel) rfl) hS (lv_sub hl [2, 3, 4, 5, 6, 1, 0] rfl)
                     · exact by
                        have t_9 : (Int32.toInt ((((s0_39.toUInt64 >>> ((56 - (8 * ((nI l7_8) &&& 7))).toInt64.toUInt64 &&& Int64.toUInt64 63)).toInt64) &&& 255).toInt32)) ≥ 32 := tI_nlt rfl (by decide) c_9
                        have hZ := (if_neg c_9).symm.trans hZ
                        refine lv_iload hx hb dX9_feed_86 (lv_at hl 0 rfl) ?_
                        refine lv_bipush (v := 126) hx hb dX9_feed_88 (by decide) ?_
                        refine lv_icmp_gt (tgt := 114) hx hb dX9_feed_90 (by decide) (fun c_10 => ?_) (fun c_10 => ?_)
                        · exact by
                           have t_10 : 126 < (Int32.toInt ((((s0_39.toUInt64 >>> ((56 - (8 * ((nI l7_8) &&& 7))).toInt64.toUInt64 &&& Int64.toUInt64 63)).toInt64) &&& 255).toInt32)) := tI_lt (by decide) rfl c_10
                           have hZ := (if_pos c_10).symm.trans hZ
                           exact hj114_4 fy_1_8 ay_tape_8 _ _ _ (by first | omega | assumption) hZ (hP.sub [0, 1] rfl) (hD.sub [0, 1] (by decide +kernel) rfl) hS (lv_sub hl [2, 3, 4, 5, 6, 1, 0] rfl)
                        · exact by
                           have t_10 : 126 ≥ (Int32.toInt ((((s0_39.toUInt64 >>> ((56 - (8 * ((nI l7_8) &&& 7))).toInt64.toUInt64 &&& Int64.toUInt64 63)).toInt64) &&& 255).toInt32)) := tI_nlt (by decide) rfl c_10
                           have hZ := (if_neg c_10).symm.trans hZ
                           exact hj93_6 _ _ _ hZ (hP.sub [0, 1] rfl) (hD.sub [0, 1] (by decide +kernel) rfl) hS (lv_sub hl [2, 3, 4, 5, 6, 1, 0] rfl)
           refine lv_icmp_ge (tgt := 26) hx hb dX9_feed_19 (by decide) (fun c_11 => ?_) (fun c_11 => ?_)
           · exact by
              have k_11 : 8 ≤ l7_8 := (nI_leI (a := 8) (b := l7_8) (by omega) (by omega)).mp c_11
              have hZ := (if_pos k_11).symm.trans hZ
              refine lv_iload hx hb dX9_feed_26 (lv_at hl 4 rfl) ?_
              refine lv_bipush (v := 16) hx hb dX9_feed_28 (by decide) ?_
              refine lv_icmp_ge (tgt := 37) hx hb dX9_feed_30 (by decide) (fun c_12 => ?_) (fun c_12 => ?_)
              · exact by
                 have k_12 : 16 ≤ l7_8 := (nI_leI (a := 16) (b := l7_8) (by omega) (by omega)).mp c_12
                 have hZ := (if_pos k_12).symm.trans hZ
                 refine lv_lload hx hb dX9_feed_37 (lv_at hl 3 rfl) ?_
                 exact hj39_3 b3 _ _ _ hZ (hP.sub [0, 1] rfl) (hD.sub [0, 1] (by decide +kernel) rfl) hS (lv_sub hl [0, 1, 2, 3, 4] rfl)
              · exact by
                 have k_12 : ¬ (16 ≤ l7_8) := fun h => c_12 ((nI_leI (a := 16) (b := l7_8) (by omega) (by omega)).mpr h)
                 have hZ := (if_neg k_12).symm.trans hZ
                 refine lv_lload_n hx hb dX9_feed_33 rfl (lv_at hl 2 rfl) ?_
                 refine lv_goto (tgt := 39) hx hb dX9_feed_34 (by decide) ?_
                 exact hj39_3 b2 _ _ _ hZ (hP.sub [0, 1] rfl) (hD.sub [0, 1] (by decide +kernel) rfl) hS (lv_sub hl [0, 1, 2, 3, 4] rfl)
           · exact by
              have k_11 : ¬ (8 ≤ l7_8) := fun h => c_11 ((nI_leI (a := 8) (b := l7_8) (by omega) (by omega)).mpr h)
              have hZ := (if_neg k_11).symm.trans hZ
              refine lv_lload_n hx hb dX9_feed_22 rfl (lv_at hl 1 rfl) ?_
              refine lv_goto (tgt := 39) hx hb dX9_feed_23 (by decide) ?_
              exact hj39_3 b1 _ _ _ hZ (hP.sub [0, 1] rfl) (hD.sub [0, 1] (by decide +kernel) rfl) hS (lv_sub hl [0, 1, 2, 3, 4] rfl)
    exact hloop8 ((24 + 1 - 0) + 1) 0 y_taped y_tapeF _ _ _ (Nat.lt_succ_self _) (by first | omega | assumption) (by first | omega | assumption) hZ (hP.sub [0, 1] rfl) (hD.sub [0, 1] (by decide +kernel) rfl) hS (lv_sub hl [1, 2, 3, 4, 0] rfl)
theorem dX9_signAt_0 : decode cX9_signAt 0 = .ok (.iload_n 1, 1) := dk_iload_n_1 (by decide +kernel)
theorem dX9_signAt_1 : decode cX9_signAt 1 = .ok (.aload_n 0, 1) := dk_aload_n_0 (by decide +kernel)
theorem dX9_signAt_2 : decode cX9_signAt 2 = .ok (.getfield 151, 3) := dk_getfield (by decide +kernel)
theorem dX9_signAt_5 : decode cX9_signAt 5 = .ok (.if_icmp .ge 12, 3) := dk_if_icmp_ge (by decide +kernel)
theorem dX9_signAt_8 : decode cX9_signAt 8 = .ok (.aload_n 0, 1) := dk_aload_n_0 (by decide +kernel)
theorem dX9_signAt_9 : decode cX9_signAt 9 = .ok (.getfield 7, 3) := dk_getfield (by decide +kernel)
theorem dX9_signAt_12 : decode cX9_signAt 12 = .ok (.iload_n 1, 1) := dk_iload_n_1 (by decide +kernel)
theorem dX9_signAt_13 : decode cX9_signAt 13 = .ok (.iaload, 1) := dk_iaload (by decide +kernel)
theorem dX9_signAt_14 : decode cX9_signAt 14 = .ok (.goto 4, 3) := dk_goto (by decide +kernel)
theorem dX9_signAt_17 : decode cX9_signAt 17 = .ok (.iconst 0, 1) := dk_iconst_0 (by decide +kernel)
theorem dX9_signAt_18 : decode cX9_signAt 18 = .ok (.ireturn, 1) := dk_ireturn (by decide +kernel)
set_option maxHeartbeats 4000000 in
set_option maxRecDepth 100000 in
theorem sX9_signAt (l : Launch) (D : va_G) (k : Nat → ClassId) (sz : Nat) (y : Nat) (kk : Nat) (y_thrown : Int32) (y_taped : Nat) (y_tape : Nat) (y_size : Nat) (y_place : Nat) (y_begin : Nat) (y_token : Nat) (y_word : Int64) (y_told : Int32) (y_wrong : Int32) (y_supper : Nat) (y_guestName : Nat) (y_kind : Nat) (y_offTold : Nat) (y_pace : Nat) (y_cooks : Nat) (y_snow : Nat) (y_lineFrom : Nat) (y_lineTo : Nat) (y_codes : Nat) (y_code : Nat) (y_toldLines : Int32) (y_opened : Nat) (y_compared : Nat) (y_kept : Nat) (y_keptBy : Nat) (y_ahead : Nat) (y_against : Nat) (y_sum : Nat) (y_sumBy : Nat) (y_term : Nat) (y_termBy : Nat) (y_byNot : Nat) (y_valueOf : Nat) (y_given : Int32) (y_lines : Nat) (y_lineWhat : Nat) (y_lineA : Nat) (y_lineB : Nat) (y_seens : Nat) (y_seenIn : Nat) (y_seenYards : Nat) (y_seenNear : Nat) (y_s : Nat) (y_aside : Nat) (y_before : Nat) (y_marked : Nat) (y_undone : Nat) (y_isLaid : Nat) (y_done : Nat) (y_snowNow : Int32) (y_cameNow : Int32) (y_cookThen : Int32) (y_tasteThen : Int32) (y_places : Nat) (y_comesAt : Nat) (y_yardsIn : Nat) (y_g : Int64) (y_tapeF : Nat → Int32) (hkk : kk ≤ 1000) (h_y_taped : y_taped ≤ 1000) (h_y_size : y_size ≤ 1000) (h_y_place : y_place ≤ 1000) (h_y_begin : y_begin ≤ 1000) (h_y_token : y_token ≤ 4) (h_y_told : 0 ≤ Int32.toInt y_told ∧ Int32.toInt y_told ≤ 9999) (h_y_code : y_code ≤ 2000) (h_y_done : y_done ≤ 16) : Met l yX9_signAt wsX9_signAt ({ frames := 0, cells := 0, slots := 0, locals := 0 }) (va_Pc [.ref y, .int (nI kk)] (kz_Pre D k [(y, kO 9 [.int y_thrown, .int (nI y_taped), .ref y_tape, .int (nI y_size), .int (nI y_place), .int (nI y_begin), .int (nI y_token), .long y_word, .int y_told, .int y_wrong, .ref y_supper, .ref y_guestName, .ref y_kind, .ref y_offTold, .ref y_pace, .ref y_cooks, .ref y_snow, .ref y_lineFrom, .ref y_lineTo, .ref y_codes, .int (nI y_code), .int y_toldLines, .ref y_opened, .ref y_compared, .ref y_kept, .ref y_keptBy, .ref y_ahead, .ref y_against, .ref y_sum, .ref y_sumBy, .ref y_term, .ref y_termBy, .ref y_byNot, .ref y_valueOf, .int y_given, .ref y_lines, .ref y_lineWhat, .ref y_lineA, .ref y_lineB, .ref y_seens, .ref y_seenIn, .ref y_seenYards, .ref y_seenNear, .ref y_s, .ref y_aside, .ref y_before, .ref y_marked, .ref y_undone, .ref y_isLaid, .int (nI y_done), .int y_snowNow, .int y_cameNow, .int y_cookThen, .int y_tasteThen, .ref y_places, .ref y_comesAt, .ref y_yardsIn, .long y_g]), (y_tape, kI k 1000 y_tapeF)] sz)) (va_Qi (fun (rr : Int32) (uu : Unit) => rr = sgn y_tapeF y_size kk) (fun uu zt => kz_B D (va_A [(y, kO 9 [.int y_thrown, .int (nI y_taped), .ref y_tape, .int (nI y_size), .int (nI y_place), .int (nI y_begin), .int (nI y_token), .long y_word, .int y_told, .int y_wrong, .ref y_supper, .ref y_guestName, .ref y_kind, .ref y_offTold, .ref y_pace, .ref y_cooks, .ref y_snow, .ref y_lineFrom, .ref y_lineTo, .ref y_codes, .int (nI y_code), .int y_toldLines, .ref y_opened, .ref y_compared, .ref y_kept, .ref y_keptBy, .ref y_ahead, .ref y_against, .ref y_sum, .ref y_sumBy, .ref y_term, .ref y_termBy, .ref y_byNot, .ref y_valueOf, .int y_given, .ref y_lines, .ref y_lineWhat, .ref y_lineA, .ref y_lineB, .ref y_seens, .ref y_seenIn, .ref y_seenYards, .ref y_seenNear, .ref y_s, .ref y_aside, .ref y_before, .ref y_marked, .ref y_undone, .ref y_isLaid, .int (nI y_done), .int y_snowNow, .int y_cameNow, .int y_cookThen, .int y_tasteThen, .ref y_places, .ref y_comesAt, .ref y_yardsIn, .long y_g]), (y_tape, kI k 1000 y_tapeF)] sz) [(y, kO 9 [.int y_thrown, .int (nI y_taped), .ref y_tape, .int (nI y_size), .int (nI y_place), .int (nI y_begin), .int (nI y_token), .long y_word, .int y_told, .int y_wrong, .ref y_supper, .ref y_guestName, .ref y_kind, .ref y_offTold, .ref y_pace, .ref y_cooks, .ref y_snow, .ref y_lineFrom, .ref y_lineTo, .ref y_codes, .int (nI y_code), .int y_toldLines, .ref y_opened, .ref y_compared, .ref y_kept, .ref y_keptBy, .ref y_ahead, .ref y_against, .ref y_sum, .ref y_sumBy, .ref y_term, .ref y_termBy, .ref y_byNot, .ref y_valueOf, .int y_given, .ref y_lines, .ref y_lineWhat, .ref y_lineA, .ref y_lineB, .ref y_seens, .ref y_seenIn, .ref y_seenYards, .ref y_seenNear, .ref y_s, .ref y_aside, .ref y_before, .ref y_marked, .ref y_undone, .ref y_isLaid, .int (nI y_done), .int y_snowNow, .int y_cameNow, .int y_cookThen, .int y_tasteThen, .ref y_places, .ref y_comesAt, .ref y_yardsIn, .long y_g]), (y_tape, kI k 1000 y_tapeF)] zt) (va_A [(y, kO 9 [.int y_thrown, .int (nI y_taped), .ref y_tape, .int (nI y_size), .int (nI y_place), .int (nI y_begin), .int (nI y_token), .long y_word, .int y_told, .int y_wrong, .ref y_supper, .ref y_guestName, .ref y_kind, .ref y_offTold, .ref y_pace, .ref y_cooks, .ref y_snow, .ref y_lineFrom, .ref y_lineTo, .ref y_codes, .int (nI y_code), .int y_toldLines, .ref y_opened, .ref y_compared, .ref y_kept, .ref y_keptBy, .ref y_ahead, .ref y_against, .ref y_sum, .ref y_sumBy, .ref y_term, .ref y_termBy, .ref y_byNot, .ref y_valueOf, .int y_given, .ref y_lines, .ref y_lineWhat, .ref y_lineA, .ref y_lineB, .ref y_seens, .ref y_seenIn, .ref y_seenYards, .ref y_seenNear, .ref y_s, .ref y_aside, .ref y_before, .ref y_marked, .ref y_undone, .ref y_isLaid, .int (nI y_done), .int y_snowNow, .int y_cameNow, .int y_cookThen, .int y_tasteThen, .ref y_places, .ref y_comesAt, .ref y_yardsIn, .long y_g]), (y_tape, kI k 1000 y_tapeF)] sz)) 0 0 (va_A [(y, kO 9 [.int y_thrown, .int (nI y_taped), .ref y_tape, .int (nI y_size), .int (nI y_place), .int (nI y_begin), .int (nI y_token), .long y_word, .int y_told, .int y_wrong, .ref y_supper, .ref y_guestName, .ref y_kind, .ref y_offTold, .ref y_pace, .ref y_cooks, .ref y_snow, .ref y_lineFrom, .ref y_lineTo, .ref y_codes, .int (nI y_code), .int y_toldLines, .ref y_opened, .ref y_compared, .ref y_kept, .ref y_keptBy, .ref y_ahead, .ref y_against, .ref y_sum, .ref y_sumBy, .ref y_term, .ref y_termBy, .ref y_byNot, .ref y_valueOf, .int y_given, .ref y_lines, .ref y_lineWhat, .ref y_lineA, .ref y_lineB, .ref y_seens, .ref y_seenIn, .ref y_seenYards, .ref y_seenNear, .ref y_s, .ref y_aside, .ref y_before, .ref y_marked, .ref y_undone, .ref y_isLaid, .int (nI y_done), .int y_snowNow, .int y_cameNow, .int y_cookThen, .int y_tasteThen, .ref y_places, .ref y_comesAt, .ref y_yardsIn, .long y_g]), (y_tape, kI k 1000 y_tapeF)] sz) := by
  refine Met.ofW (cc := cX9_signAt) (maxL := 2) (ret := (some .int)) (by decide) rfl ?_
  intro p e s m args below meth c s₁ B hml hv
  obtain ⟨hav, hsz, hP, hK, hD0, hE⟩ := hv
  have hx := B.exec
  have hb := B.bytes
  have hr := B.returns
  have hts := atoms_spec (ws := wsX9_signAt) B.pre
  have hown : s.vm.findClass RX9 = some m.cls := findClass_of_methodNamed B.named
  have hlocks := B.notSynchronized
  have hi9 : ∀ w ∈ u_ws RX9 TX9 58, w ∈ wsX9_signAt := fun w h9 => List.mem_cons_of_mem _ (List.mem_append_right _ h9)
  have lf151 := hts (.fieldLink RX9 151 "LastCookModel" "size" "I") (List.mem_cons_of_mem _ (List.mem_append_left _ (List.mem_of_getElem? (i := 0) rfl)))
  have lf7 := hts (.fieldLink RX9 7 "LastCookModel" "tape" "[I") (List.mem_cons_of_mem _ (List.mem_append_left _ (List.mem_of_getElem? (i := 1) rfl)))
  subst hsz
  have hD := hD0.self (sz := s.heap.size)
  generalize hAe : va_A [(y, kO 9 [.int y_thrown, .int (nI y_taped), .ref y_tape, .int (nI y_size), .int (nI y_place), .int (nI y_begin), .int (nI y_token), .long y_word, .int y_told, .int y_wrong, .ref y_supper, .ref y_guestName, .ref y_kind, .ref y_offTold, .ref y_pace, .ref y_cooks, .ref y_snow, .ref y_lineFrom, .ref y_lineTo, .ref y_codes, .int (nI y_code), .int y_toldLines, .ref y_opened, .ref y_compared, .ref y_kept, .ref y_keptBy, .ref y_ahead, .ref y_against, .ref y_sum, .ref y_sumBy, .ref y_term, .ref y_termBy, .ref y_byNot, .ref y_valueOf, .int y_given, .ref y_lines, .ref y_lineWhat, .ref y_lineA, .ref y_lineB, .ref y_seens, .ref y_seenIn, .ref y_seenYards, .ref y_seenNear, .ref y_s, .ref y_aside, .ref y_before, .ref y_marked, .ref y_undone, .ref y_isLaid, .int (nI y_done), .int y_snowNow, .int y_cameNow, .int y_cookThen, .int y_tasteThen, .ref y_places, .ref y_comesAt, .ref y_yardsIn, .long y_g]), (y_tape, kI k 1000 y_tapeF)] s.heap.size = A at hD ⊢
  have hA : ∀ q : Nat, s.heap.size ≤ q → A q := fun q h => by rw [← hAe]; exact Or.inr h
  have hS : va_S A s.heap s.heap [] := va_S.rf
  have hl := lv_entry ([.ref y, .int (nI kk)]) (n := 2) (Nat.le_of_ble_eq_true rfl)
  rw [show entryFrame m args 2 = entryFrame m ([.ref y, .int (nI kk)] : List Value).toArray 2 by rw [hav], lg_entry_eq]
  generalize (lg_sl ([.ref y, .int (nI kk)]) ++ List.replicate (2 - (lg_sl ([.ref y, .int (nI kk)])).length) Slot.unset).toArray = ls at hl ⊢
  have hl : lv_has ls 2 [(0, .ref y), (1, .int (nI kk))] := hl
  obtain ⟨R, hR⟩ : ∃ R, R = (headSpec wsX9_signAt ({ frames := 0, cells := 0, slots := 0, locals := 0 } : Room)).room := ⟨_, rfl⟩
  rw [← hR]
  generalize hQ : MQ below _ args s 0 0 A = Q
  replace hQ := hQ.symm
  obtain ⟨H, hH⟩ : ∃ H, H = s.heap := ⟨_, rfl⟩
  rw [← hH] at hP ⊢
  have hS : va_S A s.heap H [] := by rw [hH]; exact hS
  refine lv_iload_n hx hb dX9_signAt_0 rfl (lv_at hl 1 rfl) ?_
  refine lv_aload_n hx hb dX9_signAt_1 rfl (lv_at hl 0 rfl) ?_
  refine va_get (D := D) (ci := 9) (v := .int (nI y_size)) (C := RX9) (T := TX9) (N := 58) hx hb hts hi9 hown hK hP 0 rfl rfl 3 (by decide) lf151 (fun _ h9 => h9) rfl dX9_signAt_2 ?_
  refine lv_icmp_ge (tgt := 17) hx hb dX9_signAt_5 (by decide) (fun c_1 => ?_) (fun c_1 => ?_)
  · exact by
     have k_1 : y_size ≤ kk := (nI_leI (a := y_size) (b := kk) (by omega) (by omega)).mp c_1
     refine lv_iconst (v := 0) hx hb dX9_signAt_17 (by decide) ?_
     rw [hQ]
     have hP9 := hP.sub (ws' := [(y, kO 9 [.int y_thrown, .int (nI y_taped), .ref y_tape, .int (nI y_size), .int (nI y_place), .int (nI y_begin), .int (nI y_token), .long y_word, .int y_told, .int y_wrong, .ref y_supper, .ref y_guestName, .ref y_kind, .ref y_offTold, .ref y_pace, .ref y_cooks, .ref y_snow, .ref y_lineFrom, .ref y_lineTo, .ref y_codes, .int (nI y_code), .int y_toldLines, .ref y_opened, .ref y_compared, .ref y_kept, .ref y_keptBy, .ref y_ahead, .ref y_against, .ref y_sum, .ref y_sumBy, .ref y_term, .ref y_termBy, .ref y_byNot, .ref y_valueOf, .int y_given, .ref y_lines, .ref y_lineWhat, .ref y_lineA, .ref y_lineB, .ref y_seens, .ref y_seenIn, .ref y_seenYards, .ref y_seenNear, .ref y_s, .ref y_aside, .ref y_before, .ref y_marked, .ref y_undone, .ref y_isLaid, .int (nI y_done), .int y_snowNow, .int y_cameNow, .int y_cookThen, .int y_tasteThen, .ref y_places, .ref y_comesAt, .ref y_yardsIn, .long y_g]), (y_tape, kI k 1000 y_tapeF)]) [0, 1] rfl
     have hD9 := hD.sub (ws' := [(y, kO 9 [.int y_thrown, .int (nI y_taped), .ref y_tape, .int (nI y_size), .int (nI y_place), .int (nI y_begin), .int (nI y_token), .long y_word, .int y_told, .int y_wrong, .ref y_supper, .ref y_guestName, .ref y_kind, .ref y_offTold, .ref y_pace, .ref y_cooks, .ref y_snow, .ref y_lineFrom, .ref y_lineTo, .ref y_codes, .int (nI y_code), .int y_toldLines, .ref y_opened, .ref y_compared, .ref y_kept, .ref y_keptBy, .ref y_ahead, .ref y_against, .ref y_sum, .ref y_sumBy, .ref y_term, .ref y_termBy, .ref y_byNot, .ref y_valueOf, .int y_given, .ref y_lines, .ref y_lineWhat, .ref y_lineA, .ref y_lineB, .ref y_seens, .ref y_seenIn, .ref y_seenYards, .ref y_seenNear, .ref y_s, .ref y_aside, .ref y_before, .ref y_marked, .ref y_undone, .ref y_isLaid, .int (nI y_done), .int y_snowNow, .int y_cameNow, .int y_cookThen, .int y_tasteThen, .ref y_places, .ref y_comesAt, .ref y_yardsIn, .long y_g]), (y_tape, kI k 1000 y_tapeF)]) [0, 1] (by decide +kernel) rfl
     exact W.iret (v := 0) hx hb hr (fun zt ht hW => ⟨⟨0, (), rfl, (sgn_no (by omega)), by rw [ht]; exact hP9, hD9⟩, hS.F ht⟩) hS.2.2 dX9_signAt_18
  · exact by
     have k_1 : ¬ (y_size ≤ kk) := fun h => c_1 ((nI_leI (a := y_size) (b := kk) (by omega) (by omega)).mpr h)
     refine lv_aload_n hx hb dX9_signAt_8 rfl (lv_at hl 0 rfl) ?_
     refine va_get (D := D) (ci := 9) (v := .ref y_tape) (C := RX9) (T := TX9) (N := 58) hx hb hts hi9 hown hK hP 0 rfl rfl 2 (by decide) lf7 (fun _ h9 => h9) rfl dX9_signAt_9 ?_
     refine lv_iload_n hx hb dX9_signAt_12 rfl (lv_at hl 1 rfl) ?_
     refine va_iald hx hb hK hP 1 0 rfl rfl (vp_in_nI (n := kk) (by omega) (by omega)) dX9_signAt_13 ?_
     refine lv_goto (tgt := 18) hx hb dX9_signAt_14 (by decide) ?_
     rw [hQ]
     have hP9 := hP.sub (ws' := [(y, kO 9 [.int y_thrown, .int (nI y_taped), .ref y_tape, .int (nI y_size), .int (nI y_place), .int (nI y_begin), .int (nI y_token), .long y_word, .int y_told, .int y_wrong, .ref y_supper, .ref y_guestName, .ref y_kind, .ref y_offTold, .ref y_pace, .ref y_cooks, .ref y_snow, .ref y_lineFrom, .ref y_lineTo, .ref y_codes, .int (nI y_code), .int y_toldLines, .ref y_opened, .ref y_compared, .ref y_kept, .ref y_keptBy, .ref y_ahead, .ref y_against, .ref y_sum, .ref y_sumBy, .ref y_term, .ref y_termBy, .ref y_byNot, .ref y_valueOf, .int y_given, .ref y_lines, .ref y_lineWhat, .ref y_lineA, .ref y_lineB, .ref y_seens, .ref y_seenIn, .ref y_seenYards, .ref y_seenNear, .ref y_s, .ref y_aside, .ref y_before, .ref y_marked, .ref y_undone, .ref y_isLaid, .int (nI y_done), .int y_snowNow, .int y_cameNow, .int y_cookThen, .int y_tasteThen, .ref y_places, .ref y_comesAt, .ref y_yardsIn, .long y_g]), (y_tape, kI k 1000 y_tapeF)]) [0, 1] rfl
     have hD9 := hD.sub (ws' := [(y, kO 9 [.int y_thrown, .int (nI y_taped), .ref y_tape, .int (nI y_size), .int (nI y_place), .int (nI y_begin), .int (nI y_token), .long y_word, .int y_told, .int y_wrong, .ref y_supper, .ref y_guestName, .ref y_kind, .ref y_offTold, .ref y_pace, .ref y_cooks, .ref y_snow, .ref y_lineFrom, .ref y_lineTo, .ref y_codes, .int (nI y_code), .int y_toldLines, .ref y_opened, .ref y_compared, .ref y_kept, .ref y_keptBy, .ref y_ahead, .ref y_against, .ref y_sum, .ref y_sumBy, .ref y_term, .ref y_termBy, .ref y_byNot, .ref y_valueOf, .int y_given, .ref y_lines, .ref y_lineWhat, .ref y_lineA, .ref y_lineB, .ref y_seens, .ref y_seenIn, .ref y_seenYards, .ref y_seenNear, .ref y_s, .ref y_aside, .ref y_before, .ref y_marked, .ref y_undone, .ref y_isLaid, .int (nI y_done), .int y_snowNow, .int y_cameNow, .int y_cookThen, .int y_tasteThen, .ref y_places, .ref y_comesAt, .ref y_yardsIn, .long y_g]), (y_tape, kI k 1000 y_tapeF)]) [0, 1] (by decide +kernel) rfl
     exact W.iret (v := (y_tapeF (Int32.toNatClampNeg (nI kk)))) hx hb hr (fun zt ht hW => ⟨⟨(y_tapeF (Int32.toNatClampNeg (nI kk))), (), rfl, (sgn_at (by omega) (by omega)), by rw [ht]; exact hP9, hD9⟩, hS.F ht⟩) hS.2.2 dX9_signAt_18
theorem dX9_isWord_0 : decode cX9_isWord 0 = .ok (.aload_n 0, 1) := dk_aload_n_0 (by decide +kernel)
theorem dX9_isWord_1 : decode cX9_isWord 1 = .ok (.getfield 167, 3) := dk_getfield (by decide +kernel)
theorem dX9_isWord_4 : decode cX9_isWord 4 = .ok (.iconst 1, 1) := dk_iconst_1 (by decide +kernel)
theorem dX9_isWord_5 : decode cX9_isWord 5 = .ok (.if_icmp .ne 16, 3) := dk_if_icmp_ne (by decide +kernel)
theorem dX9_isWord_8 : decode cX9_isWord 8 = .ok (.aload_n 0, 1) := dk_aload_n_0 (by decide +kernel)
theorem dX9_isWord_9 : decode cX9_isWord 9 = .ok (.getfield 160, 3) := dk_getfield (by decide +kernel)
theorem dX9_isWord_12 : decode cX9_isWord 12 = .ok (.lload_n 1, 1) := dk_lload_n_1 (by decide +kernel)
theorem dX9_isWord_13 : decode cX9_isWord 13 = .ok (.lcmp, 1) := dk_lcmp (by decide +kernel)
theorem dX9_isWord_14 : decode cX9_isWord 14 = .ok (.ifCond .ne 7, 3) := dk_ifCond_ne (by decide +kernel)
theorem dX9_isWord_17 : decode cX9_isWord 17 = .ok (.iconst 1, 1) := dk_iconst_1 (by decide +kernel)
theorem dX9_isWord_18 : decode cX9_isWord 18 = .ok (.goto 4, 3) := dk_goto (by decide +kernel)
theorem dX9_isWord_21 : decode cX9_isWord 21 = .ok (.iconst 0, 1) := dk_iconst_0 (by decide +kernel)
theorem dX9_isWord_22 : decode cX9_isWord 22 = .ok (.ireturn, 1) := dk_ireturn (by decide +kernel)
set_option maxHeartbeats 4000000 in
set_option maxRecDepth 100000 in
theorem sX9_isWord (l : Launch) (D : va_G) (k : Nat → ClassId) (sz : Nat) (y : Nat) (w_ : Int64) (y_thrown : Int32) (y_taped : Nat) (y_tape : Nat) (y_size : Nat) (y_place : Nat) (y_begin : Nat) (y_token : Nat) (y_word : Int64) (y_told : Int32) (y_wrong : Int32) (y_supper : Nat) (y_guestName : Nat) (y_kind : Nat) (y_offTold : Nat) (y_pace : Nat) (y_cooks : Nat) (y_snow : Nat) (y_lineFrom : Nat) (y_lineTo : Nat) (y_codes : Nat) (y_code : Nat) (y_toldLines : Int32) (y_opened : Nat) (y_compared : Nat) (y_kept : Nat) (y_keptBy : Nat) (y_ahead : Nat) (y_against : Nat) (y_sum : Nat) (y_sumBy : Nat) (y_term : Nat) (y_termBy : Nat) (y_byNot : Nat) (y_valueOf : Nat) (y_given : Int32) (y_lines : Nat) (y_lineWhat : Nat) (y_lineA : Nat) (y_lineB : Nat) (y_seens : Nat) (y_seenIn : Nat) (y_seenYards : Nat) (y_seenNear : Nat) (y_s : Nat) (y_aside : Nat) (y_before : Nat) (y_marked : Nat) (y_undone : Nat) (y_isLaid : Nat) (y_done : Nat) (y_snowNow : Int32) (y_cameNow : Int32) (y_cookThen : Int32) (y_tasteThen : Int32) (y_places : Nat) (y_comesAt : Nat) (y_yardsIn : Nat) (y_g : Int64) (h_y_taped : y_taped ≤ 1000) (h_y_size : y_size ≤ 1000) (h_y_place : y_place ≤ 1000) (h_y_begin : y_begin ≤ 1000) (h_y_token : y_token ≤ 4) (h_y_told : 0 ≤ Int32.toInt y_told ∧ Int32.toInt y_told ≤ 9999) (h_y_code : y_code ≤ 2000) (h_y_done : y_done ≤ 16) (h_o0 : y_place ≤ y_size ∧ y_begin ≤ y_place ∧ (y_token = 0 ∨ y_begin < y_place)) : Met l yX9_isWord wsX9_isWord ({ frames := 0, cells := 0, slots := 0, locals := 0 }) (va_Pc [.ref y, .long w_] (kz_Pre D k [(y, kO 9 [.int y_thrown, .int (nI y_taped), .ref y_tape, .int (nI y_size), .int (nI y_place), .int (nI y_begin), .int (nI y_token), .long y_word, .int y_told, .int y_wrong, .ref y_supper, .ref y_guestName, .ref y_kind, .ref y_offTold, .ref y_pace, .ref y_cooks, .ref y_snow, .ref y_lineFrom, .ref y_lineTo, .ref y_codes, .int (nI y_code), .int y_toldLines, .ref y_opened, .ref y_compared, .ref y_kept, .ref y_keptBy, .ref y_ahead, .ref y_against, .ref y_sum, .ref y_sumBy, .ref y_term, .ref y_termBy, .ref y_byNot, .ref y_valueOf, .int y_given, .ref y_lines, .ref y_lineWhat, .ref y_lineA, .ref y_lineB, .ref y_seens, .ref y_seenIn, .ref y_seenYards, .ref y_seenNear, .ref y_s, .ref y_aside, .ref y_before, .ref y_marked, .ref y_undone, .ref y_isLaid, .int (nI y_done), .int y_snowNow, .int y_cameNow, .int y_cookThen, .int y_tasteThen, .ref y_places, .ref y_comesAt, .ref y_yardsIn, .long y_g])] sz)) (va_Qi (fun (rr : Int32) (uu : Bool) => rr = bB uu ∧ ((uu) = (fX9_isWord w_ y_token y_word)) ∧ (uu = true → (y_token = 1))) (fun uu zt => kz_B D (va_A [(y, kO 9 [.int y_thrown, .int (nI y_taped), .ref y_tape, .int (nI y_size), .int (nI y_place), .int (nI y_begin), .int (nI y_token), .long y_word, .int y_told, .int y_wrong, .ref y_supper, .ref y_guestName, .ref y_kind, .ref y_offTold, .ref y_pace, .ref y_cooks, .ref y_snow, .ref y_lineFrom, .ref y_lineTo, .ref y_codes, .int (nI y_code), .int y_toldLines, .ref y_opened, .ref y_compared, .ref y_kept, .ref y_keptBy, .ref y_ahead, .ref y_against, .ref y_sum, .ref y_sumBy, .ref y_term, .ref y_termBy, .ref y_byNot, .ref y_valueOf, .int y_given, .ref y_lines, .ref y_lineWhat, .ref y_lineA, .ref y_lineB, .ref y_seens, .ref y_seenIn, .ref y_seenYards, .ref y_seenNear, .ref y_s, .ref y_aside, .ref y_before, .ref y_marked, .ref y_undone, .ref y_isLaid, .int (nI y_done), .int y_snowNow, .int y_cameNow, .int y_cookThen, .int y_tasteThen, .ref y_places, .ref y_comesAt, .ref y_yardsIn, .long y_g])] sz) [(y, kO 9 [.int y_thrown, .int (nI y_taped), .ref y_tape, .int (nI y_size), .int (nI y_place), .int (nI y_begin), .int (nI y_token), .long y_word, .int y_told, .int y_wrong, .ref y_supper, .ref y_guestName, .ref y_kind, .ref y_offTold, .ref y_pace, .ref y_cooks, .ref y_snow, .ref y_lineFrom, .ref y_lineTo, .ref y_codes, .int (nI y_code), .int y_toldLines, .ref y_opened, .ref y_compared, .ref y_kept, .ref y_keptBy, .ref y_ahead, .ref y_against, .ref y_sum, .ref y_sumBy, .ref y_term, .ref y_termBy, .ref y_byNot, .ref y_valueOf, .int y_given, .ref y_lines, .ref y_lineWhat, .ref y_lineA, .ref y_lineB, .ref y_seens, .ref y_seenIn, .ref y_seenYards, .ref y_seenNear, .ref y_s, .ref y_aside, .ref y_before, .ref y_marked, .ref y_undone, .ref y_isLaid, .int (nI y_done), .int y_snowNow, .int y_cameNow, .int y_cookThen, .int y_tasteThen, .ref y_places, .ref y_comesAt, .ref y_yardsIn, .long y_g])] zt) (va_A [(y, kO 9 [.int y_thrown, .int (nI y_taped), .ref y_tape, .int (nI y_size), .int (nI y_place), .int (nI y_begin), .int (nI y_token), .long y_word, .int y_told, .int y_wrong, .ref y_supper, .ref y_guestName, .ref y_kind, .ref y_offTold, .ref y_pace, .ref y_cooks, .ref y_snow, .ref y_lineFrom, .ref y_lineTo, .ref y_codes, .int (nI y_code), .int y_toldLines, .ref y_opened, .ref y_compared, .ref y_kept, .ref y_keptBy, .ref y_ahead, .ref y_against, .ref y_sum, .ref y_sumBy, .ref y_term, .ref y_termBy, .ref y_byNot, .ref y_valueOf, .int y_given, .ref y_lines, .ref y_lineWhat, .ref y_lineA, .ref y_lineB, .ref y_seens, .ref y_seenIn, .ref y_seenYards, .ref y_seenNear, .ref y_s, .ref y_aside, .ref y_before, .ref y_marked, .ref y_undone, .ref y_isLaid, .int (nI y_done), .int y_snowNow, .int y_cameNow, .int y_cookThen, .int y_tasteThen, .ref y_places, .ref y_comesAt, .ref y_yardsIn, .long y_g])] sz)) 0 0 (va_A [(y, kO 9 [.int y_thrown, .int (nI y_taped), .ref y_tape, .int (nI y_size), .int (nI y_place), .int (nI y_begin), .int (nI y_token), .long y_word, .int y_told, .int y_wrong, .ref y_supper, .ref y_guestName, .ref y_kind, .ref y_offTold, .ref y_pace, .ref y_cooks, .ref y_snow, .ref y_lineFrom, .ref y_lineTo, .ref y_codes, .int (nI y_code), .int y_toldLines, .ref y_opened, .ref y_compared, .ref y_kept, .ref y_keptBy, .ref y_ahead, .ref y_against, .ref y_sum, .ref y_sumBy, .ref y_term, .ref y_termBy, .ref y_byNot, .ref y_valueOf, .int y_given, .ref y_lines, .ref y_lineWhat, .ref y_lineA, .ref y_lineB, .ref y_seens, .ref y_seenIn, .ref y_seenYards, .ref y_seenNear, .ref y_s, .ref y_aside, .ref y_before, .ref y_marked, .ref y_undone, .ref y_isLaid, .int (nI y_done), .int y_snowNow, .int y_cameNow, .int y_cookThen, .int y_tasteThen, .ref y_places, .ref y_comesAt, .ref y_yardsIn, .long y_g])] sz) := by
  refine Met.ofW (cc := cX9_isWord) (maxL := 3) (ret := (some .boolean)) (by decide) rfl ?_
  intro p e s m args below meth c s₁ B hml hv
  obtain ⟨hav, hsz, hP, hK, hD0, hE⟩ := hv
  have hx := B.exec
  have hb := B.bytes
  have hr := B.returns
  have hts := atoms_spec (ws := wsX9_isWord) B.pre
  have hown : s.vm.findClass RX9 = some m.cls := findClass_of_methodNamed B.named
  have hlocks := B.notSynchronized
  have hi9 : ∀ w ∈ u_ws RX9 TX9 58, w ∈ wsX9_isWord := fun w h9 => List.mem_cons_of_mem _ (List.mem_append_right _ h9)
  have lf167 := hts (.fieldLink RX9 167 "LastCookModel" "token" "I") (List.mem_cons_of_mem _ (List.mem_append_left _ (List.mem_of_getElem? (i := 0) rfl)))
  have lf160 := hts (.fieldLink RX9 160 "LastCookModel" "word" "J") (List.mem_cons_of_mem _ (List.mem_append_left _ (List.mem_of_getElem? (i := 1) rfl)))
  subst hsz
  have hD := hD0.self (sz := s.heap.size)
  generalize hAe : va_A [(y, kO 9 [.int y_thrown, .int (nI y_taped), .ref y_tape, .int (nI y_size), .int (nI y_place), .int (nI y_begin), .int (nI y_token), .long y_word, .int y_told, .int y_wrong, .ref y_supper, .ref y_guestName, .ref y_kind, .ref y_offTold, .ref y_pace, .ref y_cooks, .ref y_snow, .ref y_lineFrom, .ref y_lineTo, .ref y_codes, .int (nI y_code), .int y_toldLines, .ref y_opened, .ref y_compared, .ref y_kept, .ref y_keptBy, .ref y_ahead, .ref y_against, .ref y_sum, .ref y_sumBy, .ref y_term, .ref y_termBy, .ref y_byNot, .ref y_valueOf, .int y_given, .ref y_lines, .ref y_lineWhat, .ref y_lineA, .ref y_lineB, .ref y_seens, .ref y_seenIn, .ref y_seenYards, .ref y_seenNear, .ref y_s, .ref y_aside, .ref y_before, .ref y_marked, .ref y_undone, .ref y_isLaid, .int (nI y_done), .int y_snowNow, .int y_cameNow, .int y_cookThen, .int y_tasteThen, .ref y_places, .ref y_comesAt, .ref y_yardsIn, .long y_g])] s.heap.size = A at hD ⊢
  have hA : ∀ q : Nat, s.heap.size ≤ q → A q := fun q h => by rw [← hAe]; exact Or.inr h
  have hS : va_S A s.heap s.heap [] := va_S.rf
  have hl := lv_entry ([.ref y, .long w_]) (n := 3) (Nat.le_of_ble_eq_true rfl)
  rw [show entryFrame m args 3 = entryFrame m ([.ref y, .long w_] : List Value).toArray 3 by rw [hav], lg_entry_eq]
  generalize (lg_sl ([.ref y, .long w_]) ++ List.replicate (3 - (lg_sl ([.ref y, .long w_])).length) Slot.unset).toArray = ls at hl ⊢
  have hl : lv_has ls 3 [(0, .ref y), (1, .long w_)] := hl
  obtain ⟨R, hR⟩ : ∃ R, R = (headSpec wsX9_isWord ({ frames := 0, cells := 0, slots := 0, locals := 0 } : Room)).room := ⟨_, rfl⟩
  rw [← hR]
  generalize hQ : MQ below _ args s 0 0 A = Q
  replace hQ := hQ.symm
  obtain ⟨H, hH⟩ : ∃ H, H = s.heap := ⟨_, rfl⟩
  rw [← hH] at hP ⊢
  have hS : va_S A s.heap H [] := by rw [hH]; exact hS
  obtain ⟨E0, hE0⟩ : ∃ E0 : Bool, E0 = (fX9_isWord w_ y_token y_word) := ⟨_, rfl⟩
  have hZ : (fX9_isWord w_ y_token y_word) = E0 := hE0.symm
  refine lv_aload_n hx hb dX9_isWord_0 rfl (lv_at hl 0 rfl) ?_
  refine va_get (D := D) (ci := 9) (v := .int (nI y_token)) (C := RX9) (T := TX9) (N := 58) hx hb hts hi9 hown hK hP 0 rfl rfl 6 (by decide) lf167 (fun _ h9 => h9) rfl dX9_isWord_1 ?_
  refine lv_iconst (v := 1) hx hb dX9_isWord_4 (by decide) ?_
  have hj21_1 : ∀ (H : Heap) (locs : List Loc) (ls : Array Slot), (fX9_isWord_J21a = E0) → va_P D vwCl [(y, kO 9 [.int y_thrown, .int (nI y_taped), .ref y_tape, .int (nI y_size), .int (nI y_place), .int (nI y_begin), .int (nI y_token), .long y_word, .int y_told, .int y_wrong, .ref y_supper, .ref y_guestName, .ref y_kind, .ref y_offTold, .ref y_pace, .ref y_cooks, .ref y_snow, .ref y_lineFrom, .ref y_lineTo, .ref y_codes, .int (nI y_code), .int y_toldLines, .ref y_opened, .ref y_compared, .ref y_kept, .ref y_keptBy, .ref y_ahead, .ref y_against, .ref y_sum, .ref y_sumBy, .ref y_term, .ref y_termBy, .ref y_byNot, .ref y_valueOf, .int y_given, .ref y_lines, .ref y_lineWhat, .ref y_lineA, .ref y_lineB, .ref y_seens, .ref y_seenIn, .ref y_seenYards, .ref y_seenNear, .ref y_s, .ref y_aside, .ref y_before, .ref y_marked, .ref y_undone, .ref y_isLaid, .int (nI y_done), .int y_snowNow, .int y_cameNow, .int y_cookThen, .int y_tasteThen, .ref y_places, .ref y_comesAt, .ref y_yardsIn, .long y_g])] H → va_D A [(y, kO 9 [.int y_thrown, .int (nI y_taped), .ref y_tape, .int (nI y_size), .int (nI y_place), .int (nI y_begin), .int (nI y_token), .long y_word, .int y_told, .int y_wrong, .ref y_supper, .ref y_guestName, .ref y_kind, .ref y_offTold, .ref y_pace, .ref y_cooks, .ref y_snow, .ref y_lineFrom, .ref y_lineTo, .ref y_codes, .int (nI y_code), .int y_toldLines, .ref y_opened, .ref y_compared, .ref y_kept, .ref y_keptBy, .ref y_ahead, .ref y_against, .ref y_sum, .ref y_sumBy, .ref y_term, .ref y_termBy, .ref y_byNot, .ref y_valueOf, .int y_given, .ref y_lines, .ref y_lineWhat, .ref y_lineA, .ref y_lineB, .ref y_seens, .ref y_seenIn, .ref y_seenYards, .ref y_seenNear, .ref y_s, .ref y_aside, .ref y_before, .ref y_marked, .ref y_undone, .ref y_isLaid, .int (nI y_done), .int y_snowNow, .int y_cameNow, .int y_cookThen, .int y_tasteThen, .ref y_places, .ref y_comesAt, .ref y_yardsIn, .long y_g])] → va_S A s.heap H locs → lv_has ls 3 [(0, .ref y), (1, .long w_)] → W p l e R s m args below meth c H locs 0 0 Q (F0 m 21 ls []) := by
    intro H locs ls hZ hP hD hS hl
    refine lv_iconst (v := 0) hx hb dX9_isWord_21 (by decide) ?_
    rw [hQ]
    have hP9 := hP.sub (ws' := [(y, kO 9 [.int y_thrown, .int (nI y_taped), .ref y_tape, .int (nI y_size), .int (nI y_place), .int (nI y_begin), .int (nI y_token), .long y_word, .int y_told, .int y_wrong, .ref y_supper, .ref y_guestName, .ref y_kind, .ref y_offTold, .ref y_pace, .ref y_cooks, .ref y_snow, .ref y_lineFrom, .ref y_lineTo, .ref y_codes, .int (nI y_code), .int y_toldLines, .ref y_opened, .ref y_compared, .ref y_kept, .ref y_keptBy, .ref y_ahead, .ref y_against, .ref y_sum, .ref y_sumBy, .ref y_term, .ref y_termBy, .ref y_byNot, .ref y_valueOf, .int y_given, .ref y_lines, .ref y_lineWhat, .ref y_lineA, .ref y_lineB, .ref y_seens, .ref y_seenIn, .ref y_seenYards, .ref y_seenNear, .ref y_s, .ref y_aside, .ref y_before, .ref y_marked, .ref y_undone, .ref y_isLaid, .int (nI y_done), .int y_snowNow, .int y_cameNow, .int y_cookThen, .int y_tasteThen, .ref y_places, .ref y_comesAt, .ref y_yardsIn, .long y_g])]) [0] rfl
    have hD9 := hD.sub (ws' := [(y, kO 9 [.int y_thrown, .int (nI y_taped), .ref y_tape, .int (nI y_size), .int (nI y_place), .int (nI y_begin), .int (nI y_token), .long y_word, .int y_told, .int y_wrong, .ref y_supper, .ref y_guestName, .ref y_kind, .ref y_offTold, .ref y_pace, .ref y_cooks, .ref y_snow, .ref y_lineFrom, .ref y_lineTo, .ref y_codes, .int (nI y_code), .int y_toldLines, .ref y_opened, .ref y_compared, .ref y_kept, .ref y_keptBy, .ref y_ahead, .ref y_against, .ref y_sum, .ref y_sumBy, .ref y_term, .ref y_termBy, .ref y_byNot, .ref y_valueOf, .int y_given, .ref y_lines, .ref y_lineWhat, .ref y_lineA, .ref y_lineB, .ref y_seens, .ref y_seenIn, .ref y_seenYards, .ref y_seenNear, .ref y_s, .ref y_aside, .ref y_before, .ref y_marked, .ref y_undone, .ref y_isLaid, .int (nI y_done), .int y_snowNow, .int y_cameNow, .int y_cookThen, .int y_tasteThen, .ref y_places, .ref y_comesAt, .ref y_yardsIn, .long y_g])]) [0] (by decide +kernel) rfl
    exact W.zret (v := 0) hx hb hr rfl (fun zt ht hW => ⟨⟨0, false, rfl, ⟨rfl, (hZ.trans hE0), (fun h9 => by first | exact absurd h9 (by decide) | exact Bool.noConfusion h9 | omega | (dsimp only; omega))⟩, by rw [ht]; exact hP9, hD9⟩, hS.F ht⟩) hS.2.2 dX9_isWord_22
  refine lv_icmp_ne (tgt := 21) hx hb dX9_isWord_5 (by decide) (fun c_2 => ?_) (fun c_2 => ?_)
  · exact by
     have k_2 : ¬ (y_token = 1) := fun h => c_2 ((nI_eq (a := y_token) (b := 1) (by omega) (by omega)).mpr h)
     have hZ := (if_neg k_2).symm.trans hZ
     exact hj21_1 _ _ _ hZ (hP.sub [0] rfl) (hD.sub [0] (by decide +kernel) rfl) hS (lv_sub hl [0, 1] rfl)
  · exact by
     have k_2 : y_token = 1 := (nI_eq (a := y_token) (b := 1) (by omega) (by omega)).mp c_2
     have hZ := (if_pos k_2).symm.trans hZ
     refine lv_aload_n hx hb dX9_isWord_8 rfl (lv_at hl 0 rfl) ?_
     refine va_get (D := D) (ci := 9) (v := .long y_word) (C := RX9) (T := TX9) (N := 58) hx hb hts hi9 hown hK hP 0 rfl rfl 7 (by decide) lf160 (fun _ h9 => h9) rfl dX9_isWord_9 ?_
     refine lv_lload_n hx hb dX9_isWord_12 rfl (lv_at hl 1 rfl) ?_
     refine W.lcmp hx hb dX9_isWord_13 ?_
     refine lv_if_ne (tgt := 21) hx hb dX9_isWord_14 (by decide) (fun c_3 => ?_) (fun c_3 => ?_)
     · exact by
        have hZ := (if_neg c_3).symm.trans hZ
        exact hj21_1 _ _ _ hZ (hP.sub [0] rfl) (hD.sub [0] (by decide +kernel) rfl) hS (lv_sub hl [0, 1] rfl)
     · exact by
        have hZ := (if_pos c_3).symm.trans hZ
        refine lv_iconst (v := 1) hx hb dX9_isWord_17 (by decide) ?_
        refine lv_goto (tgt := 22) hx hb dX9_isWord_18 (by decide) ?_
        rw [hQ]
        have hP9 := hP.sub (ws' := [(y, kO 9 [.int y_thrown, .int (nI y_taped), .ref y_tape, .int (nI y_size), .int (nI y_place), .int (nI y_begin), .int (nI y_token), .long y_word, .int y_told, .int y_wrong, .ref y_supper, .ref y_guestName, .ref y_kind, .ref y_offTold, .ref y_pace, .ref y_cooks, .ref y_snow, .ref y_lineFrom, .ref y_lineTo, .ref y_codes, .int (nI y_code), .int y_toldLines, .ref y_opened, .ref y_compared, .ref y_kept, .ref y_keptBy, .ref y_ahead, .ref y_against, .ref y_sum, .ref y_sumBy, .ref y_term, .ref y_termBy, .ref y_byNot, .ref y_valueOf, .int y_given, .ref y_lines, .ref y_lineWhat, .ref y_lineA, .ref y_lineB, .ref y_seens, .ref y_seenIn, .ref y_seenYards, .ref y_seenNear, .ref y_s, .ref y_aside, .ref y_before, .ref y_marked, .ref y_undone, .ref y_isLaid, .int (nI y_done), .int y_snowNow, .int y_cameNow, .int y_cookThen, .int y_tasteThen, .ref y_places, .ref y_comesAt, .ref y_yardsIn, .long y_g])]) [0] rfl
        have hD9 := hD.sub (ws' := [(y, kO 9 [.int y_thrown, .int (nI y_taped), .ref y_tape, .int (nI y_size), .int (nI y_place), .int (nI y_begin), .int (nI y_token), .long y_word, .int y_told, .int y_wrong, .ref y_supper, .ref y_guestName, .ref y_kind, .ref y_offTold, .ref y_pace, .ref y_cooks, .ref y_snow, .ref y_lineFrom, .ref y_lineTo, .ref y_codes, .int (nI y_code), .int y_toldLines, .ref y_opened, .ref y_compared, .ref y_kept, .ref y_keptBy, .ref y_ahead, .ref y_against, .ref y_sum, .ref y_sumBy, .ref y_term, .ref y_termBy, .ref y_byNot, .ref y_valueOf, .int y_given, .ref y_lines, .ref y_lineWhat, .ref y_lineA, .ref y_lineB, .ref y_seens, .ref y_seenIn, .ref y_seenYards, .ref y_seenNear, .ref y_s, .ref y_aside, .ref y_before, .ref y_marked, .ref y_undone, .ref y_isLaid, .int (nI y_done), .int y_snowNow, .int y_cameNow, .int y_cookThen, .int y_tasteThen, .ref y_places, .ref y_comesAt, .ref y_yardsIn, .long y_g])]) [0] (by decide +kernel) rfl
        exact W.zret (v := 1) hx hb hr rfl (fun zt ht hW => ⟨⟨1, true, rfl, ⟨rfl, (hZ.trans hE0), (fun h9 => by first | exact absurd h9 (by decide) | exact Bool.noConfusion h9 | omega | (dsimp only; omega))⟩, by rw [ht]; exact hP9, hD9⟩, hS.F ht⟩) hS.2.2 dX9_isWord_22
theorem dX9_isSign_0 : decode cX9_isSign 0 = .ok (.aload_n 0, 1) := dk_aload_n_0 (by decide +kernel)
theorem dX9_isSign_1 : decode cX9_isSign 1 = .ok (.getfield 167, 3) := dk_getfield (by decide +kernel)
theorem dX9_isSign_4 : decode cX9_isSign 4 = .ok (.iconst 3, 1) := dk_iconst_3 (by decide +kernel)
theorem dX9_isSign_5 : decode cX9_isSign 5 = .ok (.if_icmp .ne 20, 3) := dk_if_icmp_ne (by decide +kernel)
theorem dX9_isSign_8 : decode cX9_isSign 8 = .ok (.aload_n 0, 1) := dk_aload_n_0 (by decide +kernel)
theorem dX9_isSign_9 : decode cX9_isSign 9 = .ok (.getfield 7, 3) := dk_getfield (by decide +kernel)
theorem dX9_isSign_12 : decode cX9_isSign 12 = .ok (.aload_n 0, 1) := dk_aload_n_0 (by decide +kernel)
theorem dX9_isSign_13 : decode cX9_isSign 13 = .ok (.getfield 157, 3) := dk_getfield (by decide +kernel)
theorem dX9_isSign_16 : decode cX9_isSign 16 = .ok (.iaload, 1) := dk_iaload (by decide +kernel)
theorem dX9_isSign_17 : decode cX9_isSign 17 = .ok (.iload_n 1, 1) := dk_iload_n_1 (by decide +kernel)
theorem dX9_isSign_18 : decode cX9_isSign 18 = .ok (.if_icmp .ne 7, 3) := dk_if_icmp_ne (by decide +kernel)
theorem dX9_isSign_21 : decode cX9_isSign 21 = .ok (.iconst 1, 1) := dk_iconst_1 (by decide +kernel)
theorem dX9_isSign_22 : decode cX9_isSign 22 = .ok (.goto 4, 3) := dk_goto (by decide +kernel)
theorem dX9_isSign_25 : decode cX9_isSign 25 = .ok (.iconst 0, 1) := dk_iconst_0 (by decide +kernel)
theorem dX9_isSign_26 : decode cX9_isSign 26 = .ok (.ireturn, 1) := dk_ireturn (by decide +kernel)
set_option maxHeartbeats 4000000 in
set_option maxRecDepth 100000 in
theorem sX9_isSign (l : Launch) (D : va_G) (k : Nat → ClassId) (sz : Nat) (y : Nat) (w_ : Int32) (y_thrown : Int32) (y_taped : Nat) (y_tape : Nat) (y_size : Nat) (y_place : Nat) (y_begin : Nat) (y_token : Nat) (y_word : Int64) (y_told : Int32) (y_wrong : Int32) (y_supper : Nat) (y_guestName : Nat) (y_kind : Nat) (y_offTold : Nat) (y_pace : Nat) (y_cooks : Nat) (y_snow : Nat) (y_lineFrom : Nat) (y_lineTo : Nat) (y_codes : Nat) (y_code : Nat) (y_toldLines : Int32) (y_opened : Nat) (y_compared : Nat) (y_kept : Nat) (y_keptBy : Nat) (y_ahead : Nat) (y_against : Nat) (y_sum : Nat) (y_sumBy : Nat) (y_term : Nat) (y_termBy : Nat) (y_byNot : Nat) (y_valueOf : Nat) (y_given : Int32) (y_lines : Nat) (y_lineWhat : Nat) (y_lineA : Nat) (y_lineB : Nat) (y_seens : Nat) (y_seenIn : Nat) (y_seenYards : Nat) (y_seenNear : Nat) (y_s : Nat) (y_aside : Nat) (y_before : Nat) (y_marked : Nat) (y_undone : Nat) (y_isLaid : Nat) (y_done : Nat) (y_snowNow : Int32) (y_cameNow : Int32) (y_cookThen : Int32) (y_tasteThen : Int32) (y_places : Nat) (y_comesAt : Nat) (y_yardsIn : Nat) (y_g : Int64) (y_tapeF : Nat → Int32) (h_y_taped : y_taped ≤ 1000) (h_y_size : y_size ≤ 1000) (h_y_place : y_place ≤ 1000) (h_y_begin : y_begin ≤ 1000) (h_y_token : y_token ≤ 4) (h_y_told : 0 ≤ Int32.toInt y_told ∧ Int32.toInt y_told ≤ 9999) (h_y_code : y_code ≤ 2000) (h_y_done : y_done ≤ 16) (h_o0 : y_place ≤ y_size ∧ y_begin ≤ y_place ∧ (y_token = 0 ∨ y_begin < y_place)) : Met l yX9_isSign wsX9_isSign ({ frames := 0, cells := 0, slots := 0, locals := 0 }) (va_Pc [.ref y, .int w_] (kz_Pre D k [(y, kO 9 [.int y_thrown, .int (nI y_taped), .ref y_tape, .int (nI y_size), .int (nI y_place), .int (nI y_begin), .int (nI y_token), .long y_word, .int y_told, .int y_wrong, .ref y_supper, .ref y_guestName, .ref y_kind, .ref y_offTold, .ref y_pace, .ref y_cooks, .ref y_snow, .ref y_lineFrom, .ref y_lineTo, .ref y_codes, .int (nI y_code), .int y_toldLines, .ref y_opened, .ref y_compared, .ref y_kept, .ref y_keptBy, .ref y_ahead, .ref y_against, .ref y_sum, .ref y_sumBy, .ref y_term, .ref y_termBy, .ref y_byNot, .ref y_valueOf, .int y_given, .ref y_lines, .ref y_lineWhat, .ref y_lineA, .ref y_lineB, .ref y_seens, .ref y_seenIn, .ref y_seenYards, .ref y_seenNear, .ref y_s, .ref y_aside, .ref y_before, .ref y_marked, .ref y_undone, .ref y_isLaid, .int (nI y_done), .int y_snowNow, .int y_cameNow, .int y_cookThen, .int y_tasteThen, .ref y_places, .ref y_comesAt, .ref y_yardsIn, .long y_g]), (y_tape, kI k 1000 y_tapeF)] sz)) (va_Qi (fun (rr : Int32) (uu : Bool) => rr = bB uu ∧ ((uu) = (fX9_isSign w_ y_begin y_token y_tapeF)) ∧ (uu = true → (y_token = 3))) (fun uu zt => kz_B D (va_A [(y, kO 9 [.int y_thrown, .int (nI y_taped), .ref y_tape, .int (nI y_size), .int (nI y_place), .int (nI y_begin), .int (nI y_token), .long y_word, .int y_told, .int y_wrong, .ref y_supper, .ref y_guestName, .ref y_kind, .ref y_offTold, .ref y_pace, .ref y_cooks, .ref y_snow, .ref y_lineFrom, .ref y_lineTo, .ref y_codes, .int (nI y_code), .int y_toldLines, .ref y_opened, .ref y_compared, .ref y_kept, .ref y_keptBy, .ref y_ahead, .ref y_against, .ref y_sum, .ref y_sumBy, .ref y_term, .ref y_termBy, .ref y_byNot, .ref y_valueOf, .int y_given, .ref y_lines, .ref y_lineWhat, .ref y_lineA, .ref y_lineB, .ref y_seens, .ref y_seenIn, .ref y_seenYards, .ref y_seenNear, .ref y_s, .ref y_aside, .ref y_before, .ref y_marked, .ref y_undone, .ref y_isLaid, .int (nI y_done), .int y_snowNow, .int y_cameNow, .int y_cookThen, .int y_tasteThen, .ref y_places, .ref y_comesAt, .ref y_yardsIn, .long y_g]), (y_tape, kI k 1000 y_tapeF)] sz) [(y, kO 9 [.int y_thrown, .int (nI y_taped), .ref y_tape, .int (nI y_size), .int (nI y_place), .int (nI y_begin), .int (nI y_token), .long y_word, .int y_told, .int y_wrong, .ref y_supper, .ref y_guestName, .ref y_kind, .ref y_offTold, .ref y_pace, .ref y_cooks, .ref y_snow, .ref y_lineFrom, .ref y_lineTo, .ref y_codes, .int (nI y_code), .int y_toldLines, .ref y_opened, .ref y_compared, .ref y_kept, .ref y_keptBy, .ref y_ahead, .ref y_against, .ref y_sum, .ref y_sumBy, .ref y_term, .ref y_termBy, .ref y_byNot, .ref y_valueOf, .int y_given, .ref y_lines, .ref y_lineWhat, .ref y_lineA, .ref y_lineB, .ref y_seens, .ref y_seenIn, .ref y_seenYards, .ref y_seenNear, .ref y_s, .ref y_aside, .ref y_before, .ref y_marked, .ref y_undone, .ref y_isLaid, .int (nI y_done), .int y_snowNow, .int y_cameNow, .int y_cookThen, .int y_tasteThen, .ref y_places, .ref y_comesAt, .ref y_yardsIn, .long y_g]), (y_tape, kI k 1000 y_tapeF)] zt) (va_A [(y, kO 9 [.int y_thrown, .int (nI y_taped), .ref y_tape, .int (nI y_size), .int (nI y_place), .int (nI y_begin), .int (nI y_token), .long y_word, .int y_told, .int y_wrong, .ref y_supper, .ref y_guestName, .ref y_kind, .ref y_offTold, .ref y_pace, .ref y_cooks, .ref y_snow, .ref y_lineFrom, .ref y_lineTo, .ref y_codes, .int (nI y_code), .int y_toldLines, .ref y_opened, .ref y_compared, .ref y_kept, .ref y_keptBy, .ref y_ahead, .ref y_against, .ref y_sum, .ref y_sumBy, .ref y_term, .ref y_termBy, .ref y_byNot, .ref y_valueOf, .int y_given, .ref y_lines, .ref y_lineWhat, .ref y_lineA, .ref y_lineB, .ref y_seens, .ref y_seenIn, .ref y_seenYards, .ref y_seenNear, .ref y_s, .ref y_aside, .ref y_before, .ref y_marked, .ref y_undone, .ref y_isLaid, .int (nI y_done), .int y_snowNow, .int y_cameNow, .int y_cookThen, .int y_tasteThen, .ref y_places, .ref y_comesAt, .ref y_yardsIn, .long y_g]), (y_tape, kI k 1000 y_tapeF)] sz)) 0 0 (va_A [(y, kO 9 [.int y_thrown, .int (nI y_taped), .ref y_tape, .int (nI y_size), .int (nI y_place), .int (nI y_begin), .int (nI y_token), .long y_word, .int y_told, .int y_wrong, .ref y_supper, .ref y_guestName, .ref y_kind, .ref y_offTold, .ref y_pace, .ref y_cooks, .ref y_snow, .ref y_lineFrom, .ref y_lineTo, .ref y_codes, .int (nI y_code), .int y_toldLines, .ref y_opened, .ref y_compared, .ref y_kept, .ref y_keptBy, .ref y_ahead, .ref y_against, .ref y_sum, .ref y_sumBy, .ref y_term, .ref y_termBy, .ref y_byNot, .ref y_valueOf, .int y_given, .ref y_lines, .ref y_lineWhat, .ref y_lineA, .ref y_lineB, .ref y_seens, .ref y_seenIn, .ref y_seenYards, .ref y_seenNear, .ref y_s, .ref y_aside, .ref y_before, .ref y_marked, .ref y_undone, .ref y_isLaid, .int (nI y_done), .int y_snowNow, .int y_cameNow, .int y_cookThen, .int y_tasteThen, .ref y_places, .ref y_comesAt, .ref y_yardsIn, .long y_g]), (y_tape, kI k 1000 y_tapeF)] sz) := by
  refine Met.ofW (cc := cX9_isSign) (maxL := 2) (ret := (some .boolean)) (by decide) rfl ?_
  intro p e s m args below meth c s₁ B hml hv
  obtain ⟨hav, hsz, hP, hK, hD0, hE⟩ := hv
  have hx := B.exec
  have hb := B.bytes
  have hr := B.returns
  have hts := atoms_spec (ws := wsX9_isSign) B.pre
  have hown : s.vm.findClass RX9 = some m.cls := findClass_of_methodNamed B.named
  have hlocks := B.notSynchronized
  have hi9 : ∀ w ∈ u_ws RX9 TX9 58, w ∈ wsX9_isSign := fun w h9 => List.mem_cons_of_mem _ (List.mem_append_right _ h9)
  have lf167 := hts (.fieldLink RX9 167 "LastCookModel" "token" "I") (List.mem_cons_of_mem _ (List.mem_append_left _ (List.mem_of_getElem? (i := 0) rfl)))
  have lf7 := hts (.fieldLink RX9 7 "LastCookModel" "tape" "[I") (List.mem_cons_of_mem _ (List.mem_append_left _ (List.mem_of_getElem? (i := 1) rfl)))
  have lf157 := hts (.fieldLink RX9 157 "LastCookModel" "begin" "I") (List.mem_cons_of_mem _ (List.mem_append_left _ (List.mem_of_getElem? (i := 2) rfl)))
  subst hsz
  have hD := hD0.self (sz := s.heap.size)
  generalize hAe : va_A [(y, kO 9 [.int y_thrown, .int (nI y_taped), .ref y_tape, .int (nI y_size), .int (nI y_place), .int (nI y_begin), .int (nI y_token), .long y_word, .int y_told, .int y_wrong, .ref y_supper, .ref y_guestName, .ref y_kind, .ref y_offTold, .ref y_pace, .ref y_cooks, .ref y_snow, .ref y_lineFrom, .ref y_lineTo, .ref y_codes, .int (nI y_code), .int y_toldLines, .ref y_opened, .ref y_compared, .ref y_kept, .ref y_keptBy, .ref y_ahead, .ref y_against, .ref y_sum, .ref y_sumBy, .ref y_term, .ref y_termBy, .ref y_byNot, .ref y_valueOf, .int y_given, .ref y_lines, .ref y_lineWhat, .ref y_lineA, .ref y_lineB, .ref y_seens, .ref y_seenIn, .ref y_seenYards, .ref y_seenNear, .ref y_s, .ref y_aside, .ref y_before, .ref y_marked, .ref y_undone, .ref y_isLaid, .int (nI y_done), .int y_snowNow, .int y_cameNow, .int y_cookThen, .int y_tasteThen, .ref y_places, .ref y_comesAt, .ref y_yardsIn, .long y_g]), (y_tape, kI k 1000 y_tapeF)] s.heap.size = A at hD ⊢
  have hA : ∀ q : Nat, s.heap.size ≤ q → A q := fun q h => by rw [← hAe]; exact Or.inr h
  have hS : va_S A s.heap s.heap [] := va_S.rf
  have hl := lv_entry ([.ref y, .int w_]) (n := 2) (Nat.le_of_ble_eq_true rfl)
  rw [show entryFrame m args 2 = entryFrame m ([.ref y, .int w_] : List Value).toArray 2 by rw [hav], lg_entry_eq]
  generalize (lg_sl ([.ref y, .int w_]) ++ List.replicate (2 - (lg_sl ([.ref y, .int w_])).length) Slot.unset).toArray = ls at hl ⊢
  have hl : lv_has ls 2 [(0, .ref y), (1, .int w_)] := hl
  obtain ⟨R, hR⟩ : ∃ R, R = (headSpec wsX9_isSign ({ frames := 0, cells := 0, slots := 0, locals := 0 } : Room)).room := ⟨_, rfl⟩
  rw [← hR]
  generalize hQ : MQ below _ args s 0 0 A = Q
  replace hQ := hQ.symm
  obtain ⟨H, hH⟩ : ∃ H, H = s.heap := ⟨_, rfl⟩
  rw [← hH] at hP ⊢
  have hS : va_S A s.heap H [] := by rw [hH]; exact hS
  obtain ⟨E0, hE0⟩ : ∃ E0 : Bool, E0 = (fX9_isSign w_ y_begin y_token y_tapeF) := ⟨_, rfl⟩
  have hZ : (fX9_isSign w_ y_begin y_token y_tapeF) = E0 := hE0.symm
  refine lv_aload_n hx hb dX9_isSign_0 rfl (lv_at hl 0 rfl) ?_
  refine va_get (D := D) (ci := 9) (v := .int (nI y_token)) (C := RX9) (T := TX9) (N := 58) hx hb hts hi9 hown hK hP 0 rfl rfl 6 (by decide) lf167 (fun _ h9 => h9) rfl dX9_isSign_1 ?_
  refine lv_iconst (v := 3) hx hb dX9_isSign_4 (by decide) ?_
  have hj25_1 : ∀ (H : Heap) (locs : List Loc) (ls : Array Slot), (fX9_isSign_J25a = E0) → va_P D vwCl [(y, kO 9 [.int y_thrown, .int (nI y_taped), .ref y_tape, .int (nI y_size), .int (nI y_place), .int (nI y_begin), .int (nI y_token), .long y_word, .int y_told, .int y_wrong, .ref y_supper, .ref y_guestName, .ref y_kind, .ref y_offTold, .ref y_pace, .ref y_cooks, .ref y_snow, .ref y_lineFrom, .ref y_lineTo, .ref y_codes, .int (nI y_code), .int y_toldLines, .ref y_opened, .ref y_compared, .ref y_kept, .ref y_keptBy, .ref y_ahead, .ref y_against, .ref y_sum, .ref y_sumBy, .ref y_term, .ref y_termBy, .ref y_byNot, .ref y_valueOf, .int y_given, .ref y_lines, .ref y_lineWhat, .ref y_lineA, .ref y_lineB, .ref y_seens, .ref y_seenIn, .ref y_seenYards, .ref y_seenNear, .ref y_s, .ref y_aside, .ref y_before, .ref y_marked, .ref y_undone, .ref y_isLaid, .int (nI y_done), .int y_snowNow, .int y_cameNow, .int y_cookThen, .int y_tasteThen, .ref y_places, .ref y_comesAt, .ref y_yardsIn, .long y_g]), (y_tape, kI k 1000 y_tapeF)] H → va_D A [(y, kO 9 [.int y_thrown, .int (nI y_taped), .ref y_tape, .int (nI y_size), .int (nI y_place), .int (nI y_begin), .int (nI y_token), .long y_word, .int y_told, .int y_wrong, .ref y_supper, .ref y_guestName, .ref y_kind, .ref y_offTold, .ref y_pace, .ref y_cooks, .ref y_snow, .ref y_lineFrom, .ref y_lineTo, .ref y_codes, .int (nI y_code), .int y_toldLines, .ref y_opened, .ref y_compared, .ref y_kept, .ref y_keptBy, .ref y_ahead, .ref y_against, .ref y_sum, .ref y_sumBy, .ref y_term, .ref y_termBy, .ref y_byNot, .ref y_valueOf, .int y_given, .ref y_lines, .ref y_lineWhat, .ref y_lineA, .ref y_lineB, .ref y_seens, .ref y_seenIn, .ref y_seenYards, .ref y_seenNear, .ref y_s, .ref y_aside, .ref y_before, .ref y_marked, .ref y_undone, .ref y_isLaid, .int (nI y_done), .int y_snowNow, .int y_cameNow, .int y_cookThen, .int y_tasteThen, .ref y_places, .ref y_comesAt, .ref y_yardsIn, .long y_g]), (y_tape, kI k 1000 y_tapeF)] → va_S A s.heap H locs → lv_has ls 2 [(0, .ref y), (1, .int w_)] → W p l e R s m args below meth c H locs 0 0 Q (F0 m 25 ls []) := by
    intro H locs ls hZ hP hD hS hl
    refine lv_iconst (v := 0) hx hb dX9_isSign_25 (by decide) ?_
    rw [hQ]
    have hP9 := hP.sub (ws' := [(y, kO 9 [.int y_thrown, .int (nI y_taped), .ref y_tape, .int (nI y_size), .int (nI y_place), .int (nI y_begin), .int (nI y_token), .long y_word, .int y_told, .int y_wrong, .ref y_supper, .ref y_guestName, .ref y_kind, .ref y_offTold, .ref y_pace, .ref y_cooks, .ref y_snow, .ref y_lineFrom, .ref y_lineTo, .ref y_codes, .int (nI y_code), .int y_toldLines, .ref y_opened, .ref y_compared, .ref y_kept, .ref y_keptBy, .ref y_ahead, .ref y_against, .ref y_sum, .ref y_sumBy, .ref y_term, .ref y_termBy, .ref y_byNot, .ref y_valueOf, .int y_given, .ref y_lines, .ref y_lineWhat, .ref y_lineA, .ref y_lineB, .ref y_seens, .ref y_seenIn, .ref y_seenYards, .ref y_seenNear, .ref y_s, .ref y_aside, .ref y_before, .ref y_marked, .ref y_undone, .ref y_isLaid, .int (nI y_done), .int y_snowNow, .int y_cameNow, .int y_cookThen, .int y_tasteThen, .ref y_places, .ref y_comesAt, .ref y_yardsIn, .long y_g]), (y_tape, kI k 1000 y_tapeF)]) [0, 1] rfl
    have hD9 := hD.sub (ws' := [(y, kO 9 [.int y_thrown, .int (nI y_taped), .ref y_tape, .int (nI y_size), .int (nI y_place), .int (nI y_begin), .int (nI y_token), .long y_word, .int y_told, .int y_wrong, .ref y_supper, .ref y_guestName, .ref y_kind, .ref y_offTold, .ref y_pace, .ref y_cooks, .ref y_snow, .ref y_lineFrom, .ref y_lineTo, .ref y_codes, .int (nI y_code), .int y_toldLines, .ref y_opened, .ref y_compared, .ref y_kept, .ref y_keptBy, .ref y_ahead, .ref y_against, .ref y_sum, .ref y_sumBy, .ref y_term, .ref y_termBy, .ref y_byNot, .ref y_valueOf, .int y_given, .ref y_lines, .ref y_lineWhat, .ref y_lineA, .ref y_lineB, .ref y_seens, .ref y_seenIn, .ref y_seenYards, .ref y_seenNear, .ref y_s, .ref y_aside, .ref y_before, .ref y_marked, .ref y_undone, .ref y_isLaid, .int (nI y_done), .int y_snowNow, .int y_cameNow, .int y_cookThen, .int y_tasteThen, .ref y_places, .ref y_comesAt, .ref y_yardsIn, .long y_g]), (y_tape, kI k 1000 y_tapeF)]) [0, 1] (by decide +kernel) rfl
    exact W.zret (v := 0) hx hb hr rfl (fun zt ht hW => ⟨⟨0, false, rfl, ⟨rfl, (hZ.trans hE0), (fun h9 => by first | exact absurd h9 (by decide) | exact Bool.noConfusion h9 | omega | (dsimp only; omega))⟩, by rw [ht]; exact hP9, hD9⟩, hS.F ht⟩) hS.2.2 dX9_isSign_26
  refine lv_icmp_ne (tgt := 25) hx hb dX9_isSign_5 (by decide) (fun c_2 => ?_) (fun c_2 => ?_)
  · exact by
     have k_2 : ¬ (y_token = 3) := fun h => c_2 ((nI_eq (a := y_token) (b := 3) (by omega) (by omega)).mpr h)
     have hZ := (if_neg k_2).symm.trans hZ
     exact hj25_1 _ _ _ hZ (hP.sub [0, 1] rfl) (hD.sub [0, 1] (by decide +kernel) rfl) hS (lv_sub hl [0, 1] rfl)
  · exact by
     have k_2 : y_token = 3 := (nI_eq (a := y_token) (b := 3) (by omega) (by omega)).mp c_2
     have hZ := (if_pos k_2).symm.trans hZ
     refine lv_aload_n hx hb dX9_isSign_8 rfl (lv_at hl 0 rfl) ?_
     refine va_get (D := D) (ci := 9) (v := .ref y_tape) (C := RX9) (T := TX9) (N := 58) hx hb hts hi9 hown hK hP 0 rfl rfl 2 (by decide) lf7 (fun _ h9 => h9) rfl dX9_isSign_9 ?_
     refine lv_aload_n hx hb dX9_isSign_12 rfl (lv_at hl 0 rfl) ?_
     refine va_get (D := D) (ci := 9) (v := .int (nI y_begin)) (C := RX9) (T := TX9) (N := 58) hx hb hts hi9 hown hK hP 0 rfl rfl 5 (by decide) lf157 (fun _ h9 => h9) rfl dX9_isSign_13 ?_
     refine va_iald hx hb hK hP 1 0 rfl rfl (vp_in_nI (n := y_begin) (by omega) (by omega)) dX9_isSign_16 ?_
     refine lv_iload_n hx hb dX9_isSign_17 rfl (lv_at hl 1 rfl) ?_
     refine lv_icmp_ne (tgt := 25) hx hb dX9_isSign_18 (by decide) (fun c_3 => ?_) (fun c_3 => ?_)
     · exact by
        have t_3 : (Int32.toInt (y_tapeF (Int32.toNatClampNeg (nI y_begin)))) ≠ (Int32.toInt w_) := tI_ne rfl rfl c_3
        have hZ := (if_neg c_3).symm.trans hZ
        exact hj25_1 _ _ _ hZ (hP.sub [0, 1] rfl) (hD.sub [0, 1] (by decide +kernel) rfl) hS (lv_sub hl [0, 1] rfl)
     · exact by
        have t_3 : (Int32.toInt (y_tapeF (Int32.toNatClampNeg (nI y_begin)))) = (Int32.toInt w_) := tI_eq rfl rfl c_3
        have hZ := (if_pos c_3).symm.trans hZ
        refine lv_iconst (v := 1) hx hb dX9_isSign_21 (by decide) ?_
        refine lv_goto (tgt := 26) hx hb dX9_isSign_22 (by decide) ?_
        rw [hQ]
        have hP9 := hP.sub (ws' := [(y, kO 9 [.int y_thrown, .int (nI y_taped), .ref y_tape, .int (nI y_size), .int (nI y_place), .int (nI y_begin), .int (nI y_token), .long y_word, .int y_told, .int y_wrong, .ref y_supper, .ref y_guestName, .ref y_kind, .ref y_offTold, .ref y_pace, .ref y_cooks, .ref y_snow, .ref y_lineFrom, .ref y_lineTo, .ref y_codes, .int (nI y_code), .int y_toldLines, .ref y_opened, .ref y_compared, .ref y_kept, .ref y_keptBy, .ref y_ahead, .ref y_against, .ref y_sum, .ref y_sumBy, .ref y_term, .ref y_termBy, .ref y_byNot, .ref y_valueOf, .int y_given, .ref y_lines, .ref y_lineWhat, .ref y_lineA, .ref y_lineB, .ref y_seens, .ref y_seenIn, .ref y_seenYards, .ref y_seenNear, .ref y_s, .ref y_aside, .ref y_before, .ref y_marked, .ref y_undone, .ref y_isLaid, .int (nI y_done), .int y_snowNow, .int y_cameNow, .int y_cookThen, .int y_tasteThen, .ref y_places, .ref y_comesAt, .ref y_yardsIn, .long y_g]), (y_tape, kI k 1000 y_tapeF)]) [0, 1] rfl
        have hD9 := hD.sub (ws' := [(y, kO 9 [.int y_thrown, .int (nI y_taped), .ref y_tape, .int (nI y_size), .int (nI y_place), .int (nI y_begin), .int (nI y_token), .long y_word, .int y_told, .int y_wrong, .ref y_supper, .ref y_guestName, .ref y_kind, .ref y_offTold, .ref y_pace, .ref y_cooks, .ref y_snow, .ref y_lineFrom, .ref y_lineTo, .ref y_codes, .int (nI y_code), .int y_toldLines, .ref y_opened, .ref y_compared, .ref y_kept, .ref y_keptBy, .ref y_ahead, .ref y_against, .ref y_sum, .ref y_sumBy, .ref y_term, .ref y_termBy, .ref y_byNot, .ref y_valueOf, .int y_given, .ref y_lines, .ref y_lineWhat, .ref y_lineA, .ref y_lineB, .ref y_seens, .ref y_seenIn, .ref y_seenYards, .ref y_seenNear, .ref y_s, .ref y_aside, .ref y_before, .ref y_marked, .ref y_undone, .ref y_isLaid, .int (nI y_done), .int y_snowNow, .int y_cameNow, .int y_cookThen, .int y_tasteThen, .ref y_places, .ref y_comesAt, .ref y_yardsIn, .long y_g]), (y_tape, kI k 1000 y_tapeF)]) [0, 1] (by decide +kernel) rfl
        exact W.zret (v := 1) hx hb hr rfl (fun zt ht hW => ⟨⟨1, true, rfl, ⟨rfl, (hZ.trans hE0), (fun h9 => by first | exact absurd h9 (by decide) | exact Bool.noConfusion h9 | omega | (dsimp only; omega))⟩, by rw [ht]; exact hP9, hD9⟩, hS.F ht⟩) hS.2.2 dX9_isSign_26
theorem dX9_fails_0 : decode cX9_fails 0 = .ok (.aload_n 0, 1) := dk_aload_n_0 (by decide +kernel)
theorem dX9_fails_1 : decode cX9_fails 1 = .ok (.iload_n 1, 1) := dk_iload_n_1 (by decide +kernel)
theorem dX9_fails_2 : decode cX9_fails 2 = .ok (.bipush 16, 2) := dk_bipush (by decide +kernel)
theorem dX9_fails_4 : decode cX9_fails 4 = .ok (.aload_n 0, 1) := dk_aload_n_0 (by decide +kernel)
theorem dX9_fails_5 : decode cX9_fails 5 = .ok (.getfield 157, 3) := dk_getfield (by decide +kernel)
theorem dX9_fails_8 : decode cX9_fails 8 = .ok (.imul, 1) := dk_imul (by decide +kernel)
theorem dX9_fails_9 : decode cX9_fails 9 = .ok (.iadd, 1) := dk_iadd (by decide +kernel)
theorem dX9_fails_10 : decode cX9_fails 10 = .ok (.putfield 178, 3) := dk_putfield (by decide +kernel)
theorem dX9_fails_13 : decode cX9_fails 13 = .ok (.iconst 0, 1) := dk_iconst_0 (by decide +kernel)
theorem dX9_fails_14 : decode cX9_fails 14 = .ok (.ireturn, 1) := dk_ireturn (by decide +kernel)
set_option maxHeartbeats 4000000 in
set_option maxRecDepth 100000 in
theorem sX9_fails (l : Launch) (D : va_G) (k : Nat → ClassId) (sz : Nat) (y : Nat) (w_ : Int32) (y_thrown : Int32) (y_taped : Nat) (y_tape : Nat) (y_size : Nat) (y_place : Nat) (y_begin : Nat) (y_token : Nat) (y_word : Int64) (y_told : Int32) (y_wrong : Int32) (y_supper : Nat) (y_guestName : Nat) (y_kind : Nat) (y_offTold : Nat) (y_pace : Nat) (y_cooks : Nat) (y_snow : Nat) (y_lineFrom : Nat) (y_lineTo : Nat) (y_codes : Nat) (y_code : Nat) (y_toldLines : Int32) (y_opened : Nat) (y_compared : Nat) (y_kept : Nat) (y_keptBy : Nat) (y_ahead : Nat) (y_against : Nat) (y_sum : Nat) (y_sumBy : Nat) (y_term : Nat) (y_termBy : Nat) (y_byNot : Nat) (y_valueOf : Nat) (y_given : Int32) (y_lines : Nat) (y_lineWhat : Nat) (y_lineA : Nat) (y_lineB : Nat) (y_seens : Nat) (y_seenIn : Nat) (y_seenYards : Nat) (y_seenNear : Nat) (y_s : Nat) (y_aside : Nat) (y_before : Nat) (y_marked : Nat) (y_undone : Nat) (y_isLaid : Nat) (y_done : Nat) (y_snowNow : Int32) (y_cameNow : Int32) (y_cookThen : Int32) (y_tasteThen : Int32) (y_places : Nat) (y_comesAt : Nat) (y_yardsIn : Nat) (y_g : Int64) (h_y_taped : y_taped ≤ 1000) (h_y_size : y_size ≤ 1000) (h_y_place : y_place ≤ 1000) (h_y_begin : y_begin ≤ 1000) (h_y_token : y_token ≤ 4) (h_y_told : 0 ≤ Int32.toInt y_told ∧ Int32.toInt y_told ≤ 9999) (h_y_code : y_code ≤ 2000) (h_y_done : y_done ≤ 16) : Met l yX9_fails wsX9_fails ({ frames := 0, cells := 0, slots := 0, locals := 0 }) (va_Pc [.ref y, .int w_] (kz_Pre D k [(y, kO 9 [.int y_thrown, .int (nI y_taped), .ref y_tape, .int (nI y_size), .int (nI y_place), .int (nI y_begin), .int (nI y_token), .long y_word, .int y_told, .int y_wrong, .ref y_supper, .ref y_guestName, .ref y_kind, .ref y_offTold, .ref y_pace, .ref y_cooks, .ref y_snow, .ref y_lineFrom, .ref y_lineTo, .ref y_codes, .int (nI y_code), .int y_toldLines, .ref y_opened, .ref y_compared, .ref y_kept, .ref y_keptBy, .ref y_ahead, .ref y_against, .ref y_sum, .ref y_sumBy, .ref y_term, .ref y_termBy, .ref y_byNot, .ref y_valueOf, .int y_given, .ref y_lines, .ref y_lineWhat, .ref y_lineA, .ref y_lineB, .ref y_seens, .ref y_seenIn, .ref y_seenYards, .ref y_seenNear, .ref y_s, .ref y_aside, .ref y_before, .ref y_marked, .ref y_undone, .ref y_isLaid, .int (nI y_done), .int y_snowNow, .int y_cameNow, .int y_cookThen, .int y_tasteThen, .ref y_places, .ref y_comesAt, .ref y_yardsIn, .long y_g])] sz)) (va_Qi (fun (rr : Int32) (uu : Int32 × Bool) => rr = bB uu.2 ∧ ((uu.1, uu.2) = (fX9_fails w_ y_begin)) ∧ (uu.2 = true → (False))) (fun uu zt => kz_B D (va_A [(y, kO 9 [.int y_thrown, .int (nI y_taped), .ref y_tape, .int (nI y_size), .int (nI y_place), .int (nI y_begin), .int (nI y_token), .long y_word, .int y_told, .int y_wrong, .ref y_supper, .ref y_guestName, .ref y_kind, .ref y_offTold, .ref y_pace, .ref y_cooks, .ref y_snow, .ref y_lineFrom, .ref y_lineTo, .ref y_codes, .int (nI y_code), .int y_toldLines, .ref y_opened, .ref y_compared, .ref y_kept, .ref y_keptBy, .ref y_ahead, .ref y_against, .ref y_sum, .ref y_sumBy, .ref y_term, .ref y_termBy, .ref y_byNot, .ref y_valueOf, .int y_given, .ref y_lines, .ref y_lineWhat, .ref y_lineA, .ref y_lineB, .ref y_seens, .ref y_seenIn, .ref y_seenYards, .ref y_seenNear, .ref y_s, .ref y_aside, .ref y_before, .ref y_marked, .ref y_undone, .ref y_isLaid, .int (nI y_done), .int y_snowNow, .int y_cameNow, .int y_cookThen, .int y_tasteThen, .ref y_places, .ref y_comesAt, .ref y_yardsIn, .long y_g])] sz) [(y, kO 9 [.int y_thrown, .int (nI y_taped), .ref y_tape, .int (nI y_size), .int (nI y_place), .int (nI y_begin), .int (nI y_token), .long y_word, .int y_told, .int uu.1, .ref y_supper, .ref y_guestName, .ref y_kind, .ref y_offTold, .ref y_pace, .ref y_cooks, .ref y_snow, .ref y_lineFrom, .ref y_lineTo, .ref y_codes, .int (nI y_code), .int y_toldLines, .ref y_opened, .ref y_compared, .ref y_kept, .ref y_keptBy, .ref y_ahead, .ref y_against, .ref y_sum, .ref y_sumBy, .ref y_term, .ref y_termBy, .ref y_byNot, .ref y_valueOf, .int y_given, .ref y_lines, .ref y_lineWhat, .ref y_lineA, .ref y_lineB, .ref y_seens, .ref y_seenIn, .ref y_seenYards, .ref y_seenNear, .ref y_s, .ref y_aside, .ref y_before, .ref y_marked, .ref y_undone, .ref y_isLaid, .int (nI y_done), .int y_snowNow, .int y_cameNow, .int y_cookThen, .int y_tasteThen, .ref y_places, .ref y_comesAt, .ref y_yardsIn, .long y_g])] zt) (va_A [(y, kO 9 [.int y_thrown, .int (nI y_taped), .ref y_tape, .int (nI y_size), .int (nI y_place), .int (nI y_begin), .int (nI y_token), .long y_word, .int y_told, .int y_wrong, .ref y_supper, .ref y_guestName, .ref y_kind, .ref y_offTold, .ref y_pace, .ref y_cooks, .ref y_snow, .ref y_lineFrom, .ref y_lineTo, .ref y_codes, .int (nI y_code), .int y_toldLines, .ref y_opened, .ref y_compared, .ref y_kept, .ref y_keptBy, .ref y_ahead, .ref y_against, .ref y_sum, .ref y_sumBy, .ref y_term, .ref y_termBy, .ref y_byNot, .ref y_valueOf, .int y_given, .ref y_lines, .ref y_lineWhat, .ref y_lineA, .ref y_lineB, .ref y_seens, .ref y_seenIn, .ref y_seenYards, .ref y_seenNear, .ref y_s, .ref y_aside, .ref y_before, .ref y_marked, .ref y_undone, .ref y_isLaid, .int (nI y_done), .int y_snowNow, .int y_cameNow, .int y_cookThen, .int y_tasteThen, .ref y_places, .ref y_comesAt, .ref y_yardsIn, .long y_g])] sz)) 0 0 (va_A [(y, kO 9 [.int y_thrown, .int (nI y_taped), .ref y_tape, .int (nI y_size), .int (nI y_place), .int (nI y_begin), .int (nI y_token), .long y_word, .int y_told, .int y_wrong, .ref y_supper, .ref y_guestName, .ref y_kind, .ref y_offTold, .ref y_pace, .ref y_cooks, .ref y_snow, .ref y_lineFrom, .ref y_lineTo, .ref y_codes, .int (nI y_code), .int y_toldLines, .ref y_opened, .ref y_compared, .ref y_kept, .ref y_keptBy, .ref y_ahead, .ref y_against, .ref y_sum, .ref y_sumBy, .ref y_term, .ref y_termBy, .ref y_byNot, .ref y_valueOf, .int y_given, .ref y_lines, .ref y_lineWhat, .ref y_lineA, .ref y_lineB, .ref y_seens, .ref y_seenIn, .ref y_seenYards, .ref y_seenNear, .ref y_s, .ref y_aside, .ref y_before, .ref y_marked, .ref y_undone, .ref y_isLaid, .int (nI y_done), .int y_snowNow, .int y_cameNow, .int y_cookThen, .int y_tasteThen, .ref y_places, .ref y_comesAt, .ref y_yardsIn, .long y_g])] sz) := by
  refine Met.ofW (cc := cX9_fails) (maxL := 2) (ret := (some .boolean)) (by decide) rfl ?_
  intro p e s m args below meth c s₁ B hml hv
  obtain ⟨hav, hsz, hP, hK, hD0, hE⟩ := hv
  have hx := B.exec
  have hb := B.bytes
  have hr := B.returns
  have hts := atoms_spec (ws := wsX9_fails) B.pre
  have hown : s.vm.findClass RX9 = some m.cls := findClass_of_methodNamed B.named
  have hlocks := B.notSynchronized
  have hi9 : ∀ w ∈ u_ws RX9 TX9 58, w ∈ wsX9_fails := fun w h9 => List.mem_cons_of_mem _ (List.mem_append_right _ h9)
  have lf157 := hts (.fieldLink RX9 157 "LastCookModel" "begin" "I") (List.mem_cons_of_mem _ (List.mem_append_left _ (List.mem_of_getElem? (i := 0) rfl)))
  have lf178 := hts (.fieldLink RX9 178 "LastCookModel" "wrong" "I") (List.mem_cons_of_mem _ (List.mem_append_left _ (List.mem_of_getElem? (i := 1) rfl)))
  subst hsz
  have hD := hD0.self (sz := s.heap.size)
  generalize hAe : va_A [(y, kO 9 [.int y_thrown, .int (nI y_taped), .ref y_tape, .int (nI y_size), .int (nI y_place), .int (nI y_begin), .int (nI y_token), .long y_word, .int y_told, .int y_wrong, .ref y_supper, .ref y_guestName, .ref y_kind, .ref y_offTold, .ref y_pace, .ref y_cooks, .ref y_snow, .ref y_lineFrom, .ref y_lineTo, .ref y_codes, .int (nI y_code), .int y_toldLines, .ref y_opened, .ref y_compared, .ref y_kept, .ref y_keptBy, .ref y_ahead, .ref y_against, .ref y_sum, .ref y_sumBy, .ref y_term, .ref y_termBy, .ref y_byNot, .ref y_valueOf, .int y_given, .ref y_lines, .ref y_lineWhat, .ref y_lineA, .ref y_lineB, .ref y_seens, .ref y_seenIn, .ref y_seenYards, .ref y_seenNear, .ref y_s, .ref y_aside, .ref y_before, .ref y_marked, .ref y_undone, .ref y_isLaid, .int (nI y_done), .int y_snowNow, .int y_cameNow, .int y_cookThen, .int y_tasteThen, .ref y_places, .ref y_comesAt, .ref y_yardsIn, .long y_g])] s.heap.size = A at hD ⊢
  have hA : ∀ q : Nat, s.heap.size ≤ q → A q := fun q h => by rw [← hAe]; exact Or.inr h
  have hS : va_S A s.heap s.heap [] := va_S.rf
  have hl := lv_entry ([.ref y, .int w_]) (n := 2) (Nat.le_of_ble_eq_true rfl)
  rw [show entryFrame m args 2 = entryFrame m ([.ref y, .int w_] : List Value).toArray 2 by rw [hav], lg_entry_eq]
  generalize (lg_sl ([.ref y, .int w_]) ++ List.replicate (2 - (lg_sl ([.ref y, .int w_])).length) Slot.unset).toArray = ls at hl ⊢
  have hl : lv_has ls 2 [(0, .ref y), (1, .int w_)] := hl
  obtain ⟨R, hR⟩ : ∃ R, R = (headSpec wsX9_fails ({ frames := 0, cells := 0, slots := 0, locals := 0 } : Room)).room := ⟨_, rfl⟩
  rw [← hR]
  generalize hQ : MQ below _ args s 0 0 A = Q
  replace hQ := hQ.symm
  obtain ⟨H, hH⟩ : ∃ H, H = s.heap := ⟨_, rfl⟩
  rw [← hH] at hP ⊢
  have hS : va_S A s.heap H [] := by rw [hH]; exact hS
  obtain ⟨E0, hE0⟩ : ∃ E0 : Int32 × Bool, E0 = (fX9_fails w_ y_begin) := ⟨_, rfl⟩
  have hZ : (fX9_fails w_ y_begin) = E0 := hE0.symm
  refine lv_aload_n hx hb dX9_fails_0 rfl (lv_at hl 0 rfl) ?_
  refine lv_iload_n hx hb dX9_fails_1 rfl (lv_at hl 1 rfl) ?_
  refine lv_bipush (v := 16) hx hb dX9_fails_2 (by decide) ?_
  refine lv_aload_n hx hb dX9_fails_4 rfl (lv_at hl 0 rfl) ?_
  refine va_get (D := D) (ci := 9) (v := .int (nI y_begin)) (C := RX9) (T := TX9) (N := 58) hx hb hts hi9 hown hK hP 0 rfl rfl 5 (by decide) lf157 (fun _ h9 => h9) rfl dX9_fails_5 ?_
  refine lv_imul hx hb dX9_fails_8 ?_
  refine lv_topi (fun x1 ex1 => ?_)
  exact by
   obtain rfl : x1 = (nI (16 * y_begin)) := ex1.trans (pk_mul 16 y_begin)
   refine lv_iadd hx hb dX9_fails_9 ?_
   refine va_put (D := D) (ci := 9) (v := .int (w_ + (nI (16 * y_begin)))) (ty := .int) (C := RX9) (T := TX9) (N := 58) hx hb hts hi9 tyX9 tyX9_ok nmX9 hown hK hP hD hS 0 rfl rfl 9 (by decide) lf178 (fun _ h9 => h9) rfl (by decide +kernel) rfl rfl (Nat.le_of_ble_eq_true rfl) dX9_fails_10 (fun H locs hP hD hS => ?_)
   exact by
    have hP : va_P D vwCl [(y, kO 9 [.int y_thrown, .int (nI y_taped), .ref y_tape, .int (nI y_size), .int (nI y_place), .int (nI y_begin), .int (nI y_token), .long y_word, .int y_told, .int (w_ + (nI (16 * y_begin))), .ref y_supper, .ref y_guestName, .ref y_kind, .ref y_offTold, .ref y_pace, .ref y_cooks, .ref y_snow, .ref y_lineFrom, .ref y_lineTo, .ref y_codes, .int (nI y_code), .int y_toldLines, .ref y_opened, .ref y_compared, .ref y_kept, .ref y_keptBy, .ref y_ahead, .ref y_against, .ref y_sum, .ref y_sumBy, .ref y_term, .ref y_termBy, .ref y_byNot, .ref y_valueOf, .int y_given, .ref y_lines, .ref y_lineWhat, .ref y_lineA, .ref y_lineB, .ref y_seens, .ref y_seenIn, .ref y_seenYards, .ref y_seenNear, .ref y_s, .ref y_aside, .ref y_before, .ref y_marked, .ref y_undone, .ref y_isLaid, .int (nI y_done), .int y_snowNow, .int y_cameNow, .int y_cookThen, .int y_tasteThen, .ref y_places, .ref y_comesAt, .ref y_yardsIn, .long y_g])] H := hP
    have hD : va_D A [(y, kO 9 [.int y_thrown, .int (nI y_taped), .ref y_tape, .int (nI y_size), .int (nI y_place), .int (nI y_begin), .int (nI y_token), .long y_word, .int y_told, .int (w_ + (nI (16 * y_begin))), .ref y_supper, .ref y_guestName, .ref y_kind, .ref y_offTold, .ref y_pace, .ref y_cooks, .ref y_snow, .ref y_lineFrom, .ref y_lineTo, .ref y_codes, .int (nI y_code), .int y_toldLines, .ref y_opened, .ref y_compared, .ref y_kept, .ref y_keptBy, .ref y_ahead, .ref y_against, .ref y_sum, .ref y_sumBy, .ref y_term, .ref y_termBy, .ref y_byNot, .ref y_valueOf, .int y_given, .ref y_lines, .ref y_lineWhat, .ref y_lineA, .ref y_lineB, .ref y_seens, .ref y_seenIn, .ref y_seenYards, .ref y_seenNear, .ref y_s, .ref y_aside, .ref y_before, .ref y_marked, .ref y_undone, .ref y_isLaid, .int (nI y_done), .int y_snowNow, .int y_cameNow, .int y_cookThen, .int y_tasteThen, .ref y_places, .ref y_comesAt, .ref y_yardsIn, .long y_g])] := hD
    refine lv_iconst (v := 0) hx hb dX9_fails_13 (by decide) ?_
    rw [hQ]
    have hP9 := hP.sub (ws' := [(y, kO 9 [.int y_thrown, .int (nI y_taped), .ref y_tape, .int (nI y_size), .int (nI y_place), .int (nI y_begin), .int (nI y_token), .long y_word, .int y_told, .int (w_ + (nI (16 * y_begin))), .ref y_supper, .ref y_guestName, .ref y_kind, .ref y_offTold, .ref y_pace, .ref y_cooks, .ref y_snow, .ref y_lineFrom, .ref y_lineTo, .ref y_codes, .int (nI y_code), .int y_toldLines, .ref y_opened, .ref y_compared, .ref y_kept, .ref y_keptBy, .ref y_ahead, .ref y_against, .ref y_sum, .ref y_sumBy, .ref y_term, .ref y_termBy, .ref y_byNot, .ref y_valueOf, .int y_given, .ref y_lines, .ref y_lineWhat, .ref y_lineA, .ref y_lineB, .ref y_seens, .ref y_seenIn, .ref y_seenYards, .ref y_seenNear, .ref y_s, .ref y_aside, .ref y_before, .ref y_marked, .ref y_undone, .ref y_isLaid, .int (nI y_done), .int y_snowNow, .int y_cameNow, .int y_cookThen, .int y_tasteThen, .ref y_places, .ref y_comesAt, .ref y_yardsIn, .long y_g])]) [0] rfl
    have hD9 := hD.sub (ws' := [(y, kO 9 [.int y_thrown, .int (nI y_taped), .ref y_tape, .int (nI y_size), .int (nI y_place), .int (nI y_begin), .int (nI y_token), .long y_word, .int y_told, .int (w_ + (nI (16 * y_begin))), .ref y_supper, .ref y_guestName, .ref y_kind, .ref y_offTold, .ref y_pace, .ref y_cooks, .ref y_snow, .ref y_lineFrom, .ref y_lineTo, .ref y_codes, .int (nI y_code), .int y_toldLines, .ref y_opened, .ref y_compared, .ref y_kept, .ref y_keptBy, .ref y_ahead, .ref y_against, .ref y_sum, .ref y_sumBy, .ref y_term, .ref y_termBy, .ref y_byNot, .ref y_valueOf, .int y_given, .ref y_lines, .ref y_lineWhat, .ref y_lineA, .ref y_lineB, .ref y_seens, .ref y_seenIn, .ref y_seenYards, .ref y_seenNear, .ref y_s, .ref y_aside, .ref y_before, .ref y_marked, .ref y_undone, .ref y_isLaid, .int (nI y_done), .int y_snowNow, .int y_cameNow, .int y_cookThen, .int y_tasteThen, .ref y_places, .ref y_comesAt, .ref y_yardsIn, .long y_g])]) [0] (by decide +kernel) rfl
    exact W.zret (v := 0) hx hb hr rfl (fun zt ht hW => ⟨⟨0, ⟨(w_ + (nI (16 * y_begin))), false⟩, rfl, ⟨rfl, (hZ.trans hE0), (fun h9 => by first | exact absurd h9 (by decide) | exact Bool.noConfusion h9 | omega | (dsimp only; omega))⟩, by rw [ht]; exact hP9, hD9⟩, hS.F ht⟩) hS.2.2 dX9_fails_14
theorem dX9_usual_0 : decode cX9_usual 0 = .ok (.aload_n 0, 1) := dk_aload_n_0 (by decide +kernel)
theorem dX9_usual_1 : decode cX9_usual 1 = .ok (.getfield 13, 3) := dk_getfield (by decide +kernel)
theorem dX9_usual_4 : decode cX9_usual 4 = .ok (.iconst 4, 1) := dk_iconst_4 (by decide +kernel)
theorem dX9_usual_5 : decode cX9_usual 5 = .ok (.iload_n 1, 1) := dk_iload_n_1 (by decide +kernel)
theorem dX9_usual_6 : decode cX9_usual 6 = .ok (.imul, 1) := dk_imul (by decide +kernel)
theorem dX9_usual_7 : decode cX9_usual 7 = .ok (.iconst 0, 1) := dk_iconst_0 (by decide +kernel)
theorem dX9_usual_8 : decode cX9_usual 8 = .ok (.iadd, 1) := dk_iadd (by decide +kernel)
theorem dX9_usual_9 : decode cX9_usual 9 = .ok (.iconst 0, 1) := dk_iconst_0 (by decide +kernel)
theorem dX9_usual_10 : decode cX9_usual 10 = .ok (.iastore, 1) := dk_iastore (by decide +kernel)
theorem dX9_usual_11 : decode cX9_usual 11 = .ok (.aload_n 0, 1) := dk_aload_n_0 (by decide +kernel)
theorem dX9_usual_12 : decode cX9_usual 12 = .ok (.getfield 13, 3) := dk_getfield (by decide +kernel)
theorem dX9_usual_15 : decode cX9_usual 15 = .ok (.iconst 4, 1) := dk_iconst_4 (by decide +kernel)
theorem dX9_usual_16 : decode cX9_usual 16 = .ok (.iload_n 1, 1) := dk_iload_n_1 (by decide +kernel)
theorem dX9_usual_17 : decode cX9_usual 17 = .ok (.imul, 1) := dk_imul (by decide +kernel)
theorem dX9_usual_18 : decode cX9_usual 18 = .ok (.iconst 1, 1) := dk_iconst_1 (by decide +kernel)
theorem dX9_usual_19 : decode cX9_usual 19 = .ok (.iadd, 1) := dk_iadd (by decide +kernel)
theorem dX9_usual_20 : decode cX9_usual 20 = .ok (.bipush 10, 2) := dk_bipush (by decide +kernel)
theorem dX9_usual_22 : decode cX9_usual 22 = .ok (.iastore, 1) := dk_iastore (by decide +kernel)
theorem dX9_usual_23 : decode cX9_usual 23 = .ok (.aload_n 0, 1) := dk_aload_n_0 (by decide +kernel)
theorem dX9_usual_24 : decode cX9_usual 24 = .ok (.getfield 13, 3) := dk_getfield (by decide +kernel)
theorem dX9_usual_27 : decode cX9_usual 27 = .ok (.iconst 4, 1) := dk_iconst_4 (by decide +kernel)
theorem dX9_usual_28 : decode cX9_usual 28 = .ok (.iload_n 1, 1) := dk_iload_n_1 (by decide +kernel)
theorem dX9_usual_29 : decode cX9_usual 29 = .ok (.imul, 1) := dk_imul (by decide +kernel)
theorem dX9_usual_30 : decode cX9_usual 30 = .ok (.iconst 2, 1) := dk_iconst_2 (by decide +kernel)
theorem dX9_usual_31 : decode cX9_usual 31 = .ok (.iadd, 1) := dk_iadd (by decide +kernel)
theorem dX9_usual_32 : decode cX9_usual 32 = .ok (.bipush 30, 2) := dk_bipush (by decide +kernel)
theorem dX9_usual_34 : decode cX9_usual 34 = .ok (.iastore, 1) := dk_iastore (by decide +kernel)
theorem dX9_usual_35 : decode cX9_usual 35 = .ok (.aload_n 0, 1) := dk_aload_n_0 (by decide +kernel)
theorem dX9_usual_36 : decode cX9_usual 36 = .ok (.getfield 13, 3) := dk_getfield (by decide +kernel)
theorem dX9_usual_39 : decode cX9_usual 39 = .ok (.iconst 4, 1) := dk_iconst_4 (by decide +kernel)
theorem dX9_usual_40 : decode cX9_usual 40 = .ok (.iload_n 1, 1) := dk_iload_n_1 (by decide +kernel)
theorem dX9_usual_41 : decode cX9_usual 41 = .ok (.imul, 1) := dk_imul (by decide +kernel)
theorem dX9_usual_42 : decode cX9_usual 42 = .ok (.iconst 3, 1) := dk_iconst_3 (by decide +kernel)
theorem dX9_usual_43 : decode cX9_usual 43 = .ok (.iadd, 1) := dk_iadd (by decide +kernel)
theorem dX9_usual_44 : decode cX9_usual 44 = .ok (.iconst 0, 1) := dk_iconst_0 (by decide +kernel)
theorem dX9_usual_45 : decode cX9_usual 45 = .ok (.iastore, 1) := dk_iastore (by decide +kernel)
theorem dX9_usual_46 : decode cX9_usual 46 = .ok (.return_, 1) := dk_return_ (by decide +kernel)
set_option maxHeartbeats 4000000 in
set_option maxRecDepth 100000 in
theorem sX9_usual0 (l : Launch) (D : va_G) (k : Nat → ClassId) (sz : Nat) (y : Nat) (y_thrown : Int32) (y_taped : Nat) (y_tape : Nat) (y_size : Nat) (y_place : Nat) (y_begin : Nat) (y_token : Nat) (y_word : Int64) (y_told : Int32) (y_wrong : Int32) (y_supper : Nat) (y_guestName : Nat) (y_kind : Nat) (y_offTold : Nat) (y_pace : Nat) (y_cooks : Nat) (y_snow : Nat) (y_lineFrom : Nat) (y_lineTo : Nat) (y_codes : Nat) (y_code : Nat) (y_toldLines : Int32) (y_opened : Nat) (y_compared : Nat) (y_kept : Nat) (y_keptBy : Nat) (y_ahead : Nat) (y_against : Nat) (y_sum : Nat) (y_sumBy : Nat) (y_term : Nat) (y_termBy : Nat) (y_byNot : Nat) (y_valueOf : Nat) (y_given : Int32) (y_lines : Nat) (y_lineWhat : Nat) (y_lineA : Nat) (y_lineB : Nat) (y_seens : Nat) (y_seenIn : Nat) (y_seenYards : Nat) (y_seenNear : Nat) (y_s : Nat) (y_aside : Nat) (y_before : Nat) (y_marked : Nat) (y_undone : Nat) (y_isLaid : Nat) (y_done : Nat) (y_snowNow : Int32) (y_cameNow : Int32) (y_cookThen : Int32) (y_tasteThen : Int32) (y_places : Nat) (y_comesAt : Nat) (y_yardsIn : Nat) (y_g : Int64) (y_supperF : Nat → Int32) (h_y_taped : y_taped ≤ 1000) (h_y_size : y_size ≤ 1000) (h_y_place : y_place ≤ 1000) (h_y_begin : y_begin ≤ 1000) (h_y_token : y_token ≤ 4) (h_y_told : 0 ≤ Int32.toInt y_told ∧ Int32.toInt y_told ≤ 9999) (h_y_code : y_code ≤ 2000) (h_y_done : y_done ≤ 16) (h_y_supper : I9_sup y_supperF) : Met l yX9_usual wsX9_usual ({ frames := 0, cells := 0, slots := 0, locals := 0 }) (va_Pc [.ref y, .int 0] (kz_Pre D k [(y, kO 9 [.int y_thrown, .int (nI y_taped), .ref y_tape, .int (nI y_size), .int (nI y_place), .int (nI y_begin), .int (nI y_token), .long y_word, .int y_told, .int y_wrong, .ref y_supper, .ref y_guestName, .ref y_kind, .ref y_offTold, .ref y_pace, .ref y_cooks, .ref y_snow, .ref y_lineFrom, .ref y_lineTo, .ref y_codes, .int (nI y_code), .int y_toldLines, .ref y_opened, .ref y_compared, .ref y_kept, .ref y_keptBy, .ref y_ahead, .ref y_against, .ref y_sum, .ref y_sumBy, .ref y_term, .ref y_termBy, .ref y_byNot, .ref y_valueOf, .int y_given, .ref y_lines, .ref y_lineWhat, .ref y_lineA, .ref y_lineB, .ref y_seens, .ref y_seenIn, .ref y_seenYards, .ref y_seenNear, .ref y_s, .ref y_aside, .ref y_before, .ref y_marked, .ref y_undone, .ref y_isLaid, .int (nI y_done), .int y_snowNow, .int y_cameNow, .int y_cookThen, .int y_tasteThen, .ref y_places, .ref y_comesAt, .ref y_yardsIn, .long y_g]), (y_supper, kI k 8 y_supperF)] sz)) (va_Qv (fun (uu : Nat → Int32) => (I9_sup uu) ∧ ((uu) = (fX9_usual0 y_supperF))) (fun uu zt => kz_B D (va_A [(y, kO 9 [.int y_thrown, .int (nI y_taped), .ref y_tape, .int (nI y_size), .int (nI y_place), .int (nI y_begin), .int (nI y_token), .long y_word, .int y_told, .int y_wrong, .ref y_supper, .ref y_guestName, .ref y_kind, .ref y_offTold, .ref y_pace, .ref y_cooks, .ref y_snow, .ref y_lineFrom, .ref y_lineTo, .ref y_codes, .int (nI y_code), .int y_toldLines, .ref y_opened, .ref y_compared, .ref y_kept, .ref y_keptBy, .ref y_ahead, .ref y_against, .ref y_sum, .ref y_sumBy, .ref y_term, .ref y_termBy, .ref y_byNot, .ref y_valueOf, .int y_given, .ref y_lines, .ref y_lineWhat, .ref y_lineA, .ref y_lineB, .ref y_seens, .ref y_seenIn, .ref y_seenYards, .ref y_seenNear, .ref y_s, .ref y_aside, .ref y_before, .ref y_marked, .ref y_undone, .ref y_isLaid, .int (nI y_done), .int y_snowNow, .int y_cameNow, .int y_cookThen, .int y_tasteThen, .ref y_places, .ref y_comesAt, .ref y_yardsIn, .long y_g]), (y_supper, kI k 8 y_supperF)] sz) [(y, kO 9 [.int y_thrown, .int (nI y_taped), .ref y_tape, .int (nI y_size), .int (nI y_place), .int (nI y_begin), .int (nI y_token), .long y_word, .int y_told, .int y_wrong, .ref y_supper, .ref y_guestName, .ref y_kind, .ref y_offTold, .ref y_pace, .ref y_cooks, .ref y_snow, .ref y_lineFrom, .ref y_lineTo, .ref y_codes, .int (nI y_code), .int y_toldLines, .ref y_opened, .ref y_compared, .ref y_kept, .ref y_keptBy, .ref y_ahead, .ref y_against, .ref y_sum, .ref y_sumBy, .ref y_term, .ref y_termBy, .ref y_byNot, .ref y_valueOf, .int y_given, .ref y_lines, .ref y_lineWhat, .ref y_lineA, .ref y_lineB, .ref y_seens, .ref y_seenIn, .ref y_seenYards, .ref y_seenNear, .ref y_s, .ref y_aside, .ref y_before, .ref y_marked, .ref y_undone, .ref y_isLaid, .int (nI y_done), .int y_snowNow, .int y_cameNow, .int y_cookThen, .int y_tasteThen, .ref y_places, .ref y_comesAt, .ref y_yardsIn, .long y_g]), (y_supper, kI k 8 uu)] zt) (va_A [(y, kO 9 [.int y_thrown, .int (nI y_taped), .ref y_tape, .int (nI y_size), .int (nI y_place), .int (nI y_begin), .int (nI y_token), .long y_word, .int y_told, .int y_wrong, .ref y_supper, .ref y_guestName, .ref y_kind, .ref y_offTold, .ref y_pace, .ref y_cooks, .ref y_snow, .ref y_lineFrom, .ref y_lineTo, .ref y_codes, .int (nI y_code), .int y_toldLines, .ref y_opened, .ref y_compared, .ref y_kept, .ref y_keptBy, .ref y_ahead, .ref y_against, .ref y_sum, .ref y_sumBy, .ref y_term, .ref y_termBy, .ref y_byNot, .ref y_valueOf, .int y_given, .ref y_lines, .ref y_lineWhat, .ref y_lineA, .ref y_lineB, .ref y_seens, .ref y_seenIn, .ref y_seenYards, .ref y_seenNear, .ref y_s, .ref y_aside, .ref y_before, .ref y_marked, .ref y_undone, .ref y_isLaid, .int (nI y_done), .int y_snowNow, .int y_cameNow, .int y_cookThen, .int y_tasteThen, .ref y_places, .ref y_comesAt, .ref y_yardsIn, .long y_g]), (y_supper, kI k 8 y_supperF)] sz)) 0 0 (va_A [(y, kO 9 [.int y_thrown, .int (nI y_taped), .ref y_tape, .int (nI y_size), .int (nI y_place), .int (nI y_begin), .int (nI y_token), .long y_word, .int y_told, .int y_wrong, .ref y_supper, .ref y_guestName, .ref y_kind, .ref y_offTold, .ref y_pace, .ref y_cooks, .ref y_snow, .ref y_lineFrom, .ref y_lineTo, .ref y_codes, .int (nI y_code), .int y_toldLines, .ref y_opened, .ref y_compared, .ref y_kept, .ref y_keptBy, .ref y_ahead, .ref y_against, .ref y_sum, .ref y_sumBy, .ref y_term, .ref y_termBy, .ref y_byNot, .ref y_valueOf, .int y_given, .ref y_lines, .ref y_lineWhat, .ref y_lineA, .ref y_lineB, .ref y_seens, .ref y_seenIn, .ref y_seenYards, .ref y_seenNear, .ref y_s, .ref y_aside, .ref y_before, .ref y_marked, .ref y_undone, .ref y_isLaid, .int (nI y_done), .int y_snowNow, .int y_cameNow, .int y_cookThen, .int y_tasteThen, .ref y_places, .ref y_comesAt, .ref y_yardsIn, .long y_g]), (y_supper, kI k 8 y_supperF)] sz) := by
  refine Met.ofW (cc := cX9_usual) (maxL := 2) (ret := none) (by decide) rfl ?_
  intro p e s m args below meth c s₁ B hml hv
  obtain ⟨hav, hsz, hP, hK, hD0, hE⟩ := hv
  have hx := B.exec
  have hb := B.bytes
  have hr := B.returns
  have hts := atoms_spec (ws := wsX9_usual) B.pre
  have hown : s.vm.findClass RX9 = some m.cls := findClass_of_methodNamed B.named
  have hlocks := B.notSynchronized
  have hi9 : ∀ w ∈ u_ws RX9 TX9 58, w ∈ wsX9_usual := fun w h9 => List.mem_cons_of_mem _ (List.mem_append_right _ h9)
  have lf13 := hts (.fieldLink RX9 13 "LastCookModel" "supper" "[I") (List.mem_cons_of_mem _ (List.mem_append_left _ (List.mem_of_getElem? (i := 0) rfl)))
  subst hsz
  have hD := hD0.self (sz := s.heap.size)
  generalize hAe : va_A [(y, kO 9 [.int y_thrown, .int (nI y_taped), .ref y_tape, .int (nI y_size), .int (nI y_place), .int (nI y_begin), .int (nI y_token), .long y_word, .int y_told, .int y_wrong, .ref y_supper, .ref y_guestName, .ref y_kind, .ref y_offTold, .ref y_pace, .ref y_cooks, .ref y_snow, .ref y_lineFrom, .ref y_lineTo, .ref y_codes, .int (nI y_code), .int y_toldLines, .ref y_opened, .ref y_compared, .ref y_kept, .ref y_keptBy, .ref y_ahead, .ref y_against, .ref y_sum, .ref y_sumBy, .ref y_term, .ref y_termBy, .ref y_byNot, .ref y_valueOf, .int y_given, .ref y_lines, .ref y_lineWhat, .ref y_lineA, .ref y_lineB, .ref y_seens, .ref y_seenIn, .ref y_seenYards, .ref y_seenNear, .ref y_s, .ref y_aside, .ref y_before, .ref y_marked, .ref y_undone, .ref y_isLaid, .int (nI y_done), .int y_snowNow, .int y_cameNow, .int y_cookThen, .int y_tasteThen, .ref y_places, .ref y_comesAt, .ref y_yardsIn, .long y_g]), (y_supper, kI k 8 y_supperF)] s.heap.size = A at hD ⊢
  have hA : ∀ q : Nat, s.heap.size ≤ q → A q := fun q h => by rw [← hAe]; exact Or.inr h
  have hS : va_S A s.heap s.heap [] := va_S.rf
  have hl := lv_entry ([.ref y, .int 0]) (n := 2) (Nat.le_of_ble_eq_true rfl)
  rw [show entryFrame m args 2 = entryFrame m ([.ref y, .int 0] : List Value).toArray 2 by rw [hav], lg_entry_eq]
  generalize (lg_sl ([.ref y, .int 0]) ++ List.replicate (2 - (lg_sl ([.ref y, .int 0])).length) Slot.unset).toArray = ls at hl ⊢
  have hl : lv_has ls 2 [(0, .ref y), (1, .int 0)] := hl
  obtain ⟨R, hR⟩ : ∃ R, R = (headSpec wsX9_usual ({ frames := 0, cells := 0, slots := 0, locals := 0 } : Room)).room := ⟨_, rfl⟩
  rw [← hR]
  generalize hQ : MQ below _ args s 0 0 A = Q
  replace hQ := hQ.symm
  obtain ⟨H, hH⟩ : ∃ H, H = s.heap := ⟨_, rfl⟩
  rw [← hH] at hP ⊢
  have hS : va_S A s.heap H [] := by rw [hH]; exact hS
  obtain ⟨E0, hE0⟩ : ∃ E0 : (Nat → Int32), E0 = (fX9_usual0 y_supperF) := ⟨_, rfl⟩
  have hZ : (fX9_usual0 y_supperF) = E0 := hE0.symm
  refine lv_aload_n hx hb dX9_usual_0 rfl (lv_at hl 0 rfl) ?_
  refine va_get (D := D) (ci := 9) (v := .ref y_supper) (C := RX9) (T := TX9) (N := 58) hx hb hts hi9 hown hK hP 0 rfl rfl 10 (by decide) lf13 (fun _ h9 => h9) rfl dX9_usual_1 ?_
  refine lv_iconst (v := 4) hx hb dX9_usual_4 (by decide) ?_
  refine lv_iload_n hx hb dX9_usual_5 rfl (lv_at hl 1 rfl) ?_
  refine lv_imul hx hb dX9_usual_6 ?_
  refine lv_topi (fun x1 ex1 => ?_)
  exact by
   obtain rfl : x1 = 0 := ex1.trans (by decide)
   refine lv_iconst (v := 0) hx hb dX9_usual_7 (by decide) ?_
   refine lv_iadd hx hb dX9_usual_8 ?_
   refine lv_topi (fun x2 ex2 => ?_)
   exact by
    obtain rfl : x2 = 0 := ex2.trans (by decide)
    refine lv_iconst (v := 0) hx hb dX9_usual_9 (by decide) ?_
    refine va_iast hx hb hK hP hD hS 1 0 rfl rfl (vp_in_iff.mpr (by decide)) dX9_usual_10 (fun H locs hP hD hS => ?_)
    exact by
     have hP : va_P D vwCl [(y, kO 9 [.int y_thrown, .int (nI y_taped), .ref y_tape, .int (nI y_size), .int (nI y_place), .int (nI y_begin), .int (nI y_token), .long y_word, .int y_told, .int y_wrong, .ref y_supper, .ref y_guestName, .ref y_kind, .ref y_offTold, .ref y_pace, .ref y_cooks, .ref y_snow, .ref y_lineFrom, .ref y_lineTo, .ref y_codes, .int (nI y_code), .int y_toldLines, .ref y_opened, .ref y_compared, .ref y_kept, .ref y_keptBy, .ref y_ahead, .ref y_against, .ref y_sum, .ref y_sumBy, .ref y_term, .ref y_termBy, .ref y_byNot, .ref y_valueOf, .int y_given, .ref y_lines, .ref y_lineWhat, .ref y_lineA, .ref y_lineB, .ref y_seens, .ref y_seenIn, .ref y_seenYards, .ref y_seenNear, .ref y_s, .ref y_aside, .ref y_before, .ref y_marked, .ref y_undone, .ref y_isLaid, .int (nI y_done), .int y_snowNow, .int y_cameNow, .int y_cookThen, .int y_tasteThen, .ref y_places, .ref y_comesAt, .ref y_yardsIn, .long y_g]), (y_supper, kI k 8 (upd y_supperF (Int32.toNatClampNeg 0) 0))] H := hP
     have hD : va_D A [(y, kO 9 [.int y_thrown, .int (nI y_taped), .ref y_tape, .int (nI y_size), .int (nI y_place), .int (nI y_begin), .int (nI y_token), .long y_word, .int y_told, .int y_wrong, .ref y_supper, .ref y_guestName, .ref y_kind, .ref y_offTold, .ref y_pace, .ref y_cooks, .ref y_snow, .ref y_lineFrom, .ref y_lineTo, .ref y_codes, .int (nI y_code), .int y_toldLines, .ref y_opened, .ref y_compared, .ref y_kept, .ref y_keptBy, .ref y_ahead, .ref y_against, .ref y_sum, .ref y_sumBy, .ref y_term, .ref y_termBy, .ref y_byNot, .ref y_valueOf, .int y_given, .ref y_lines, .ref y_lineWhat, .ref y_lineA, .ref y_lineB, .ref y_seens, .ref y_seenIn, .ref y_seenYards, .ref y_seenNear, .ref y_s, .ref y_aside, .ref y_before, .ref y_marked, .ref y_undone, .ref y_isLaid, .int (nI y_done), .int y_snowNow, .int y_cameNow, .int y_cookThen, .int y_tasteThen, .ref y_places, .ref y_comesAt, .ref y_yardsIn, .long y_g]), (y_supper, kI k 8 (upd y_supperF (Int32.toNatClampNeg 0) 0))] := hD
     have tq3 : Int32.toInt 0 = 0 := by decide
     have hi_4 : I9_sup (upd y_supperF (Int32.toNatClampNeg 0) 0) := by first | assumption | exact I9_supU (by assumption) (by refine ⟨fun h9 => ?_, fun h9 => ?_, fun h9 => ?_, fun h9 => ?_⟩ <;> first | omega | exact absurd h9 (by decide) | decide) | exact I9_minU (by assumption) (by first | decide | (rw [nI_clamp (by omega)]; omega) | exact clampNe (by omega)) | exact I9_min1 (by omega) | exact I9_min1 (by decide) | exact I9_minM (by assumption) (by omega) | exact I9_minC (by assumption) | exact I9_rowC (by assumption) (by assumption) | exact I9_minR (by assumption) (by omega) | exact I9_allU (by assumption) (by omega) | exact I9_allU (by assumption) (by decide) | exact I9_rowM (by assumption) (by omega) | exact I9_minV (by assumption) (by omega) | exact I9_supS (by assumption)
     refine lv_aload_n hx hb dX9_usual_11 rfl (lv_at hl 0 rfl) ?_
     refine va_get (D := D) (ci := 9) (v := .ref y_supper) (C := RX9) (T := TX9) (N := 58) hx hb hts hi9 hown hK hP 0 rfl rfl 10 (by decide) lf13 (fun _ h9 => h9) rfl dX9_usual_12 ?_
     refine lv_iconst (v := 4) hx hb dX9_usual_15 (by decide) ?_
     refine lv_iload_n hx hb dX9_usual_16 rfl (lv_at hl 1 rfl) ?_
     refine lv_imul hx hb dX9_usual_17 ?_
     refine lv_topi (fun x5 ex5 => ?_)
     exact by
      obtain rfl : x5 = 0 := ex5.trans (by decide)
      refine lv_iconst (v := 1) hx hb dX9_usual_18 (by decide) ?_
      refine lv_iadd hx hb dX9_usual_19 ?_
      refine lv_topi (fun x6 ex6 => ?_)
      exact by
       obtain rfl : x6 = 1 := ex6.trans (by decide)
       refine lv_bipush (v := 10) hx hb dX9_usual_20 (by decide) ?_
       refine va_iast hx hb hK hP hD hS 1 0 rfl rfl (vp_in_iff.mpr (by decide)) dX9_usual_22 (fun H locs hP hD hS => ?_)
       exact by
        have hP : va_P D vwCl [(y, kO 9 [.int y_thrown, .int (nI y_taped), .ref y_tape, .int (nI y_size), .int (nI y_place), .int (nI y_begin), .int (nI y_token), .long y_word, .int y_told, .int y_wrong, .ref y_supper, .ref y_guestName, .ref y_kind, .ref y_offTold, .ref y_pace, .ref y_cooks, .ref y_snow, .ref y_lineFrom, .ref y_lineTo, .ref y_codes, .int (nI y_code), .int y_toldLines, .ref y_opened, .ref y_compared, .ref y_kept, .ref y_keptBy, .ref y_ahead, .ref y_against, .ref y_sum, .ref y_sumBy, .ref y_term, .ref y_termBy, .ref y_byNot, .ref y_valueOf, .int y_given, .ref y_lines, .ref y_lineWhat, .ref y_lineA, .ref y_lineB, .ref y_seens, .ref y_seenIn, .ref y_seenYards, .ref y_seenNear, .ref y_s, .ref y_aside, .ref y_before, .ref y_marked, .ref y_undone, .ref y_isLaid, .int (nI y_done), .int y_snowNow, .int y_cameNow, .int y_cookThen, .int y_tasteThen, .ref y_places, .ref y_comesAt, .ref y_yardsIn, .long y_g]), (y_supper, kI k 8 (upd (upd y_supperF (Int32.toNatClampNeg 0) 0) (Int32.toNatClampNeg 1) 10))] H := hP
        have hD : va_D A [(y, kO 9 [.int y_thrown, .int (nI y_taped), .ref y_tape, .int (nI y_size), .int (nI y_place), .int (nI y_begin), .int (nI y_token), .long y_word, .int y_told, .int y_wrong, .ref y_supper, .ref y_guestName, .ref y_kind, .ref y_offTold, .ref y_pace, .ref y_cooks, .ref y_snow, .ref y_lineFrom, .ref y_lineTo, .ref y_codes, .int (nI y_code), .int y_toldLines, .ref y_opened, .ref y_compared, .ref y_kept, .ref y_keptBy, .ref y_ahead, .ref y_against, .ref y_sum, .ref y_sumBy, .ref y_term, .ref y_termBy, .ref y_byNot, .ref y_valueOf, .int y_given, .ref y_lines, .ref y_lineWhat, .ref y_lineA, .ref y_lineB, .ref y_seens, .ref y_seenIn, .ref y_seenYards, .ref y_seenNear, .ref y_s, .ref y_aside, .ref y_before, .ref y_marked, .ref y_undone, .ref y_isLaid, .int (nI y_done), .int y_snowNow, .int y_cameNow, .int y_cookThen, .int y_tasteThen, .ref y_places, .ref y_comesAt, .ref y_yardsIn, .long y_g]), (y_supper, kI k 8 (upd (upd y_supperF (Int32.toNatClampNeg 0) 0) (Int32.toNatClampNeg 1) 10))] := hD
        have tq7 : Int32.toInt 10 = 10 := by decide
        have hi_8 : I9_sup (upd (upd y_supperF (Int32.toNatClampNeg 0) 0) (Int32.toNatClampNeg 1) 10) := by first | assumption | exact I9_supU (by assumption) (by refine ⟨fun h9 => ?_, fun h9 => ?_, fun h9 => ?_, fun h9 => ?_⟩ <;> first | omega | exact absurd h9 (by decide) | decide) | exact I9_minU (by assumption) (by first | decide | (rw [nI_clamp (by omega)]; omega) | exact clampNe (by omega)) | exact I9_min1 (by omega) | exact I9_min1 (by decide) | exact I9_minM (by assumption) (by omega) | exact I9_minC (by assumption) | exact I9_rowC (by assumption) (by assumption) | exact I9_minR (by assumption) (by omega) | exact I9_allU (by assumption) (by omega) | exact I9_allU (by assumption) (by decide) | exact I9_rowM (by assumption) (by omega) | exact I9_minV (by assumption) (by omega) | exact I9_supS (by assumption)
        refine lv_aload_n hx hb dX9_usual_23 rfl (lv_at hl 0 rfl) ?_
        refine va_get (D := D) (ci := 9) (v := .ref y_supper) (C := RX9) (T := TX9) (N := 58) hx hb hts hi9 hown hK hP 0 rfl rfl 10 (by decide) lf13 (fun _ h9 => h9) rfl dX9_usual_24 ?_
        refine lv_iconst (v := 4) hx hb dX9_usual_27 (by decide) ?_
        refine lv_iload_n hx hb dX9_usual_28 rfl (lv_at hl 1 rfl) ?_
        refine lv_imul hx hb dX9_usual_29 ?_
        refine lv_topi (fun x9 ex9 => ?_)
        exact by
         obtain rfl : x9 = 0 := ex9.trans (by decide)
         refine lv_iconst (v := 2) hx hb dX9_usual_30 (by decide) ?_
         refine lv_iadd hx hb dX9_usual_31 ?_
         refine lv_topi (fun x10 ex10 => ?_)
         exact by
          obtain rfl : x10 = 2 := ex10.trans (by decide)
          refine lv_bipush (v := 30) hx hb dX9_usual_32 (by decide) ?_
          refine va_iast hx hb hK hP hD hS 1 0 rfl rfl (vp_in_iff.mpr (by decide)) dX9_usual_34 (fun H locs hP hD hS => ?_)
          exact by
           have hP : va_P D vwCl [(y, kO 9 [.int y_thrown, .int (nI y_taped), .ref y_tape, .int (nI y_size), .int (nI y_place), .int (nI y_begin), .int (nI y_token), .long y_word, .int y_told, .int y_wrong, .ref y_supper, .ref y_guestName, .ref y_kind, .ref y_offTold, .ref y_pace, .ref y_cooks, .ref y_snow, .ref y_lineFrom, .ref y_lineTo, .ref y_codes, .int (nI y_code), .int y_toldLines, .ref y_opened, .ref y_compared, .ref y_kept, .ref y_keptBy, .ref y_ahead, .ref y_against, .ref y_sum, .ref y_sumBy, .ref y_term, .ref y_termBy, .ref y_byNot, .ref y_valueOf, .int y_given, .ref y_lines, .ref y_lineWhat, .ref y_lineA, .ref y_lineB, .ref y_seens, .ref y_seenIn, .ref y_seenYards, .ref y_seenNear, .ref y_s, .ref y_aside, .ref y_before, .ref y_marked, .ref y_undone, .ref y_isLaid, .int (nI y_done), .int y_snowNow, .int y_cameNow, .int y_cookThen, .int y_tasteThen, .ref y_places, .ref y_comesAt, .ref y_yardsIn, .long y_g]), (y_supper, kI k 8 (upd (upd (upd y_supperF (Int32.toNatClampNeg 0) 0) (Int32.toNatClampNeg 1) 10) (Int32.toNatClampNeg 2) 30))] H := hP
           have hD : va_D A [(y, kO 9 [.int y_thrown, .int (nI y_taped), .ref y_tape, .int (nI y_size), .int (nI y_place), .int (nI y_begin), .int (nI y_token), .long y_word, .int y_told, .int y_wrong, .ref y_supper, .ref y_guestName, .ref y_kind, .ref y_offTold, .ref y_pace, .ref y_cooks, .ref y_snow, .ref y_lineFrom, .ref y_lineTo, .ref y_codes, .int (nI y_code), .int y_toldLines, .ref y_opened, .ref y_compared, .ref y_kept, .ref y_keptBy, .ref y_ahead, .ref y_against, .ref y_sum, .ref y_sumBy, .ref y_term, .ref y_termBy, .ref y_byNot, .ref y_valueOf, .int y_given, .ref y_lines, .ref y_lineWhat, .ref y_lineA, .ref y_lineB, .ref y_seens, .ref y_seenIn, .ref y_seenYards, .ref y_seenNear, .ref y_s, .ref y_aside, .ref y_before, .ref y_marked, .ref y_undone, .ref y_isLaid, .int (nI y_done), .int y_snowNow, .int y_cameNow, .int y_cookThen, .int y_tasteThen, .ref y_places, .ref y_comesAt, .ref y_yardsIn, .long y_g]), (y_supper, kI k 8 (upd (upd (upd y_supperF (Int32.toNatClampNeg 0) 0) (Int32.toNatClampNeg 1) 10) (Int32.toNatClampNeg 2) 30))] := hD
           have tq11 : Int32.toInt 30 = 30 := by decide
           have hi_12 : I9_sup (upd (upd (upd y_supperF (Int32.toNatClampNeg 0) 0) (Int32.toNatClampNeg 1) 10) (Int32.toNatClampNeg 2) 30) := by first | assumption | exact I9_supU (by assumption) (by refine ⟨fun h9 => ?_, fun h9 => ?_, fun h9 => ?_, fun h9 => ?_⟩ <;> first | omega | exact absurd h9 (by decide) | decide) | exact I9_minU (by assumption) (by first | decide | (rw [nI_clamp (by omega)]; omega) | exact clampNe (by omega)) | exact I9_min1 (by omega) | exact I9_min1 (by decide) | exact I9_minM (by assumption) (by omega) | exact I9_minC (by assumption) | exact I9_rowC (by assumption) (by assumption) | exact I9_minR (by assumption) (by omega) | exact I9_allU (by assumption) (by omega) | exact I9_allU (by assumption) (by decide) | exact I9_rowM (by assumption) (by omega) | exact I9_minV (by assumption) (by omega) | exact I9_supS (by assumption)
           refine lv_aload_n hx hb dX9_usual_35 rfl (lv_at hl 0 rfl) ?_
           refine va_get (D := D) (ci := 9) (v := .ref y_supper) (C := RX9) (T := TX9) (N := 58) hx hb hts hi9 hown hK hP 0 rfl rfl 10 (by decide) lf13 (fun _ h9 => h9) rfl dX9_usual_36 ?_
           refine lv_iconst (v := 4) hx hb dX9_usual_39 (by decide) ?_
           refine lv_iload_n hx hb dX9_usual_40 rfl (lv_at hl 1 rfl) ?_
           refine lv_imul hx hb dX9_usual_41 ?_
           refine lv_topi (fun x13 ex13 => ?_)
           exact by
            obtain rfl : x13 = 0 := ex13.trans (by decide)
            refine lv_iconst (v := 3) hx hb dX9_usual_42 (by decide) ?_
            refine lv_iadd hx hb dX9_usual_43 ?_
            refine lv_topi (fun x14 ex14 => ?_)
            exact by
             obtain rfl : x14 = 3 := ex14.trans (by decide)
             refine lv_iconst (v := 0) hx hb dX9_usual_44 (by decide) ?_
             refine va_iast hx hb hK hP hD hS 1 0 rfl rfl (vp_in_iff.mpr (by decide)) dX9_usual_45 (fun H locs hP hD hS => ?_)
             exact by
              have hP : va_P D vwCl [(y, kO 9 [.int y_thrown, .int (nI y_taped), .ref y_tape, .int (nI y_size), .int (nI y_place), .int (nI y_begin), .int (nI y_token), .long y_word, .int y_told, .int y_wrong, .ref y_supper, .ref y_guestName, .ref y_kind, .ref y_offTold, .ref y_pace, .ref y_cooks, .ref y_snow, .ref y_lineFrom, .ref y_lineTo, .ref y_codes, .int (nI y_code), .int y_toldLines, .ref y_opened, .ref y_compared, .ref y_kept, .ref y_keptBy, .ref y_ahead, .ref y_against, .ref y_sum, .ref y_sumBy, .ref y_term, .ref y_termBy, .ref y_byNot, .ref y_valueOf, .int y_given, .ref y_lines, .ref y_lineWhat, .ref y_lineA, .ref y_lineB, .ref y_seens, .ref y_seenIn, .ref y_seenYards, .ref y_seenNear, .ref y_s, .ref y_aside, .ref y_before, .ref y_marked, .ref y_undone, .ref y_isLaid, .int (nI y_done), .int y_snowNow, .int y_cameNow, .int y_cookThen, .int y_tasteThen, .ref y_places, .ref y_comesAt, .ref y_yardsIn, .long y_g]), (y_supper, kI k 8 (upd (upd (upd (upd y_supperF (Int32.toNatClampNeg 0) 0) (Int32.toNatClampNeg 1) 10) (Int32.toNatClampNeg 2) 30) (Int32.toNatClampNeg 3) 0))] H := hP
              have hD : va_D A [(y, kO 9 [.int y_thrown, .int (nI y_taped), .ref y_tape, .int (nI y_size), .int (nI y_place), .int (nI y_begin), .int (nI y_token), .long y_word, .int y_told, .int y_wrong, .ref y_supper, .ref y_guestName, .ref y_kind, .ref y_offTold, .ref y_pace, .ref y_cooks, .ref y_snow, .ref y_lineFrom, .ref y_lineTo, .ref y_codes, .int (nI y_code), .int y_toldLines, .ref y_opened, .ref y_compared, .ref y_kept, .ref y_keptBy, .ref y_ahead, .ref y_against, .ref y_sum, .ref y_sumBy, .ref y_term, .ref y_termBy, .ref y_byNot, .ref y_valueOf, .int y_given, .ref y_lines, .ref y_lineWhat, .ref y_lineA, .ref y_lineB, .ref y_seens, .ref y_seenIn, .ref y_seenYards, .ref y_seenNear, .ref y_s, .ref y_aside, .ref y_before, .ref y_marked, .ref y_undone, .ref y_isLaid, .int (nI y_done), .int y_snowNow, .int y_cameNow, .int y_cookThen, .int y_tasteThen, .ref y_places, .ref y_comesAt, .ref y_yardsIn, .long y_g]), (y_supper, kI k 8 (upd (upd (upd (upd y_supperF (Int32.toNatClampNeg 0) 0) (Int32.toNatClampNeg 1) 10) (Int32.toNatClampNeg 2) 30) (Int32.toNatClampNeg 3) 0))] := hD
              have tq15 : Int32.toInt 0 = 0 := by decide
              have hi_16 : I9_sup (upd (upd (upd (upd y_supperF (Int32.toNatClampNeg 0) 0) (Int32.toNatClampNeg 1) 10) (Int32.toNatClampNeg 2) 30) (Int32.toNatClampNeg 3) 0) := by first | assumption | exact I9_supU (by assumption) (by refine ⟨fun h9 => ?_, fun h9 => ?_, fun h9 => ?_, fun h9 => ?_⟩ <;> first | omega | exact absurd h9 (by decide) | decide) | exact I9_minU (by assumption) (by first | decide | (rw [nI_clamp (by omega)]; omega) | exact clampNe (by omega)) | exact I9_min1 (by omega) | exact I9_min1 (by decide) | exact I9_minM (by assumption) (by omega) | exact I9_minC (by assumption) | exact I9_rowC (by assumption) (by assumption) | exact I9_minR (by assumption) (by omega) | exact I9_allU (by assumption) (by omega) | exact I9_allU (by assumption) (by decide) | exact I9_rowM (by assumption) (by omega) | exact I9_minV (by assumption) (by omega) | exact I9_supS (by assumption)
              rw [hQ]
              have hP9 := hP.sub (ws' := [(y, kO 9 [.int y_thrown, .int (nI y_taped), .ref y_tape, .int (nI y_size), .int (nI y_place), .int (nI y_begin), .int (nI y_token), .long y_word, .int y_told, .int y_wrong, .ref y_supper, .ref y_guestName, .ref y_kind, .ref y_offTold, .ref y_pace, .ref y_cooks, .ref y_snow, .ref y_lineFrom, .ref y_lineTo, .ref y_codes, .int (nI y_code), .int y_toldLines, .ref y_opened, .ref y_compared, .ref y_kept, .ref y_keptBy, .ref y_ahead, .ref y_against, .ref y_sum, .ref y_sumBy, .ref y_term, .ref y_termBy, .ref y_byNot, .ref y_valueOf, .int y_given, .ref y_lines, .ref y_lineWhat, .ref y_lineA, .ref y_lineB, .ref y_seens, .ref y_seenIn, .ref y_seenYards, .ref y_seenNear, .ref y_s, .ref y_aside, .ref y_before, .ref y_marked, .ref y_undone, .ref y_isLaid, .int (nI y_done), .int y_snowNow, .int y_cameNow, .int y_cookThen, .int y_tasteThen, .ref y_places, .ref y_comesAt, .ref y_yardsIn, .long y_g]), (y_supper, kI k 8 (upd (upd (upd (upd y_supperF (Int32.toNatClampNeg 0) 0) (Int32.toNatClampNeg 1) 10) (Int32.toNatClampNeg 2) 30) (Int32.toNatClampNeg 3) 0))]) [0, 1] rfl
              have hD9 := hD.sub (ws' := [(y, kO 9 [.int y_thrown, .int (nI y_taped), .ref y_tape, .int (nI y_size), .int (nI y_place), .int (nI y_begin), .int (nI y_token), .long y_word, .int y_told, .int y_wrong, .ref y_supper, .ref y_guestName, .ref y_kind, .ref y_offTold, .ref y_pace, .ref y_cooks, .ref y_snow, .ref y_lineFrom, .ref y_lineTo, .ref y_codes, .int (nI y_code), .int y_toldLines, .ref y_opened, .ref y_compared, .ref y_kept, .ref y_keptBy, .ref y_ahead, .ref y_against, .ref y_sum, .ref y_sumBy, .ref y_term, .ref y_termBy, .ref y_byNot, .ref y_valueOf, .int y_given, .ref y_lines, .ref y_lineWhat, .ref y_lineA, .ref y_lineB, .ref y_seens, .ref y_seenIn, .ref y_seenYards, .ref y_seenNear, .ref y_s, .ref y_aside, .ref y_before, .ref y_marked, .ref y_undone, .ref y_isLaid, .int (nI y_done), .int y_snowNow, .int y_cameNow, .int y_cookThen, .int y_tasteThen, .ref y_places, .ref y_comesAt, .ref y_yardsIn, .long y_g]), (y_supper, kI k 8 (upd (upd (upd (upd y_supperF (Int32.toNatClampNeg 0) 0) (Int32.toNatClampNeg 1) 10) (Int32.toNatClampNeg 2) 30) (Int32.toNatClampNeg 3) 0))]) [0, 1] (by decide +kernel) rfl
              exact W.vret hx hb hr (fun zt ht hW => ⟨⟨(upd (upd (upd (upd y_supperF (Int32.toNatClampNeg 0) 0) (Int32.toNatClampNeg 1) 10) (Int32.toNatClampNeg 2) 30) (Int32.toNatClampNeg 3) 0), rfl, ⟨(by first | assumption | exact I9_supU (by assumption) (by refine ⟨fun h9 => ?_, fun h9 => ?_, fun h9 => ?_, fun h9 => ?_⟩ <;> first | omega | exact absurd h9 (by decide) | decide) | exact I9_minU (by assumption) (by first | decide | (rw [nI_clamp (by omega)]; omega) | exact clampNe (by omega)) | exact I9_min1 (by omega) | exact I9_min1 (by decide) | exact I9_minM (by assumption) (by omega) | exact I9_minC (by assumption) | exact I9_rowC (by assumption) (by assumption) | exact I9_minR (by assumption) (by omega) | exact I9_allU (by assumption) (by omega) | exact I9_allU (by assumption) (by decide) | exact I9_rowM (by assumption) (by omega) | exact I9_minV (by assumption) (by omega) | exact I9_supS (by assumption)), (hZ.trans hE0)⟩, by rw [ht]; exact hP9, hD9⟩, hS.F ht⟩) hS.2.2 dX9_usual_46
set_option maxHeartbeats 4000000 in
set_option maxRecDepth 100000 in
theorem sX9_usual1 (l : Launch) (D : va_G) (k : Nat → ClassId) (sz : Nat) (y : Nat) (y_thrown : Int32) (y_taped : Nat) (y_tape : Nat) (y_size : Nat) (y_place : Nat) (y_begin : Nat) (y_token : Nat) (y_word : Int64) (y_told : Int32) (y_wrong : Int32) (y_supper : Nat) (y_guestName : Nat) (y_kind : Nat) (y_offTold : Nat) (y_pace : Nat) (y_cooks : Nat) (y_snow : Nat) (y_lineFrom : Nat) (y_lineTo : Nat) (y_codes : Nat) (y_code : Nat) (y_toldLines : Int32) (y_opened : Nat) (y_compared : Nat) (y_kept : Nat) (y_keptBy : Nat) (y_ahead : Nat) (y_against : Nat) (y_sum : Nat) (y_sumBy : Nat) (y_term : Nat) (y_termBy : Nat) (y_byNot : Nat) (y_valueOf : Nat) (y_given : Int32) (y_lines : Nat) (y_lineWhat : Nat) (y_lineA : Nat) (y_lineB : Nat) (y_seens : Nat) (y_seenIn : Nat) (y_seenYards : Nat) (y_seenNear : Nat) (y_s : Nat) (y_aside : Nat) (y_before : Nat) (y_marked : Nat) (y_undone : Nat) (y_isLaid : Nat) (y_done : Nat) (y_snowNow : Int32) (y_cameNow : Int32) (y_cookThen : Int32) (y_tasteThen : Int32) (y_places : Nat) (y_comesAt : Nat) (y_yardsIn : Nat) (y_g : Int64) (y_supperF : Nat → Int32) (h_y_taped : y_taped ≤ 1000) (h_y_size : y_size ≤ 1000) (h_y_place : y_place ≤ 1000) (h_y_begin : y_begin ≤ 1000) (h_y_token : y_token ≤ 4) (h_y_told : 0 ≤ Int32.toInt y_told ∧ Int32.toInt y_told ≤ 9999) (h_y_code : y_code ≤ 2000) (h_y_done : y_done ≤ 16) (h_y_supper : I9_sup y_supperF) : Met l yX9_usual wsX9_usual ({ frames := 0, cells := 0, slots := 0, locals := 0 }) (va_Pc [.ref y, .int 1] (kz_Pre D k [(y, kO 9 [.int y_thrown, .int (nI y_taped), .ref y_tape, .int (nI y_size), .int (nI y_place), .int (nI y_begin), .int (nI y_token), .long y_word, .int y_told, .int y_wrong, .ref y_supper, .ref y_guestName, .ref y_kind, .ref y_offTold, .ref y_pace, .ref y_cooks, .ref y_snow, .ref y_lineFrom, .ref y_lineTo, .ref y_codes, .int (nI y_code), .int y_toldLines, .ref y_opened, .ref y_compared, .ref y_kept, .ref y_keptBy, .ref y_ahead, .ref y_against, .ref y_sum, .ref y_sumBy, .ref y_term, .ref y_termBy, .ref y_byNot, .ref y_valueOf, .int y_given, .ref y_lines, .ref y_lineWhat, .ref y_lineA, .ref y_lineB, .ref y_seens, .ref y_seenIn, .ref y_seenYards, .ref y_seenNear, .ref y_s, .ref y_aside, .ref y_before, .ref y_marked, .ref y_undone, .ref y_isLaid, .int (nI y_done), .int y_snowNow, .int y_cameNow, .int y_cookThen, .int y_tasteThen, .ref y_places, .ref y_comesAt, .ref y_yardsIn, .long y_g]), (y_supper, kI k 8 y_supperF)] sz)) (va_Qv (fun (uu : Nat → Int32) => (I9_sup uu) ∧ ((uu) = (fX9_usual1 y_supperF))) (fun uu zt => kz_B D (va_A [(y, kO 9 [.int y_thrown, .int (nI y_taped), .ref y_tape, .int (nI y_size), .int (nI y_place), .int (nI y_begin), .int (nI y_token), .long y_word, .int y_told, .int y_wrong, .ref y_supper, .ref y_guestName, .ref y_kind, .ref y_offTold, .ref y_pace, .ref y_cooks, .ref y_snow, .ref y_lineFrom, .ref y_lineTo, .ref y_codes, .int (nI y_code), .int y_toldLines, .ref y_opened, .ref y_compared, .ref y_kept, .ref y_keptBy, .ref y_ahead, .ref y_against, .ref y_sum, .ref y_sumBy, .ref y_term, .ref y_termBy, .ref y_byNot, .ref y_valueOf, .int y_given, .ref y_lines, .ref y_lineWhat, .ref y_lineA, .ref y_lineB, .ref y_seens, .ref y_seenIn, .ref y_seenYards, .ref y_seenNear, .ref y_s, .ref y_aside, .ref y_before, .ref y_marked, .ref y_undone, .ref y_isLaid, .int (nI y_done), .int y_snowNow, .int y_cameNow, .int y_cookThen, .int y_tasteThen, .ref y_places, .ref y_comesAt, .ref y_yardsIn, .long y_g]), (y_supper, kI k 8 y_supperF)] sz) [(y, kO 9 [.int y_thrown, .int (nI y_taped), .ref y_tape, .int (nI y_size), .int (nI y_place), .int (nI y_begin), .int (nI y_token), .long y_word, .int y_told, .int y_wrong, .ref y_supper, .ref y_guestName, .ref y_kind, .ref y_offTold, .ref y_pace, .ref y_cooks, .ref y_snow, .ref y_lineFrom, .ref y_lineTo, .ref y_codes, .int (nI y_code), .int y_toldLines, .ref y_opened, .ref y_compared, .ref y_kept, .ref y_keptBy, .ref y_ahead, .ref y_against, .ref y_sum, .ref y_sumBy, .ref y_term, .ref y_termBy, .ref y_byNot, .ref y_valueOf, .int y_given, .ref y_lines, .ref y_lineWhat, .ref y_lineA, .ref y_lineB, .ref y_seens, .ref y_seenIn, .ref y_seenYards, .ref y_seenNear, .ref y_s, .ref y_aside, .ref y_before, .ref y_marked, .ref y_undone, .ref y_isLaid, .int (nI y_done), .int y_snowNow, .int y_cameNow, .int y_cookThen, .int y_tasteThen, .ref y_places, .ref y_comesAt, .ref y_yardsIn, .long y_g]), (y_supper, kI k 8 uu)] zt) (va_A [(y, kO 9 [.int y_thrown, .int (nI y_taped), .ref y_tape, .int (nI y_size), .int (nI y_place), .int (nI y_begin), .int (nI y_token), .long y_word, .int y_told, .int y_wrong, .ref y_supper, .ref y_guestName, .ref y_kind, .ref y_offTold, .ref y_pace, .ref y_cooks, .ref y_snow, .ref y_lineFrom, .ref y_lineTo, .ref y_codes, .int (nI y_code), .int y_toldLines, .ref y_opened, .ref y_compared, .ref y_kept, .ref y_keptBy, .ref y_ahead, .ref y_against, .ref y_sum, .ref y_sumBy, .ref y_term, .ref y_termBy, .ref y_byNot, .ref y_valueOf, .int y_given, .ref y_lines, .ref y_lineWhat, .ref y_lineA, .ref y_lineB, .ref y_seens, .ref y_seenIn, .ref y_seenYards, .ref y_seenNear, .ref y_s, .ref y_aside, .ref y_before, .ref y_marked, .ref y_undone, .ref y_isLaid, .int (nI y_done), .int y_snowNow, .int y_cameNow, .int y_cookThen, .int y_tasteThen, .ref y_places, .ref y_comesAt, .ref y_yardsIn, .long y_g]), (y_supper, kI k 8 y_supperF)] sz)) 0 0 (va_A [(y, kO 9 [.int y_thrown, .int (nI y_taped), .ref y_tape, .int (nI y_size), .int (nI y_place), .int (nI y_begin), .int (nI y_token), .long y_word, .int y_told, .int y_wrong, .ref y_supper, .ref y_guestName, .ref y_kind, .ref y_offTold, .ref y_pace, .ref y_cooks, .ref y_snow, .ref y_lineFrom, .ref y_lineTo, .ref y_codes, .int (nI y_code), .int y_toldLines, .ref y_opened, .ref y_compared, .ref y_kept, .ref y_keptBy, .ref y_ahead, .ref y_against, .ref y_sum, .ref y_sumBy, .ref y_term, .ref y_termBy, .ref y_byNot, .ref y_valueOf, .int y_given, .ref y_lines, .ref y_lineWhat, .ref y_lineA, .ref y_lineB, .ref y_seens, .ref y_seenIn, .ref y_seenYards, .ref y_seenNear, .ref y_s, .ref y_aside, .ref y_before, .ref y_marked, .ref y_undone, .ref y_isLaid, .int (nI y_done), .int y_snowNow, .int y_cameNow, .int y_cookThen, .int y_tasteThen, .ref y_places, .ref y_comesAt, .ref y_yardsIn, .long y_g]), (y_supper, kI k 8 y_supperF)] sz) := by
  refine Met.ofW (cc := cX9_usual) (maxL := 2) (ret := none) (by decide) rfl ?_
  intro p e s m args below meth c s₁ B hml hv
  obtain ⟨hav, hsz, hP, hK, hD0, hE⟩ := hv
  have hx := B.exec
  have hb := B.bytes
  have hr := B.returns
  have hts := atoms_spec (ws := wsX9_usual) B.pre
  have hown : s.vm.findClass RX9 = some m.cls := findClass_of_methodNamed B.named
  have hlocks := B.notSynchronized
  have hi9 : ∀ w ∈ u_ws RX9 TX9 58, w ∈ wsX9_usual := fun w h9 => List.mem_cons_of_mem _ (List.mem_append_right _ h9)
  have lf13 := hts (.fieldLink RX9 13 "LastCookModel" "supper" "[I") (List.mem_cons_of_mem _ (List.mem_append_left _ (List.mem_of_getElem? (i := 0) rfl)))
  subst hsz
  have hD := hD0.self (sz := s.heap.size)
  generalize hAe : va_A [(y, kO 9 [.int y_thrown, .int (nI y_taped), .ref y_tape, .int (nI y_size), .int (nI y_place), .int (nI y_begin), .int (nI y_token), .long y_word, .int y_told, .int y_wrong, .ref y_supper, .ref y_guestName, .ref y_kind, .ref y_offTold, .ref y_pace, .ref y_cooks, .ref y_snow, .ref y_lineFrom, .ref y_lineTo, .ref y_codes, .int (nI y_code), .int y_toldLines, .ref y_opened, .ref y_compared, .ref y_kept, .ref y_keptBy, .ref y_ahead, .ref y_against, .ref y_sum, .ref y_sumBy, .ref y_term, .ref y_termBy, .ref y_byNot, .ref y_valueOf, .int y_given, .ref y_lines, .ref y_lineWhat, .ref y_lineA, .ref y_lineB, .ref y_seens, .ref y_seenIn, .ref y_seenYards, .ref y_seenNear, .ref y_s, .ref y_aside, .ref y_before, .ref y_marked, .ref y_undone, .ref y_isLaid, .int (nI y_done), .int y_snowNow, .int y_cameNow, .int y_cookThen, .int y_tasteThen, .ref y_places, .ref y_comesAt, .ref y_yardsIn, .long y_g]), (y_supper, kI k 8 y_supperF)] s.heap.size = A at hD ⊢
  have hA : ∀ q : Nat, s.heap.size ≤ q → A q := fun q h => by rw [← hAe]; exact Or.inr h
  have hS : va_S A s.heap s.heap [] := va_S.rf
  have hl := lv_entry ([.ref y, .int 1]) (n := 2) (Nat.le_of_ble_eq_true rfl)
  rw [show entryFrame m args 2 = entryFrame m ([.ref y, .int 1] : List Value).toArray 2 by rw [hav], lg_entry_eq]
  generalize (lg_sl ([.ref y, .int 1]) ++ List.replicate (2 - (lg_sl ([.ref y, .int 1])).length) Slot.unset).toArray = ls at hl ⊢
  have hl : lv_has ls 2 [(0, .ref y), (1, .int 1)] := hl
  obtain ⟨R, hR⟩ : ∃ R, R = (headSpec wsX9_usual ({ frames := 0, cells := 0, slots := 0, locals := 0 } : Room)).room := ⟨_, rfl⟩
  rw [← hR]
  generalize hQ : MQ below _ args s 0 0 A = Q
  replace hQ := hQ.symm
  obtain ⟨H, hH⟩ : ∃ H, H = s.heap := ⟨_, rfl⟩
  rw [← hH] at hP ⊢
  have hS : va_S A s.heap H [] := by rw [hH]; exact hS
  obtain ⟨E0, hE0⟩ : ∃ E0 : (Nat → Int32), E0 = (fX9_usual1 y_supperF) := ⟨_, rfl⟩
  have hZ : (fX9_usual1 y_supperF) = E0 := hE0.symm
  refine lv_aload_n hx hb dX9_usual_0 rfl (lv_at hl 0 rfl) ?_
  refine va_get (D := D) (ci := 9) (v := .ref y_supper) (C := RX9) (T := TX9) (N := 58) hx hb hts hi9 hown hK hP 0 rfl rfl 10 (by decide) lf13 (fun _ h9 => h9) rfl dX9_usual_1 ?_
  refine lv_iconst (v := 4) hx hb dX9_usual_4 (by decide) ?_
  refine lv_iload_n hx hb dX9_usual_5 rfl (lv_at hl 1 rfl) ?_
  refine lv_imul hx hb dX9_usual_6 ?_
  refine lv_topi (fun x1 ex1 => ?_)
  exact by
   obtain rfl : x1 = 4 := ex1.trans (by decide)
   refine lv_iconst (v := 0) hx hb dX9_usual_7 (by decide) ?_
   refine lv_iadd hx hb dX9_usual_8 ?_
   refine lv_topi (fun x2 ex2 => ?_)
   exact by
    obtain rfl : x2 = 4 := ex2.trans (by decide)
    refine lv_iconst (v := 0) hx hb dX9_usual_9 (by decide) ?_
    refine va_iast hx hb hK hP hD hS 1 0 rfl rfl (vp_in_iff.mpr (by decide)) dX9_usual_10 (fun H locs hP hD hS => ?_)
    exact by
     have hP : va_P D vwCl [(y, kO 9 [.int y_thrown, .int (nI y_taped), .ref y_tape, .int (nI y_size), .int (nI y_place), .int (nI y_begin), .int (nI y_token), .long y_word, .int y_told, .int y_wrong, .ref y_supper, .ref y_guestName, .ref y_kind, .ref y_offTold, .ref y_pace, .ref y_cooks, .ref y_snow, .ref y_lineFrom, .ref y_lineTo, .ref y_codes, .int (nI y_code), .int y_toldLines, .ref y_opened, .ref y_compared, .ref y_kept, .ref y_keptBy, .ref y_ahead, .ref y_against, .ref y_sum, .ref y_sumBy, .ref y_term, .ref y_termBy, .ref y_byNot, .ref y_valueOf, .int y_given, .ref y_lines, .ref y_lineWhat, .ref y_lineA, .ref y_lineB, .ref y_seens, .ref y_seenIn, .ref y_seenYards, .ref y_seenNear, .ref y_s, .ref y_aside, .ref y_before, .ref y_marked, .ref y_undone, .ref y_isLaid, .int (nI y_done), .int y_snowNow, .int y_cameNow, .int y_cookThen, .int y_tasteThen, .ref y_places, .ref y_comesAt, .ref y_yardsIn, .long y_g]), (y_supper, kI k 8 (upd y_supperF (Int32.toNatClampNeg 4) 0))] H := hP
     have hD : va_D A [(y, kO 9 [.int y_thrown, .int (nI y_taped), .ref y_tape, .int (nI y_size), .int (nI y_place), .int (nI y_begin), .int (nI y_token), .long y_word, .int y_told, .int y_wrong, .ref y_supper, .ref y_guestName, .ref y_kind, .ref y_offTold, .ref y_pace, .ref y_cooks, .ref y_snow, .ref y_lineFrom, .ref y_lineTo, .ref y_codes, .int (nI y_code), .int y_toldLines, .ref y_opened, .ref y_compared, .ref y_kept, .ref y_keptBy, .ref y_ahead, .ref y_against, .ref y_sum, .ref y_sumBy, .ref y_term, .ref y_termBy, .ref y_byNot, .ref y_valueOf, .int y_given, .ref y_lines, .ref y_lineWhat, .ref y_lineA, .ref y_lineB, .ref y_seens, .ref y_seenIn, .ref y_seenYards, .ref y_seenNear, .ref y_s, .ref y_aside, .ref y_before, .ref y_marked, .ref y_undone, .ref y_isLaid, .int (nI y_done), .int y_snowNow, .int y_cameNow, .int y_cookThen, .int y_tasteThen, .ref y_places, .ref y_comesAt, .ref y_yardsIn, .long y_g]), (y_supper, kI k 8 (upd y_supperF (Int32.toNatClampNeg 4) 0))] := hD
     have tq3 : Int32.toInt 0 = 0 := by decide
     have hi_4 : I9_sup (upd y_supperF (Int32.toNatClampNeg 4) 0) := by first | assumption | exact I9_supU (by assumption) (by refine ⟨fun h9 => ?_, fun h9 => ?_, fun h9 => ?_, fun h9 => ?_⟩ <;> first | omega | exact absurd h9 (by decide) | decide) | exact I9_minU (by assumption) (by first | decide | (rw [nI_clamp (by omega)]; omega) | exact clampNe (by omega)) | exact I9_min1 (by omega) | exact I9_min1 (by decide) | exact I9_minM (by assumption) (by omega) | exact I9_minC (by assumption) | exact I9_rowC (by assumption) (by assumption) | exact I9_minR (by assumption) (by omega) | exact I9_allU (by assumption) (by omega) | exact I9_allU (by assumption) (by decide) | exact I9_rowM (by assumption) (by omega) | exact I9_minV (by assumption) (by omega) | exact I9_supS (by assumption)
     refine lv_aload_n hx hb dX9_usual_11 rfl (lv_at hl 0 rfl) ?_
     refine va_get (D := D) (ci := 9) (v := .ref y_supper) (C := RX9) (T := TX9) (N := 58) hx hb hts hi9 hown hK hP 0 rfl rfl 10 (by decide) lf13 (fun _ h9 => h9) rfl dX9_usual_12 ?_
     refine lv_iconst (v := 4) hx hb dX9_usual_15 (by decide) ?_
     refine lv_iload_n hx hb dX9_usual_16 rfl (lv_at hl 1 rfl) ?_
     refine lv_imul hx hb dX9_usual_17 ?_
     refine lv_topi (fun x5 ex5 => ?_)
     exact by
      obtain rfl : x5 = 4 := ex5.trans (by decide)
      refine lv_iconst (v := 1) hx hb dX9_usual_18 (by decide) ?_
      refine lv_iadd hx hb dX9_usual_19 ?_
      refine lv_topi (fun x6 ex6 => ?_)
      exact by
       obtain rfl : x6 = 5 := ex6.trans (by decide)
       refine lv_bipush (v := 10) hx hb dX9_usual_20 (by decide) ?_
       refine va_iast hx hb hK hP hD hS 1 0 rfl rfl (vp_in_iff.mpr (by decide)) dX9_usual_22 (fun H locs hP hD hS => ?_)
       exact by
        have hP : va_P D vwCl [(y, kO 9 [.int y_thrown, .int (nI y_taped), .ref y_tape, .int (nI y_size), .int (nI y_place), .int (nI y_begin), .int (nI y_token), .long y_word, .int y_told, .int y_wrong, .ref y_supper, .ref y_guestName, .ref y_kind, .ref y_offTold, .ref y_pace, .ref y_cooks, .ref y_snow, .ref y_lineFrom, .ref y_lineTo, .ref y_codes, .int (nI y_code), .int y_toldLines, .ref y_opened, .ref y_compared, .ref y_kept, .ref y_keptBy, .ref y_ahead, .ref y_against, .ref y_sum, .ref y_sumBy, .ref y_term, .ref y_termBy, .ref y_byNot, .ref y_valueOf, .int y_given, .ref y_lines, .ref y_lineWhat, .ref y_lineA, .ref y_lineB, .ref y_seens, .ref y_seenIn, .ref y_seenYards, .ref y_seenNear, .ref y_s, .ref y_aside, .ref y_before, .ref y_marked, .ref y_undone, .ref y_isLaid, .int (nI y_done), .int y_snowNow, .int y_cameNow, .int y_cookThen, .int y_tasteThen, .ref y_places, .ref y_comesAt, .ref y_yardsIn, .long y_g]), (y_supper, kI k 8 (upd (upd y_supperF (Int32.toNatClampNeg 4) 0) (Int32.toNatClampNeg 5) 10))] H := hP
        have hD : va_D A [(y, kO 9 [.int y_thrown, .int (nI y_taped), .ref y_tape, .int (nI y_size), .int (nI y_place), .int (nI y_begin), .int (nI y_token), .long y_word, .int y_told, .int y_wrong, .ref y_supper, .ref y_guestName, .ref y_kind, .ref y_offTold, .ref y_pace, .ref y_cooks, .ref y_snow, .ref y_lineFrom, .ref y_lineTo, .ref y_codes, .int (nI y_code), .int y_toldLines, .ref y_opened, .ref y_compared, .ref y_kept, .ref y_keptBy, .ref y_ahead, .ref y_against, .ref y_sum, .ref y_sumBy, .ref y_term, .ref y_termBy, .ref y_byNot, .ref y_valueOf, .int y_given, .ref y_lines, .ref y_lineWhat, .ref y_lineA, .ref y_lineB, .ref y_seens, .ref y_seenIn, .ref y_seenYards, .ref y_seenNear, .ref y_s, .ref y_aside, .ref y_before, .ref y_marked, .ref y_undone, .ref y_isLaid, .int (nI y_done), .int y_snowNow, .int y_cameNow, .int y_cookThen, .int y_tasteThen, .ref y_places, .ref y_comesAt, .ref y_yardsIn, .long y_g]), (y_supper, kI k 8 (upd (upd y_supperF (Int32.toNatClampNeg 4) 0) (Int32.toNatClampNeg 5) 10))] := hD
        have tq7 : Int32.toInt 10 = 10 := by decide
        have hi_8 : I9_sup (upd (upd y_supperF (Int32.toNatClampNeg 4) 0) (Int32.toNatClampNeg 5) 10) := by first | assumption | exact I9_supU (by assumption) (by refine ⟨fun h9 => ?_, fun h9 => ?_, fun h9 => ?_, fun h9 => ?_⟩ <;> first | omega | exact absurd h9 (by decide) | decide) | exact I9_minU (by assumption) (by first | decide | (rw [nI_clamp (by omega)]; omega) | exact clampNe (by omega)) | exact I9_min1 (by omega) | exact I9_min1 (by decide) | exact I9_minM (by assumption) (by omega) | exact I9_minC (by assumption) | exact I9_rowC (by assumption) (by assumption) | exact I9_minR (by assumption) (by omega) | exact I9_allU (by assumption) (by omega) | exact I9_allU (by assumption) (by decide) | exact I9_rowM (by assumption) (by omega) | exact I9_minV (by assumption) (by omega) | exact I9_supS (by assumption)
        refine lv_aload_n hx hb dX9_usual_23 rfl (lv_at hl 0 rfl) ?_
        refine va_get (D := D) (ci := 9) (v := .ref y_supper) (C := RX9) (T := TX9) (N := 58) hx hb hts hi9 hown hK hP 0 rfl rfl 10 (by decide) lf13 (fun _ h9 => h9) rfl dX9_usual_24 ?_
        refine lv_iconst (v := 4) hx hb dX9_usual_27 (by decide) ?_
        refine lv_iload_n hx hb dX9_usual_28 rfl (lv_at hl 1 rfl) ?_
        refine lv_imul hx hb dX9_usual_29 ?_
        refine lv_topi (fun x9 ex9 => ?_)
        exact by
         obtain rfl : x9 = 4 := ex9.trans (by decide)
         refine lv_iconst (v := 2) hx hb dX9_usual_30 (by decide) ?_
         refine lv_iadd hx hb dX9_usual_31 ?_
         refine lv_topi (fun x10 ex10 => ?_)
         exact by
          obtain rfl : x10 = 6 := ex10.trans (by decide)
          refine lv_bipush (v := 30) hx hb dX9_usual_32 (by decide) ?_
          refine va_iast hx hb hK hP hD hS 1 0 rfl rfl (vp_in_iff.mpr (by decide)) dX9_usual_34 (fun H locs hP hD hS => ?_)
          exact by
           have hP : va_P D vwCl [(y, kO 9 [.int y_thrown, .int (nI y_taped), .ref y_tape, .int (nI y_size), .int (nI y_place), .int (nI y_begin), .int (nI y_token), .long y_word, .int y_told, .int y_wrong, .ref y_supper, .ref y_guestName, .ref y_kind, .ref y_offTold, .ref y_pace, .ref y_cooks, .ref y_snow, .ref y_lineFrom, .ref y_lineTo, .ref y_codes, .int (nI y_code), .int y_toldLines, .ref y_opened, .ref y_compared, .ref y_kept, .ref y_keptBy, .ref y_ahead, .ref y_against, .ref y_sum, .ref y_sumBy, .ref y_term, .ref y_termBy, .ref y_byNot, .ref y_valueOf, .int y_given, .ref y_lines, .ref y_lineWhat, .ref y_lineA, .ref y_lineB, .ref y_seens, .ref y_seenIn, .ref y_seenYards, .ref y_seenNear, .ref y_s, .ref y_aside, .ref y_before, .ref y_marked, .ref y_undone, .ref y_isLaid, .int (nI y_done), .int y_snowNow, .int y_cameNow, .int y_cookThen, .int y_tasteThen, .ref y_places, .ref y_comesAt, .ref y_yardsIn, .long y_g]), (y_supper, kI k 8 (upd (upd (upd y_supperF (Int32.toNatClampNeg 4) 0) (Int32.toNatClampNeg 5) 10) (Int32.toNatClampNeg 6) 30))] H := hP
           have hD : va_D A [(y, kO 9 [.int y_thrown, .int (nI y_taped), .ref y_tape, .int (nI y_size), .int (nI y_place), .int (nI y_begin), .int (nI y_token), .long y_word, .int y_told, .int y_wrong, .ref y_supper, .ref y_guestName, .ref y_kind, .ref y_offTold, .ref y_pace, .ref y_cooks, .ref y_snow, .ref y_lineFrom, .ref y_lineTo, .ref y_codes, .int (nI y_code), .int y_toldLines, .ref y_opened, .ref y_compared, .ref y_kept, .ref y_keptBy, .ref y_ahead, .ref y_against, .ref y_sum, .ref y_sumBy, .ref y_term, .ref y_termBy, .ref y_byNot, .ref y_valueOf, .int y_given, .ref y_lines, .ref y_lineWhat, .ref y_lineA, .ref y_lineB, .ref y_seens, .ref y_seenIn, .ref y_seenYards, .ref y_seenNear, .ref y_s, .ref y_aside, .ref y_before, .ref y_marked, .ref y_undone, .ref y_isLaid, .int (nI y_done), .int y_snowNow, .int y_cameNow, .int y_cookThen, .int y_tasteThen, .ref y_places, .ref y_comesAt, .ref y_yardsIn, .long y_g]), (y_supper, kI k 8 (upd (upd (upd y_supperF (Int32.toNatClampNeg 4) 0) (Int32.toNatClampNeg 5) 10) (Int32.toNatClampNeg 6) 30))] := hD
           have tq11 : Int32.toInt 30 = 30 := by decide
           have hi_12 : I9_sup (upd (upd (upd y_supperF (Int32.toNatClampNeg 4) 0) (Int32.toNatClampNeg 5) 10) (Int32.toNatClampNeg 6) 30) := by first | assumption | exact I9_supU (by assumption) (by refine ⟨fun h9 => ?_, fun h9 => ?_, fun h9 => ?_, fun h9 => ?_⟩ <;> first | omega | exact absurd h9 (by decide) | decide) | exact I9_minU (by assumption) (by first | decide | (rw [nI_clamp (by omega)]; omega) | exact clampNe (by omega)) | exact I9_min1 (by omega) | exact I9_min1 (by decide) | exact I9_minM (by assumption) (by omega) | exact I9_minC (by assumption) | exact I9_rowC (by assumption) (by assumption) | exact I9_minR (by assumption) (by omega) | exact I9_allU (by assumption) (by omega) | exact I9_allU (by assumption) (by decide) | exact I9_rowM (by assumption) (by omega) | exact I9_minV (by assumption) (by omega) | exact I9_supS (by assumption)
           refine lv_aload_n hx hb dX9_usual_35 rfl (lv_at hl 0 rfl) ?_
           refine va_get (D := D) (ci := 9) (v := .ref y_supper) (C := RX9) (T := TX9) (N := 58) hx hb hts hi9 hown hK hP 0 rfl rfl 10 (by decide) lf13 (fun _ h9 => h9) rfl dX9_usual_36 ?_
           refine lv_iconst (v := 4) hx hb dX9_usual_39 (by decide) ?_
           refine lv_iload_n hx hb dX9_usual_40 rfl (lv_at hl 1 rfl) ?_
           refine lv_imul hx hb dX9_usual_41 ?_
           refine lv_topi (fun x13 ex13 => ?_)
           exact by
            obtain rfl : x13 = 4 := ex13.trans (by decide)
            refine lv_iconst (v := 3) hx hb dX9_usual_42 (by decide) ?_
            refine lv_iadd hx hb dX9_usual_43 ?_
            refine lv_topi (fun x14 ex14 => ?_)
            exact by
             obtain rfl : x14 = 7 := ex14.trans (by decide)
             refine lv_iconst (v := 0) hx hb dX9_usual_44 (by decide) ?_
             refine va_iast hx hb hK hP hD hS 1 0 rfl rfl (vp_in_iff.mpr (by decide)) dX9_usual_45 (fun H locs hP hD hS => ?_)
             exact by
              have hP : va_P D vwCl [(y, kO 9 [.int y_thrown, .int (nI y_taped), .ref y_tape, .int (nI y_size), .int (nI y_place), .int (nI y_begin), .int (nI y_token), .long y_word, .int y_told, .int y_wrong, .ref y_supper, .ref y_guestName, .ref y_kind, .ref y_offTold, .ref y_pace, .ref y_cooks, .ref y_snow, .ref y_lineFrom, .ref y_lineTo, .ref y_codes, .int (nI y_code), .int y_toldLines, .ref y_opened, .ref y_compared, .ref y_kept, .ref y_keptBy, .ref y_ahead, .ref y_against, .ref y_sum, .ref y_sumBy, .ref y_term, .ref y_termBy, .ref y_byNot, .ref y_valueOf, .int y_given, .ref y_lines, .ref y_lineWhat, .ref y_lineA, .ref y_lineB, .ref y_seens, .ref y_seenIn, .ref y_seenYards, .ref y_seenNear, .ref y_s, .ref y_aside, .ref y_before, .ref y_marked, .ref y_undone, .ref y_isLaid, .int (nI y_done), .int y_snowNow, .int y_cameNow, .int y_cookThen, .int y_tasteThen, .ref y_places, .ref y_comesAt, .ref y_yardsIn, .long y_g]), (y_supper, kI k 8 (upd (upd (upd (upd y_supperF (Int32.toNatClampNeg 4) 0) (Int32.toNatClampNeg 5) 10) (Int32.toNatClampNeg 6) 30) (Int32.toNatClampNeg 7) 0))] H := hP
              have hD : va_D A [(y, kO 9 [.int y_thrown, .int (nI y_taped), .ref y_tape, .int (nI y_size), .int (nI y_place), .int (nI y_begin), .int (nI y_token), .long y_word, .int y_told, .int y_wrong, .ref y_supper, .ref y_guestName, .ref y_kind, .ref y_offTold, .ref y_pace, .ref y_cooks, .ref y_snow, .ref y_lineFrom, .ref y_lineTo, .ref y_codes, .int (nI y_code), .int y_toldLines, .ref y_opened, .ref y_compared, .ref y_kept, .ref y_keptBy, .ref y_ahead, .ref y_against, .ref y_sum, .ref y_sumBy, .ref y_term, .ref y_termBy, .ref y_byNot, .ref y_valueOf, .int y_given, .ref y_lines, .ref y_lineWhat, .ref y_lineA, .ref y_lineB, .ref y_seens, .ref y_seenIn, .ref y_seenYards, .ref y_seenNear, .ref y_s, .ref y_aside, .ref y_before, .ref y_marked, .ref y_undone, .ref y_isLaid, .int (nI y_done), .int y_snowNow, .int y_cameNow, .int y_cookThen, .int y_tasteThen, .ref y_places, .ref y_comesAt, .ref y_yardsIn, .long y_g]), (y_supper, kI k 8 (upd (upd (upd (upd y_supperF (Int32.toNatClampNeg 4) 0) (Int32.toNatClampNeg 5) 10) (Int32.toNatClampNeg 6) 30) (Int32.toNatClampNeg 7) 0))] := hD
              have tq15 : Int32.toInt 0 = 0 := by decide
              have hi_16 : I9_sup (upd (upd (upd (upd y_supperF (Int32.toNatClampNeg 4) 0) (Int32.toNatClampNeg 5) 10) (Int32.toNatClampNeg 6) 30) (Int32.toNatClampNeg 7) 0) := by first | assumption | exact I9_supU (by assumption) (by refine ⟨fun h9 => ?_, fun h9 => ?_, fun h9 => ?_, fun h9 => ?_⟩ <;> first | omega | exact absurd h9 (by decide) | decide) | exact I9_minU (by assumption) (by first | decide | (rw [nI_clamp (by omega)]; omega) | exact clampNe (by omega)) | exact I9_min1 (by omega) | exact I9_min1 (by decide) | exact I9_minM (by assumption) (by omega) | exact I9_minC (by assumption) | exact I9_rowC (by assumption) (by assumption) | exact I9_minR (by assumption) (by omega) | exact I9_allU (by assumption) (by omega) | exact I9_allU (by assumption) (by decide) | exact I9_rowM (by assumption) (by omega) | exact I9_minV (by assumption) (by omega) | exact I9_supS (by assumption)
              rw [hQ]
              have hP9 := hP.sub (ws' := [(y, kO 9 [.int y_thrown, .int (nI y_taped), .ref y_tape, .int (nI y_size), .int (nI y_place), .int (nI y_begin), .int (nI y_token), .long y_word, .int y_told, .int y_wrong, .ref y_supper, .ref y_guestName, .ref y_kind, .ref y_offTold, .ref y_pace, .ref y_cooks, .ref y_snow, .ref y_lineFrom, .ref y_lineTo, .ref y_codes, .int (nI y_code), .int y_toldLines, .ref y_opened, .ref y_compared, .ref y_kept, .ref y_keptBy, .ref y_ahead, .ref y_against, .ref y_sum, .ref y_sumBy, .ref y_term, .ref y_termBy, .ref y_byNot, .ref y_valueOf, .int y_given, .ref y_lines, .ref y_lineWhat, .ref y_lineA, .ref y_lineB, .ref y_seens, .ref y_seenIn, .ref y_seenYards, .ref y_seenNear, .ref y_s, .ref y_aside, .ref y_before, .ref y_marked, .ref y_undone, .ref y_isLaid, .int (nI y_done), .int y_snowNow, .int y_cameNow, .int y_cookThen, .int y_tasteThen, .ref y_places, .ref y_comesAt, .ref y_yardsIn, .long y_g]), (y_supper, kI k 8 (upd (upd (upd (upd y_supperF (Int32.toNatClampNeg 4) 0) (Int32.toNatClampNeg 5) 10) (Int32.toNatClampNeg 6) 30) (Int32.toNatClampNeg 7) 0))]) [0, 1] rfl
              have hD9 := hD.sub (ws' := [(y, kO 9 [.int y_thrown, .int (nI y_taped), .ref y_tape, .int (nI y_size), .int (nI y_place), .int (nI y_begin), .int (nI y_token), .long y_word, .int y_told, .int y_wrong, .ref y_supper, .ref y_guestName, .ref y_kind, .ref y_offTold, .ref y_pace, .ref y_cooks, .ref y_snow, .ref y_lineFrom, .ref y_lineTo, .ref y_codes, .int (nI y_code), .int y_toldLines, .ref y_opened, .ref y_compared, .ref y_kept, .ref y_keptBy, .ref y_ahead, .ref y_against, .ref y_sum, .ref y_sumBy, .ref y_term, .ref y_termBy, .ref y_byNot, .ref y_valueOf, .int y_given, .ref y_lines, .ref y_lineWhat, .ref y_lineA, .ref y_lineB, .ref y_seens, .ref y_seenIn, .ref y_seenYards, .ref y_seenNear, .ref y_s, .ref y_aside, .ref y_before, .ref y_marked, .ref y_undone, .ref y_isLaid, .int (nI y_done), .int y_snowNow, .int y_cameNow, .int y_cookThen, .int y_tasteThen, .ref y_places, .ref y_comesAt, .ref y_yardsIn, .long y_g]), (y_supper, kI k 8 (upd (upd (upd (upd y_supperF (Int32.toNatClampNeg 4) 0) (Int32.toNatClampNeg 5) 10) (Int32.toNatClampNeg 6) 30) (Int32.toNatClampNeg 7) 0))]) [0, 1] (by decide +kernel) rfl
              exact W.vret hx hb hr (fun zt ht hW => ⟨⟨(upd (upd (upd (upd y_supperF (Int32.toNatClampNeg 4) 0) (Int32.toNatClampNeg 5) 10) (Int32.toNatClampNeg 6) 30) (Int32.toNatClampNeg 7) 0), rfl, ⟨(by first | assumption | exact I9_supU (by assumption) (by refine ⟨fun h9 => ?_, fun h9 => ?_, fun h9 => ?_, fun h9 => ?_⟩ <;> first | omega | exact absurd h9 (by decide) | decide) | exact I9_minU (by assumption) (by first | decide | (rw [nI_clamp (by omega)]; omega) | exact clampNe (by omega)) | exact I9_min1 (by omega) | exact I9_min1 (by decide) | exact I9_minM (by assumption) (by omega) | exact I9_minC (by assumption) | exact I9_rowC (by assumption) (by assumption) | exact I9_minR (by assumption) (by omega) | exact I9_allU (by assumption) (by omega) | exact I9_allU (by assumption) (by decide) | exact I9_rowM (by assumption) (by omega) | exact I9_minV (by assumption) (by omega) | exact I9_supS (by assumption)), (hZ.trans hE0)⟩, by rw [ht]; exact hP9, hD9⟩, hS.F ht⟩) hS.2.2 dX9_usual_46
theorem dX9_fact_0 : decode cX9_fact 0 = .ok (.aload_n 0, 1) := dk_aload_n_0 (by decide +kernel)
theorem dX9_fact_1 : decode cX9_fact 1 = .ok (.getfield 167, 3) := dk_getfield (by decide +kernel)
theorem dX9_fact_4 : decode cX9_fact 4 = .ok (.iconst 1, 1) := dk_iconst_1 (by decide +kernel)
theorem dX9_fact_5 : decode cX9_fact 5 = .ok (.if_icmp .eq 5, 3) := dk_if_icmp_eq (by decide +kernel)
theorem dX9_fact_8 : decode cX9_fact 8 = .ok (.iconst 0, 1) := dk_iconst_0 (by decide +kernel)
theorem dX9_fact_9 : decode cX9_fact 9 = .ok (.ireturn, 1) := dk_ireturn (by decide +kernel)
theorem dX9_fact_10 : decode cX9_fact 10 = .ok (.aload_n 0, 1) := dk_aload_n_0 (by decide +kernel)
theorem dX9_fact_11 : decode cX9_fact 11 = .ok (.getfield 160, 3) := dk_getfield (by decide +kernel)
theorem dX9_fact_14 : decode cX9_fact 14 = .ok (.ldc2_w 184, 3) := dk_ldc2_w (by decide +kernel)
theorem dX9_fact_17 : decode cX9_fact 17 = .ok (.lcmp, 1) := dk_lcmp (by decide +kernel)
theorem dX9_fact_18 : decode cX9_fact 18 = .ok (.ifCond .ne 5, 3) := dk_ifCond_ne (by decide +kernel)
theorem dX9_fact_21 : decode cX9_fact 21 = .ok (.iconst 1, 1) := dk_iconst_1 (by decide +kernel)
theorem dX9_fact_22 : decode cX9_fact 22 = .ok (.ireturn, 1) := dk_ireturn (by decide +kernel)
theorem dX9_fact_23 : decode cX9_fact 23 = .ok (.aload_n 0, 1) := dk_aload_n_0 (by decide +kernel)
theorem dX9_fact_24 : decode cX9_fact 24 = .ok (.getfield 160, 3) := dk_getfield (by decide +kernel)
theorem dX9_fact_27 : decode cX9_fact 27 = .ok (.ldc2_w 186, 3) := dk_ldc2_w (by decide +kernel)
theorem dX9_fact_30 : decode cX9_fact 30 = .ok (.lcmp, 1) := dk_lcmp (by decide +kernel)
theorem dX9_fact_31 : decode cX9_fact 31 = .ok (.ifCond .ne 5, 3) := dk_ifCond_ne (by decide +kernel)
theorem dX9_fact_34 : decode cX9_fact 34 = .ok (.iconst 2, 1) := dk_iconst_2 (by decide +kernel)
theorem dX9_fact_35 : decode cX9_fact 35 = .ok (.ireturn, 1) := dk_ireturn (by decide +kernel)
theorem dX9_fact_36 : decode cX9_fact 36 = .ok (.aload_n 0, 1) := dk_aload_n_0 (by decide +kernel)
theorem dX9_fact_37 : decode cX9_fact 37 = .ok (.getfield 160, 3) := dk_getfield (by decide +kernel)
theorem dX9_fact_40 : decode cX9_fact 40 = .ok (.ldc2_w 188, 3) := dk_ldc2_w (by decide +kernel)
theorem dX9_fact_43 : decode cX9_fact 43 = .ok (.lcmp, 1) := dk_lcmp (by decide +kernel)
theorem dX9_fact_44 : decode cX9_fact 44 = .ok (.ifCond .ne 7, 3) := dk_ifCond_ne (by decide +kernel)
theorem dX9_fact_47 : decode cX9_fact 47 = .ok (.iconst 3, 1) := dk_iconst_3 (by decide +kernel)
theorem dX9_fact_48 : decode cX9_fact 48 = .ok (.goto 19, 3) := dk_goto (by decide +kernel)
theorem dX9_fact_51 : decode cX9_fact 51 = .ok (.aload_n 0, 1) := dk_aload_n_0 (by decide +kernel)
theorem dX9_fact_52 : decode cX9_fact 52 = .ok (.getfield 160, 3) := dk_getfield (by decide +kernel)
theorem dX9_fact_55 : decode cX9_fact 55 = .ok (.ldc2_w 190, 3) := dk_ldc2_w (by decide +kernel)
theorem dX9_fact_58 : decode cX9_fact 58 = .ok (.lcmp, 1) := dk_lcmp (by decide +kernel)
theorem dX9_fact_59 : decode cX9_fact 59 = .ok (.ifCond .ne 7, 3) := dk_ifCond_ne (by decide +kernel)
theorem dX9_fact_62 : decode cX9_fact 62 = .ok (.iconst 4, 1) := dk_iconst_4 (by decide +kernel)
theorem dX9_fact_63 : decode cX9_fact 63 = .ok (.goto 4, 3) := dk_goto (by decide +kernel)
theorem dX9_fact_66 : decode cX9_fact 66 = .ok (.iconst 0, 1) := dk_iconst_0 (by decide +kernel)
theorem dX9_fact_67 : decode cX9_fact 67 = .ok (.ireturn, 1) := dk_ireturn (by decide +kernel)
set_option maxHeartbeats 4000000 in
set_option maxRecDepth 100000 in
theorem sX9_fact (l : Launch) (D : va_G) (k : Nat → ClassId) (sz : Nat) (y : Nat) (y_thrown : Int32) (y_taped : Nat) (y_tape : Nat) (y_size : Nat) (y_place : Nat) (y_begin : Nat) (y_token : Nat) (y_word : Int64) (y_told : Int32) (y_wrong : Int32) (y_supper : Nat) (y_guestName : Nat) (y_kind : Nat) (y_offTold : Nat) (y_pace : Nat) (y_cooks : Nat) (y_snow : Nat) (y_lineFrom : Nat) (y_lineTo : Nat) (y_codes : Nat) (y_code : Nat) (y_toldLines : Int32) (y_opened : Nat) (y_compared : Nat) (y_kept : Nat) (y_keptBy : Nat) (y_ahead : Nat) (y_against : Nat) (y_sum : Nat) (y_sumBy : Nat) (y_term : Nat) (y_termBy : Nat) (y_byNot : Nat) (y_valueOf : Nat) (y_given : Int32) (y_lines : Nat) (y_lineWhat : Nat) (y_lineA : Nat) (y_lineB : Nat) (y_seens : Nat) (y_seenIn : Nat) (y_seenYards : Nat) (y_seenNear : Nat) (y_s : Nat) (y_aside : Nat) (y_before : Nat) (y_marked : Nat) (y_undone : Nat) (y_isLaid : Nat) (y_done : Nat) (y_snowNow : Int32) (y_cameNow : Int32) (y_cookThen : Int32) (y_tasteThen : Int32) (y_places : Nat) (y_comesAt : Nat) (y_yardsIn : Nat) (y_g : Int64) (h_y_taped : y_taped ≤ 1000) (h_y_size : y_size ≤ 1000) (h_y_place : y_place ≤ 1000) (h_y_begin : y_begin ≤ 1000) (h_y_token : y_token ≤ 4) (h_y_told : 0 ≤ Int32.toInt y_told ∧ Int32.toInt y_told ≤ 9999) (h_y_code : y_code ≤ 2000) (h_y_done : y_done ≤ 16) : Met l yX9_fact wsX9_fact ({ frames := 0, cells := 0, slots := 0, locals := 0 }) (va_Pc [.ref y] (kz_Pre D k [(y, kO 9 [.int y_thrown, .int (nI y_taped), .ref y_tape, .int (nI y_size), .int (nI y_place), .int (nI y_begin), .int (nI y_token), .long y_word, .int y_told, .int y_wrong, .ref y_supper, .ref y_guestName, .ref y_kind, .ref y_offTold, .ref y_pace, .ref y_cooks, .ref y_snow, .ref y_lineFrom, .ref y_lineTo, .ref y_codes, .int (nI y_code), .int y_toldLines, .ref y_opened, .ref y_compared, .ref y_kept, .ref y_keptBy, .ref y_ahead, .ref y_against, .ref y_sum, .ref y_sumBy, .ref y_term, .ref y_termBy, .ref y_byNot, .ref y_valueOf, .int y_given, .ref y_lines, .ref y_lineWhat, .ref y_lineA, .ref y_lineB, .ref y_seens, .ref y_seenIn, .ref y_seenYards, .ref y_seenNear, .ref y_s, .ref y_aside, .ref y_before, .ref y_marked, .ref y_undone, .ref y_isLaid, .int (nI y_done), .int y_snowNow, .int y_cameNow, .int y_cookThen, .int y_tasteThen, .ref y_places, .ref y_comesAt, .ref y_yardsIn, .long y_g])] sz)) (va_Qi (fun (rr : Int32) (uu : Unit) => (0 ≤ Int32.toInt rr ∧ Int32.toInt rr ≤ 4 ∧ (y_token = 1 ∨ Int32.toInt rr = 0)) ∧ ((rr) = (fX9_fact y_token y_word))) (fun uu zt => kz_B D (va_A [(y, kO 9 [.int y_thrown, .int (nI y_taped), .ref y_tape, .int (nI y_size), .int (nI y_place), .int (nI y_begin), .int (nI y_token), .long y_word, .int y_told, .int y_wrong, .ref y_supper, .ref y_guestName, .ref y_kind, .ref y_offTold, .ref y_pace, .ref y_cooks, .ref y_snow, .ref y_lineFrom, .ref y_lineTo, .ref y_codes, .int (nI y_code), .int y_toldLines, .ref y_opened, .ref y_compared, .ref y_kept, .ref y_keptBy, .ref y_ahead, .ref y_against, .ref y_sum, .ref y_sumBy, .ref y_term, .ref y_termBy, .ref y_byNot, .ref y_valueOf, .int y_given, .ref y_lines, .ref y_lineWhat, .ref y_lineA, .ref y_lineB, .ref y_seens, .ref y_seenIn, .ref y_seenYards, .ref y_seenNear, .ref y_s, .ref y_aside, .ref y_before, .ref y_marked, .ref y_undone, .ref y_isLaid, .int (nI y_done), .int y_snowNow, .int y_cameNow, .int y_cookThen, .int y_tasteThen, .ref y_places, .ref y_comesAt, .ref y_yardsIn, .long y_g])] sz) [(y, kO 9 [.int y_thrown, .int (nI y_taped), .ref y_tape, .int (nI y_size), .int (nI y_place), .int (nI y_begin), .int (nI y_token), .long y_word, .int y_told, .int y_wrong, .ref y_supper, .ref y_guestName, .ref y_kind, .ref y_offTold, .ref y_pace, .ref y_cooks, .ref y_snow, .ref y_lineFrom, .ref y_lineTo, .ref y_codes, .int (nI y_code), .int y_toldLines, .ref y_opened, .ref y_compared, .ref y_kept, .ref y_keptBy, .ref y_ahead, .ref y_against, .ref y_sum, .ref y_sumBy, .ref y_term, .ref y_termBy, .ref y_byNot, .ref y_valueOf, .int y_given, .ref y_lines, .ref y_lineWhat, .ref y_lineA, .ref y_lineB, .ref y_seens, .ref y_seenIn, .ref y_seenYards, .ref y_seenNear, .ref y_s, .ref y_aside, .ref y_before, .ref y_marked, .ref y_undone, .ref y_isLaid, .int (nI y_done), .int y_snowNow, .int y_cameNow, .int y_cookThen, .int y_tasteThen, .ref y_places, .ref y_comesAt, .ref y_yardsIn, .long y_g])] zt) (va_A [(y, kO 9 [.int y_thrown, .int (nI y_taped), .ref y_tape, .int (nI y_size), .int (nI y_place), .int (nI y_begin), .int (nI y_token), .long y_word, .int y_told, .int y_wrong, .ref y_supper, .ref y_guestName, .ref y_kind, .ref y_offTold, .ref y_pace, .ref y_cooks, .ref y_snow, .ref y_lineFrom, .ref y_lineTo, .ref y_codes, .int (nI y_code), .int y_toldLines, .ref y_opened, .ref y_compared, .ref y_kept, .ref y_keptBy, .ref y_ahead, .ref y_against, .ref y_sum, .ref y_sumBy, .ref y_term, .ref y_termBy, .ref y_byNot, .ref y_valueOf, .int y_given, .ref y_lines, .ref y_lineWhat, .ref y_lineA, .ref y_lineB, .ref y_seens, .ref y_seenIn, .ref y_seenYards, .ref y_seenNear, .ref y_s, .ref y_aside, .ref y_before, .ref y_marked, .ref y_undone, .ref y_isLaid, .int (nI y_done), .int y_snowNow, .int y_cameNow, .int y_cookThen, .int y_tasteThen, .ref y_places, .ref y_comesAt, .ref y_yardsIn, .long y_g])] sz)) 0 0 (va_A [(y, kO 9 [.int y_thrown, .int (nI y_taped), .ref y_tape, .int (nI y_size), .int (nI y_place), .int (nI y_begin), .int (nI y_token), .long y_word, .int y_told, .int y_wrong, .ref y_supper, .ref y_guestName, .ref y_kind, .ref y_offTold, .ref y_pace, .ref y_cooks, .ref y_snow, .ref y_lineFrom, .ref y_lineTo, .ref y_codes, .int (nI y_code), .int y_toldLines, .ref y_opened, .ref y_compared, .ref y_kept, .ref y_keptBy, .ref y_ahead, .ref y_against, .ref y_sum, .ref y_sumBy, .ref y_term, .ref y_termBy, .ref y_byNot, .ref y_valueOf, .int y_given, .ref y_lines, .ref y_lineWhat, .ref y_lineA, .ref y_lineB, .ref y_seens, .ref y_seenIn, .ref y_seenYards, .ref y_seenNear, .ref y_s, .ref y_aside, .ref y_before, .ref y_marked, .ref y_undone, .ref y_isLaid, .int (nI y_done), .int y_snowNow, .int y_cameNow, .int y_cookThen, .int y_tasteThen, .ref y_places, .ref y_comesAt, .ref y_yardsIn, .long y_g])] sz) := by
  refine Met.ofW (cc := cX9_fact) (maxL := 1) (ret := (some .int)) (by decide) rfl ?_
  intro p e s m args below meth c s₁ B hml hv
  obtain ⟨hav, hsz, hP, hK, hD0, hE⟩ := hv
  have hx := B.exec
  have hb := B.bytes
  have hr := B.returns
  have hts := atoms_spec (ws := wsX9_fact) B.pre
  have hown : s.vm.findClass RX9 = some m.cls := findClass_of_methodNamed B.named
  have hlocks := B.notSynchronized
  have hi9 : ∀ w ∈ u_ws RX9 TX9 58, w ∈ wsX9_fact := fun w h9 => List.mem_cons_of_mem _ (List.mem_append_right _ h9)
  have lf167 := hts (.fieldLink RX9 167 "LastCookModel" "token" "I") (List.mem_cons_of_mem _ (List.mem_append_left _ (List.mem_of_getElem? (i := 0) rfl)))
  have lf160 := hts (.fieldLink RX9 160 "LastCookModel" "word" "J") (List.mem_cons_of_mem _ (List.mem_append_left _ (List.mem_of_getElem? (i := 1) rfl)))
  have lc184 := hts (.constantLong RX9 184 (10320789)) (List.mem_cons_of_mem _ (List.mem_append_left _ (List.mem_of_getElem? (i := 2) rfl)))
  have lc186 := hts (.constantLong RX9 186 (237470)) (List.mem_cons_of_mem _ (List.mem_append_left _ (List.mem_of_getElem? (i := 3) rfl)))
  have lc188 := hts (.constantLong RX9 188 (111715435)) (List.mem_cons_of_mem _ (List.mem_append_left _ (List.mem_of_getElem? (i := 4) rfl)))
  have lc190 := hts (.constantLong RX9 190 (7622660)) (List.mem_cons_of_mem _ (List.mem_append_left _ (List.mem_of_getElem? (i := 5) rfl)))
  subst hsz
  have hD := hD0.self (sz := s.heap.size)
  generalize hAe : va_A [(y, kO 9 [.int y_thrown, .int (nI y_taped), .ref y_tape, .int (nI y_size), .int (nI y_place), .int (nI y_begin), .int (nI y_token), .long y_word, .int y_told, .int y_wrong, .ref y_supper, .ref y_guestName, .ref y_kind, .ref y_offTold, .ref y_pace, .ref y_cooks, .ref y_snow, .ref y_lineFrom, .ref y_lineTo, .ref y_codes, .int (nI y_code), .int y_toldLines, .ref y_opened, .ref y_compared, .ref y_kept, .ref y_keptBy, .ref y_ahead, .ref y_against, .ref y_sum, .ref y_sumBy, .ref y_term, .ref y_termBy, .ref y_byNot, .ref y_valueOf, .int y_given, .ref y_lines, .ref y_lineWhat, .ref y_lineA, .ref y_lineB, .ref y_seens, .ref y_seenIn, .ref y_seenYards, .ref y_seenNear, .ref y_s, .ref y_aside, .ref y_before, .ref y_marked, .ref y_undone, .ref y_isLaid, .int (nI y_done), .int y_snowNow, .int y_cameNow, .int y_cookThen, .int y_tasteThen, .ref y_places, .ref y_comesAt, .ref y_yardsIn, .long y_g])] s.heap.size = A at hD ⊢
  have hA : ∀ q : Nat, s.heap.size ≤ q → A q := fun q h => by rw [← hAe]; exact Or.inr h
  have hS : va_S A s.heap s.heap [] := va_S.rf
  have hl := lv_entry ([.ref y]) (n := 1) (Nat.le_of_ble_eq_true rfl)
  rw [show entryFrame m args 1 = entryFrame m ([.ref y] : List Value).toArray 1 by rw [hav], lg_entry_eq]
  generalize (lg_sl ([.ref y]) ++ List.replicate (1 - (lg_sl ([.ref y])).length) Slot.unset).toArray = ls at hl ⊢
  have hl : lv_has ls 1 [(0, .ref y)] := hl
  obtain ⟨R, hR⟩ : ∃ R, R = (headSpec wsX9_fact ({ frames := 0, cells := 0, slots := 0, locals := 0 } : Room)).room := ⟨_, rfl⟩
  rw [← hR]
  generalize hQ : MQ below _ args s 0 0 A = Q
  replace hQ := hQ.symm
  obtain ⟨H, hH⟩ : ∃ H, H = s.heap := ⟨_, rfl⟩
  rw [← hH] at hP ⊢
  have hS : va_S A s.heap H [] := by rw [hH]; exact hS
  obtain ⟨E0, hE0⟩ : ∃ E0 : Int32, E0 = (fX9_fact y_token y_word) := ⟨_, rfl⟩
  have hZ : (fX9_fact y_token y_word) = E0 := hE0.symm
  refine lv_aload_n hx hb dX9_fact_0 rfl (lv_at hl 0 rfl) ?_
  refine va_get (D := D) (ci := 9) (v := .int (nI y_token)) (C := RX9) (T := TX9) (N := 58) hx hb hts hi9 hown hK hP 0 rfl rfl 6 (by decide) lf167 (fun _ h9 => h9) rfl dX9_fact_1 ?_
  refine lv_iconst (v := 1) hx hb dX9_fact_4 (by decide) ?_
  refine lv_icmp_eq (tgt := 10) hx hb dX9_fact_5 (by decide) (fun c_1 => ?_) (fun c_1 => ?_)
  · exact by
     have k_1 : y_token = 1 := (nI_eq (a := y_token) (b := 1) (by omega) (by omega)).mp c_1
     have hZ := (if_pos k_1).symm.trans hZ
     refine lv_aload_n hx hb dX9_fact_10 rfl (lv_at hl 0 rfl) ?_
     refine va_get (D := D) (ci := 9) (v := .long y_word) (C := RX9) (T := TX9) (N := 58) hx hb hts hi9 hown hK hP 0 rfl rfl 7 (by decide) lf160 (fun _ h9 => h9) rfl dX9_fact_11 ?_
     refine lv_ldc2 hx hb hown lc184 dX9_fact_14 ?_
     refine W.lcmp hx hb dX9_fact_17 ?_
     refine lv_if_ne (tgt := 23) hx hb dX9_fact_18 (by decide) (fun c_2 => ?_) (fun c_2 => ?_)
     · exact by
        have hZ := (if_neg c_2).symm.trans hZ
        refine lv_aload_n hx hb dX9_fact_23 rfl (lv_at hl 0 rfl) ?_
        refine va_get (D := D) (ci := 9) (v := .long y_word) (C := RX9) (T := TX9) (N := 58) hx hb hts hi9 hown hK hP 0 rfl rfl 7 (by decide) lf160 (fun _ h9 => h9) rfl dX9_fact_24 ?_
        refine lv_ldc2 hx hb hown lc186 dX9_fact_27 ?_
        refine W.lcmp hx hb dX9_fact_30 ?_
        refine lv_if_ne (tgt := 36) hx hb dX9_fact_31 (by decide) (fun c_3 => ?_) (fun c_3 => ?_)
        · exact by
           have hZ := (if_neg c_3).symm.trans hZ
           refine lv_aload_n hx hb dX9_fact_36 rfl (lv_at hl 0 rfl) ?_
           refine va_get (D := D) (ci := 9) (v := .long y_word) (C := RX9) (T := TX9) (N := 58) hx hb hts hi9 hown hK hP 0 rfl rfl 7 (by decide) lf160 (fun _ h9 => h9) rfl dX9_fact_37 ?_
           refine lv_ldc2 hx hb hown lc188 dX9_fact_40 ?_
           refine W.lcmp hx hb dX9_fact_43 ?_
           refine lv_if_ne (tgt := 51) hx hb dX9_fact_44 (by decide) (fun c_4 => ?_) (fun c_4 => ?_)
           · exact by
              have hZ := (if_neg c_4).symm.trans hZ
              refine lv_aload_n hx hb dX9_fact_51 rfl (lv_at hl 0 rfl) ?_
              refine va_get (D := D) (ci := 9) (v := .long y_word) (C := RX9) (T := TX9) (N := 58) hx hb hts hi9 hown hK hP 0 rfl rfl 7 (by decide) lf160 (fun _ h9 => h9) rfl dX9_fact_52 ?_
              refine lv_ldc2 hx hb hown lc190 dX9_fact_55 ?_
              refine W.lcmp hx hb dX9_fact_58 ?_
              refine lv_if_ne (tgt := 66) hx hb dX9_fact_59 (by decide) (fun c_5 => ?_) (fun c_5 => ?_)
              · exact by
                 have hZ := (if_neg c_5).symm.trans hZ
                 refine lv_iconst (v := 0) hx hb dX9_fact_66 (by decide) ?_
                 have tq6 : Int32.toInt 0 = 0 := by decide
                 rw [hQ]
                 have hP9 := hP.sub (ws' := [(y, kO 9 [.int y_thrown, .int (nI y_taped), .ref y_tape, .int (nI y_size), .int (nI y_place), .int (nI y_begin), .int (nI y_token), .long y_word, .int y_told, .int y_wrong, .ref y_supper, .ref y_guestName, .ref y_kind, .ref y_offTold, .ref y_pace, .ref y_cooks, .ref y_snow, .ref y_lineFrom, .ref y_lineTo, .ref y_codes, .int (nI y_code), .int y_toldLines, .ref y_opened, .ref y_compared, .ref y_kept, .ref y_keptBy, .ref y_ahead, .ref y_against, .ref y_sum, .ref y_sumBy, .ref y_term, .ref y_termBy, .ref y_byNot, .ref y_valueOf, .int y_given, .ref y_lines, .ref y_lineWhat, .ref y_lineA, .ref y_lineB, .ref y_seens, .ref y_seenIn, .ref y_seenYards, .ref y_seenNear, .ref y_s, .ref y_aside, .ref y_before, .ref y_marked, .ref y_undone, .ref y_isLaid, .int (nI y_done), .int y_snowNow, .int y_cameNow, .int y_cookThen, .int y_tasteThen, .ref y_places, .ref y_comesAt, .ref y_yardsIn, .long y_g])]) [0] rfl
                 have hD9 := hD.sub (ws' := [(y, kO 9 [.int y_thrown, .int (nI y_taped), .ref y_tape, .int (nI y_size), .int (nI y_place), .int (nI y_begin), .int (nI y_token), .long y_word, .int y_told, .int y_wrong, .ref y_supper, .ref y_guestName, .ref y_kind, .ref y_offTold, .ref y_pace, .ref y_cooks, .ref y_snow, .ref y_lineFrom, .ref y_lineTo, .ref y_codes, .int (nI y_code), .int y_toldLines, .ref y_opened, .ref y_compared, .ref y_kept, .ref y_keptBy, .ref y_ahead, .ref y_against, .ref y_sum, .ref y_sumBy, .ref y_term, .ref y_termBy, .ref y_byNot, .ref y_valueOf, .int y_given, .ref y_lines, .ref y_lineWhat, .ref y_lineA, .ref y_lineB, .ref y_seens, .ref y_seenIn, .ref y_seenYards, .ref y_seenNear, .ref y_s, .ref y_aside, .ref y_before, .ref y_marked, .ref y_undone, .ref y_isLaid, .int (nI y_done), .int y_snowNow, .int y_cameNow, .int y_cookThen, .int y_tasteThen, .ref y_places, .ref y_comesAt, .ref y_yardsIn, .long y_g])]) [0] (by decide +kernel) rfl
                 exact W.iret (v := 0) hx hb hr (fun zt ht hW => ⟨⟨0, (), rfl, ⟨(by first | omega | (dsimp only; omega) | assumption), (hZ.trans hE0)⟩, by rw [ht]; exact hP9, hD9⟩, hS.F ht⟩) hS.2.2 dX9_fact_67
              · exact by
                 have hZ := (if_pos c_5).symm.trans hZ
                 refine lv_iconst (v := 4) hx hb dX9_fact_62 (by decide) ?_
                 refine lv_goto (tgt := 67) hx hb dX9_fact_63 (by decide) ?_
                 have tq7 : Int32.toInt 4 = 4 := by decide
                 rw [hQ]
                 have hP9 := hP.sub (ws' := [(y, kO 9 [.int y_thrown, .int (nI y_taped), .ref y_tape, .int (nI y_size), .int (nI y_place), .int (nI y_begin), .int (nI y_token), .long y_word, .int y_told, .int y_wrong, .ref y_supper, .ref y_guestName, .ref y_kind, .ref y_offTold, .ref y_pace, .ref y_cooks, .ref y_snow, .ref y_lineFrom, .ref y_lineTo, .ref y_codes, .int (nI y_code), .int y_toldLines, .ref y_opened, .ref y_compared, .ref y_kept, .ref y_keptBy, .ref y_ahead, .ref y_against, .ref y_sum, .ref y_sumBy, .ref y_term, .ref y_termBy, .ref y_byNot, .ref y_valueOf, .int y_given, .ref y_lines, .ref y_lineWhat, .ref y_lineA, .ref y_lineB, .ref y_seens, .ref y_seenIn, .ref y_seenYards, .ref y_seenNear, .ref y_s, .ref y_aside, .ref y_before, .ref y_marked, .ref y_undone, .ref y_isLaid, .int (nI y_done), .int y_snowNow, .int y_cameNow, .int y_cookThen, .int y_tasteThen, .ref y_places, .ref y_comesAt, .ref y_yardsIn, .long y_g])]) [0] rfl
                 have hD9 := hD.sub (ws' := [(y, kO 9 [.int y_thrown, .int (nI y_taped), .ref y_tape, .int (nI y_size), .int (nI y_place), .int (nI y_begin), .int (nI y_token), .long y_word, .int y_told, .int y_wrong, .ref y_supper, .ref y_guestName, .ref y_kind, .ref y_offTold, .ref y_pace, .ref y_cooks, .ref y_snow, .ref y_lineFrom, .ref y_lineTo, .ref y_codes, .int (nI y_code), .int y_toldLines, .ref y_opened, .ref y_compared, .ref y_kept, .ref y_keptBy, .ref y_ahead, .ref y_against, .ref y_sum, .ref y_sumBy, .ref y_term, .ref y_termBy, .ref y_byNot, .ref y_valueOf, .int y_given, .ref y_lines, .ref y_lineWhat, .ref y_lineA, .ref y_lineB, .ref y_seens, .ref y_seenIn, .ref y_seenYards, .ref y_seenNear, .ref y_s, .ref y_aside, .ref y_before, .ref y_marked, .ref y_undone, .ref y_isLaid, .int (nI y_done), .int y_snowNow, .int y_cameNow, .int y_cookThen, .int y_tasteThen, .ref y_places, .ref y_comesAt, .ref y_yardsIn, .long y_g])]) [0] (by decide +kernel) rfl
                 exact W.iret (v := 4) hx hb hr (fun zt ht hW => ⟨⟨4, (), rfl, ⟨(by first | omega | (dsimp only; omega) | assumption), (hZ.trans hE0)⟩, by rw [ht]; exact hP9, hD9⟩, hS.F ht⟩) hS.2.2 dX9_fact_67
           · exact by
              have hZ := (if_pos c_4).symm.trans hZ
              refine lv_iconst (v := 3) hx hb dX9_fact_47 (by decide) ?_
              refine lv_goto (tgt := 67) hx hb dX9_fact_48 (by decide) ?_
              have tq8 : Int32.toInt 3 = 3 := by decide
              rw [hQ]
              have hP9 := hP.sub (ws' := [(y, kO 9 [.int y_thrown, .int (nI y_taped), .ref y_tape, .int (nI y_size), .int (nI y_place), .int (nI y_begin), .int (nI y_token), .long y_word, .int y_told, .int y_wrong, .ref y_supper, .ref y_guestName, .ref y_kind, .ref y_offTold, .ref y_pace, .ref y_cooks, .ref y_snow, .ref y_lineFrom, .ref y_lineTo, .ref y_codes, .int (nI y_code), .int y_toldLines, .ref y_opened, .ref y_compared, .ref y_kept, .ref y_keptBy, .ref y_ahead, .ref y_against, .ref y_sum, .ref y_sumBy, .ref y_term, .ref y_termBy, .ref y_byNot, .ref y_valueOf, .int y_given, .ref y_lines, .ref y_lineWhat, .ref y_lineA, .ref y_lineB, .ref y_seens, .ref y_seenIn, .ref y_seenYards, .ref y_seenNear, .ref y_s, .ref y_aside, .ref y_before, .ref y_marked, .ref y_undone, .ref y_isLaid, .int (nI y_done), .int y_snowNow, .int y_cameNow, .int y_cookThen, .int y_tasteThen, .ref y_places, .ref y_comesAt, .ref y_yardsIn, .long y_g])]) [0] rfl
              have hD9 := hD.sub (ws' := [(y, kO 9 [.int y_thrown, .int (nI y_taped), .ref y_tape, .int (nI y_size), .int (nI y_place), .int (nI y_begin), .int (nI y_token), .long y_word, .int y_told, .int y_wrong, .ref y_supper, .ref y_guestName, .ref y_kind, .ref y_offTold, .ref y_pace, .ref y_cooks, .ref y_snow, .ref y_lineFrom, .ref y_lineTo, .ref y_codes, .int (nI y_code), .int y_toldLines, .ref y_opened, .ref y_compared, .ref y_kept, .ref y_keptBy, .ref y_ahead, .ref y_against, .ref y_sum, .ref y_sumBy, .ref y_term, .ref y_termBy, .ref y_byNot, .ref y_valueOf, .int y_given, .ref y_lines, .ref y_lineWhat, .ref y_lineA, .ref y_lineB, .ref y_seens, .ref y_seenIn, .ref y_seenYards, .ref y_seenNear, .ref y_s, .ref y_aside, .ref y_before, .ref y_marked, .ref y_undone, .ref y_isLaid, .int (nI y_done), .int y_snowNow, .int y_cameNow, .int y_cookThen, .int y_tasteThen, .ref y_places, .ref y_comesAt, .ref y_yardsIn, .long y_g])]) [0] (by decide +kernel) rfl
              exact W.iret (v := 3) hx hb hr (fun zt ht hW => ⟨⟨3, (), rfl, ⟨(by first | omega | (dsimp only; omega) | assumption), (hZ.trans hE0)⟩, by rw [ht]; exact hP9, hD9⟩, hS.F ht⟩) hS.2.2 dX9_fact_67
        · exact by
           have hZ := (if_pos c_3).symm.trans hZ
           refine lv_iconst (v := 2) hx hb dX9_fact_34 (by decide) ?_
           have tq9 : Int32.toInt 2 = 2 := by decide
           rw [hQ]
           have hP9 := hP.sub (ws' := [(y, kO 9 [.int y_thrown, .int (nI y_taped), .ref y_tape, .int (nI y_size), .int (nI y_place), .int (nI y_begin), .int (nI y_token), .long y_word, .int y_told, .int y_wrong, .ref y_supper, .ref y_guestName, .ref y_kind, .ref y_offTold, .ref y_pace, .ref y_cooks, .ref y_snow, .ref y_lineFrom, .ref y_lineTo, .ref y_codes, .int (nI y_code), .int y_toldLines, .ref y_opened, .ref y_compared, .ref y_kept, .ref y_keptBy, .ref y_ahead, .ref y_against, .ref y_sum, .ref y_sumBy, .ref y_term, .ref y_termBy, .ref y_byNot, .ref y_valueOf, .int y_given, .ref y_lines, .ref y_lineWhat, .ref y_lineA, .ref y_lineB, .ref y_seens, .ref y_seenIn, .ref y_seenYards, .ref y_seenNear, .ref y_s, .ref y_aside, .ref y_before, .ref y_marked, .ref y_undone, .ref y_isLaid, .int (nI y_done), .int y_snowNow, .int y_cameNow, .int y_cookThen, .int y_tasteThen, .ref y_places, .ref y_comesAt, .ref y_yardsIn, .long y_g])]) [0] rfl
           have hD9 := hD.sub (ws' := [(y, kO 9 [.int y_thrown, .int (nI y_taped), .ref y_tape, .int (nI y_size), .int (nI y_place), .int (nI y_begin), .int (nI y_token), .long y_word, .int y_told, .int y_wrong, .ref y_supper, .ref y_guestName, .ref y_kind, .ref y_offTold, .ref y_pace, .ref y_cooks, .ref y_snow, .ref y_lineFrom, .ref y_lineTo, .ref y_codes, .int (nI y_code), .int y_toldLines, .ref y_opened, .ref y_compared, .ref y_kept, .ref y_keptBy, .ref y_ahead, .ref y_against, .ref y_sum, .ref y_sumBy, .ref y_term, .ref y_termBy, .ref y_byNot, .ref y_valueOf, .int y_given, .ref y_lines, .ref y_lineWhat, .ref y_lineA, .ref y_lineB, .ref y_seens, .ref y_seenIn, .ref y_seenYards, .ref y_seenNear, .ref y_s, .ref y_aside, .ref y_before, .ref y_marked, .ref y_undone, .ref y_isLaid, .int (nI y_done), .int y_snowNow, .int y_cameNow, .int y_cookThen, .int y_tasteThen, .ref y_places, .ref y_comesAt, .ref y_yardsIn, .long y_g])]) [0] (by decide +kernel) rfl
           exact W.iret (v := 2) hx hb hr (fun zt ht hW => ⟨⟨2, (), rfl, ⟨(by first | omega | (dsimp only; omega) | assumption), (hZ.trans hE0)⟩, by rw [ht]; exact hP9, hD9⟩, hS.F ht⟩) hS.2.2 dX9_fact_35
     · exact by
        have hZ := (if_pos c_2).symm.trans hZ
        refine lv_iconst (v := 1) hx hb dX9_fact_21 (by decide) ?_
        have tq10 : Int32.toInt 1 = 1 := by decide
        rw [hQ]
        have hP9 := hP.sub (ws' := [(y, kO 9 [.int y_thrown, .int (nI y_taped), .ref y_tape, .int (nI y_size), .int (nI y_place), .int (nI y_begin), .int (nI y_token), .long y_word, .int y_told, .int y_wrong, .ref y_supper, .ref y_guestName, .ref y_kind, .ref y_offTold, .ref y_pace, .ref y_cooks, .ref y_snow, .ref y_lineFrom, .ref y_lineTo, .ref y_codes, .int (nI y_code), .int y_toldLines, .ref y_opened, .ref y_compared, .ref y_kept, .ref y_keptBy, .ref y_ahead, .ref y_against, .ref y_sum, .ref y_sumBy, .ref y_term, .ref y_termBy, .ref y_byNot, .ref y_valueOf, .int y_given, .ref y_lines, .ref y_lineWhat, .ref y_lineA, .ref y_lineB, .ref y_seens, .ref y_seenIn, .ref y_seenYards, .ref y_seenNear, .ref y_s, .ref y_aside, .ref y_before, .ref y_marked, .ref y_undone, .ref y_isLaid, .int (nI y_done), .int y_snowNow, .int y_cameNow, .int y_cookThen, .int y_tasteThen, .ref y_places, .ref y_comesAt, .ref y_yardsIn, .long y_g])]) [0] rfl
        have hD9 := hD.sub (ws' := [(y, kO 9 [.int y_thrown, .int (nI y_taped), .ref y_tape, .int (nI y_size), .int (nI y_place), .int (nI y_begin), .int (nI y_token), .long y_word, .int y_told, .int y_wrong, .ref y_supper, .ref y_guestName, .ref y_kind, .ref y_offTold, .ref y_pace, .ref y_cooks, .ref y_snow, .ref y_lineFrom, .ref y_lineTo, .ref y_codes, .int (nI y_code), .int y_toldLines, .ref y_opened, .ref y_compared, .ref y_kept, .ref y_keptBy, .ref y_ahead, .ref y_against, .ref y_sum, .ref y_sumBy, .ref y_term, .ref y_termBy, .ref y_byNot, .ref y_valueOf, .int y_given, .ref y_lines, .ref y_lineWhat, .ref y_lineA, .ref y_lineB, .ref y_seens, .ref y_seenIn, .ref y_seenYards, .ref y_seenNear, .ref y_s, .ref y_aside, .ref y_before, .ref y_marked, .ref y_undone, .ref y_isLaid, .int (nI y_done), .int y_snowNow, .int y_cameNow, .int y_cookThen, .int y_tasteThen, .ref y_places, .ref y_comesAt, .ref y_yardsIn, .long y_g])]) [0] (by decide +kernel) rfl
        exact W.iret (v := 1) hx hb hr (fun zt ht hW => ⟨⟨1, (), rfl, ⟨(by first | omega | (dsimp only; omega) | assumption), (hZ.trans hE0)⟩, by rw [ht]; exact hP9, hD9⟩, hS.F ht⟩) hS.2.2 dX9_fact_22
  · exact by
     have k_1 : ¬ (y_token = 1) := fun h => c_1 ((nI_eq (a := y_token) (b := 1) (by omega) (by omega)).mpr h)
     have hZ := (if_neg k_1).symm.trans hZ
     refine lv_iconst (v := 0) hx hb dX9_fact_8 (by decide) ?_
     have tq11 : Int32.toInt 0 = 0 := by decide
     rw [hQ]
     have hP9 := hP.sub (ws' := [(y, kO 9 [.int y_thrown, .int (nI y_taped), .ref y_tape, .int (nI y_size), .int (nI y_place), .int (nI y_begin), .int (nI y_token), .long y_word, .int y_told, .int y_wrong, .ref y_supper, .ref y_guestName, .ref y_kind, .ref y_offTold, .ref y_pace, .ref y_cooks, .ref y_snow, .ref y_lineFrom, .ref y_lineTo, .ref y_codes, .int (nI y_code), .int y_toldLines, .ref y_opened, .ref y_compared, .ref y_kept, .ref y_keptBy, .ref y_ahead, .ref y_against, .ref y_sum, .ref y_sumBy, .ref y_term, .ref y_termBy, .ref y_byNot, .ref y_valueOf, .int y_given, .ref y_lines, .ref y_lineWhat, .ref y_lineA, .ref y_lineB, .ref y_seens, .ref y_seenIn, .ref y_seenYards, .ref y_seenNear, .ref y_s, .ref y_aside, .ref y_before, .ref y_marked, .ref y_undone, .ref y_isLaid, .int (nI y_done), .int y_snowNow, .int y_cameNow, .int y_cookThen, .int y_tasteThen, .ref y_places, .ref y_comesAt, .ref y_yardsIn, .long y_g])]) [0] rfl
     have hD9 := hD.sub (ws' := [(y, kO 9 [.int y_thrown, .int (nI y_taped), .ref y_tape, .int (nI y_size), .int (nI y_place), .int (nI y_begin), .int (nI y_token), .long y_word, .int y_told, .int y_wrong, .ref y_supper, .ref y_guestName, .ref y_kind, .ref y_offTold, .ref y_pace, .ref y_cooks, .ref y_snow, .ref y_lineFrom, .ref y_lineTo, .ref y_codes, .int (nI y_code), .int y_toldLines, .ref y_opened, .ref y_compared, .ref y_kept, .ref y_keptBy, .ref y_ahead, .ref y_against, .ref y_sum, .ref y_sumBy, .ref y_term, .ref y_termBy, .ref y_byNot, .ref y_valueOf, .int y_given, .ref y_lines, .ref y_lineWhat, .ref y_lineA, .ref y_lineB, .ref y_seens, .ref y_seenIn, .ref y_seenYards, .ref y_seenNear, .ref y_s, .ref y_aside, .ref y_before, .ref y_marked, .ref y_undone, .ref y_isLaid, .int (nI y_done), .int y_snowNow, .int y_cameNow, .int y_cookThen, .int y_tasteThen, .ref y_places, .ref y_comesAt, .ref y_yardsIn, .long y_g])]) [0] (by decide +kernel) rfl
     exact W.iret (v := 0) hx hb hr (fun zt ht hW => ⟨⟨0, (), rfl, ⟨(by first | omega | (dsimp only; omega) | assumption), (hZ.trans hE0)⟩, by rw [ht]; exact hP9, hD9⟩, hS.F ht⟩) hS.2.2 dX9_fact_9
theorem dX9_isKept_0 : decode cX9_isKept 0 = .ok (.aload_n 0, 1) := dk_aload_n_0 (by decide +kernel)
theorem dX9_isKept_1 : decode cX9_isKept 1 = .ok (.getfield 167, 3) := dk_getfield (by decide +kernel)
theorem dX9_isKept_4 : decode cX9_isKept 4 = .ok (.iconst 1, 1) := dk_iconst_1 (by decide +kernel)
theorem dX9_isKept_5 : decode cX9_isKept 5 = .ok (.if_icmp .eq 5, 3) := dk_if_icmp_eq (by decide +kernel)
theorem dX9_isKept_8 : decode cX9_isKept 8 = .ok (.iconst 1, 1) := dk_iconst_1 (by decide +kernel)
theorem dX9_isKept_9 : decode cX9_isKept 9 = .ok (.ireturn, 1) := dk_ireturn (by decide +kernel)
theorem dX9_isKept_10 : decode cX9_isKept 10 = .ok (.aload_n 0, 1) := dk_aload_n_0 (by decide +kernel)
theorem dX9_isKept_11 : decode cX9_isKept 11 = .ok (.getfield 160, 3) := dk_getfield (by decide +kernel)
theorem dX9_isKept_14 : decode cX9_isKept 14 = .ok (.ldc2_w 228, 3) := dk_ldc2_w (by decide +kernel)
theorem dX9_isKept_17 : decode cX9_isKept 17 = .ok (.lcmp, 1) := dk_lcmp (by decide +kernel)
theorem dX9_isKept_18 : decode cX9_isKept 18 = .ok (.ifCond .eq 201, 3) := dk_ifCond_eq (by decide +kernel)
theorem dX9_isKept_21 : decode cX9_isKept 21 = .ok (.aload_n 0, 1) := dk_aload_n_0 (by decide +kernel)
theorem dX9_isKept_22 : decode cX9_isKept 22 = .ok (.getfield 160, 3) := dk_getfield (by decide +kernel)
theorem dX9_isKept_25 : decode cX9_isKept 25 = .ok (.ldc2_w 230, 3) := dk_ldc2_w (by decide +kernel)
theorem dX9_isKept_28 : decode cX9_isKept 28 = .ok (.lcmp, 1) := dk_lcmp (by decide +kernel)
theorem dX9_isKept_29 : decode cX9_isKept 29 = .ok (.ifCond .eq 190, 3) := dk_ifCond_eq (by decide +kernel)
theorem dX9_isKept_32 : decode cX9_isKept 32 = .ok (.aload_n 0, 1) := dk_aload_n_0 (by decide +kernel)
theorem dX9_isKept_33 : decode cX9_isKept 33 = .ok (.getfield 160, 3) := dk_getfield (by decide +kernel)
theorem dX9_isKept_36 : decode cX9_isKept 36 = .ok (.ldc2_w 232, 3) := dk_ldc2_w (by decide +kernel)
theorem dX9_isKept_39 : decode cX9_isKept 39 = .ok (.lcmp, 1) := dk_lcmp (by decide +kernel)
theorem dX9_isKept_40 : decode cX9_isKept 40 = .ok (.ifCond .eq 179, 3) := dk_ifCond_eq (by decide +kernel)
theorem dX9_isKept_43 : decode cX9_isKept 43 = .ok (.aload_n 0, 1) := dk_aload_n_0 (by decide +kernel)
theorem dX9_isKept_44 : decode cX9_isKept 44 = .ok (.getfield 160, 3) := dk_getfield (by decide +kernel)
theorem dX9_isKept_47 : decode cX9_isKept 47 = .ok (.ldc2_w 234, 3) := dk_ldc2_w (by decide +kernel)
theorem dX9_isKept_50 : decode cX9_isKept 50 = .ok (.lcmp, 1) := dk_lcmp (by decide +kernel)
theorem dX9_isKept_51 : decode cX9_isKept 51 = .ok (.ifCond .eq 168, 3) := dk_ifCond_eq (by decide +kernel)
theorem dX9_isKept_54 : decode cX9_isKept 54 = .ok (.aload_n 0, 1) := dk_aload_n_0 (by decide +kernel)
theorem dX9_isKept_55 : decode cX9_isKept 55 = .ok (.getfield 160, 3) := dk_getfield (by decide +kernel)
theorem dX9_isKept_58 : decode cX9_isKept 58 = .ok (.ldc2_w 236, 3) := dk_ldc2_w (by decide +kernel)
theorem dX9_isKept_61 : decode cX9_isKept 61 = .ok (.lcmp, 1) := dk_lcmp (by decide +kernel)
theorem dX9_isKept_62 : decode cX9_isKept 62 = .ok (.ifCond .eq 157, 3) := dk_ifCond_eq (by decide +kernel)
theorem dX9_isKept_65 : decode cX9_isKept 65 = .ok (.aload_n 0, 1) := dk_aload_n_0 (by decide +kernel)
theorem dX9_isKept_66 : decode cX9_isKept 66 = .ok (.getfield 160, 3) := dk_getfield (by decide +kernel)
theorem dX9_isKept_69 : decode cX9_isKept 69 = .ok (.ldc2_w 238, 3) := dk_ldc2_w (by decide +kernel)
theorem dX9_isKept_72 : decode cX9_isKept 72 = .ok (.lcmp, 1) := dk_lcmp (by decide +kernel)
theorem dX9_isKept_73 : decode cX9_isKept 73 = .ok (.ifCond .eq 146, 3) := dk_ifCond_eq (by decide +kernel)
theorem dX9_isKept_76 : decode cX9_isKept 76 = .ok (.aload_n 0, 1) := dk_aload_n_0 (by decide +kernel)
theorem dX9_isKept_77 : decode cX9_isKept 77 = .ok (.getfield 160, 3) := dk_getfield (by decide +kernel)
theorem dX9_isKept_80 : decode cX9_isKept 80 = .ok (.ldc2_w 240, 3) := dk_ldc2_w (by decide +kernel)
theorem dX9_isKept_83 : decode cX9_isKept 83 = .ok (.lcmp, 1) := dk_lcmp (by decide +kernel)
theorem dX9_isKept_84 : decode cX9_isKept 84 = .ok (.ifCond .eq 135, 3) := dk_ifCond_eq (by decide +kernel)
theorem dX9_isKept_87 : decode cX9_isKept 87 = .ok (.aload_n 0, 1) := dk_aload_n_0 (by decide +kernel)
theorem dX9_isKept_88 : decode cX9_isKept 88 = .ok (.getfield 160, 3) := dk_getfield (by decide +kernel)
theorem dX9_isKept_91 : decode cX9_isKept 91 = .ok (.ldc2_w 242, 3) := dk_ldc2_w (by decide +kernel)
theorem dX9_isKept_94 : decode cX9_isKept 94 = .ok (.lcmp, 1) := dk_lcmp (by decide +kernel)
theorem dX9_isKept_95 : decode cX9_isKept 95 = .ok (.ifCond .eq 124, 3) := dk_ifCond_eq (by decide +kernel)
theorem dX9_isKept_98 : decode cX9_isKept 98 = .ok (.aload_n 0, 1) := dk_aload_n_0 (by decide +kernel)
theorem dX9_isKept_99 : decode cX9_isKept 99 = .ok (.getfield 160, 3) := dk_getfield (by decide +kernel)
theorem dX9_isKept_102 : decode cX9_isKept 102 = .ok (.ldc2_w 244, 3) := dk_ldc2_w (by decide +kernel)
theorem dX9_isKept_105 : decode cX9_isKept 105 = .ok (.lcmp, 1) := dk_lcmp (by decide +kernel)
theorem dX9_isKept_106 : decode cX9_isKept 106 = .ok (.ifCond .eq 113, 3) := dk_ifCond_eq (by decide +kernel)
theorem dX9_isKept_109 : decode cX9_isKept 109 = .ok (.aload_n 0, 1) := dk_aload_n_0 (by decide +kernel)
theorem dX9_isKept_110 : decode cX9_isKept 110 = .ok (.getfield 160, 3) := dk_getfield (by decide +kernel)
theorem dX9_isKept_113 : decode cX9_isKept 113 = .ok (.ldc2_w 246, 3) := dk_ldc2_w (by decide +kernel)
theorem dX9_isKept_116 : decode cX9_isKept 116 = .ok (.lcmp, 1) := dk_lcmp (by decide +kernel)
theorem dX9_isKept_117 : decode cX9_isKept 117 = .ok (.ifCond .eq 102, 3) := dk_ifCond_eq (by decide +kernel)
theorem dX9_isKept_120 : decode cX9_isKept 120 = .ok (.aload_n 0, 1) := dk_aload_n_0 (by decide +kernel)
theorem dX9_isKept_121 : decode cX9_isKept 121 = .ok (.getfield 160, 3) := dk_getfield (by decide +kernel)
theorem dX9_isKept_124 : decode cX9_isKept 124 = .ok (.ldc2_w 248, 3) := dk_ldc2_w (by decide +kernel)
theorem dX9_isKept_127 : decode cX9_isKept 127 = .ok (.lcmp, 1) := dk_lcmp (by decide +kernel)
theorem dX9_isKept_128 : decode cX9_isKept 128 = .ok (.ifCond .eq 91, 3) := dk_ifCond_eq (by decide +kernel)
theorem dX9_isKept_131 : decode cX9_isKept 131 = .ok (.aload_n 0, 1) := dk_aload_n_0 (by decide +kernel)
theorem dX9_isKept_132 : decode cX9_isKept 132 = .ok (.getfield 160, 3) := dk_getfield (by decide +kernel)
theorem dX9_isKept_135 : decode cX9_isKept 135 = .ok (.ldc2_w 250, 3) := dk_ldc2_w (by decide +kernel)
theorem dX9_isKept_138 : decode cX9_isKept 138 = .ok (.lcmp, 1) := dk_lcmp (by decide +kernel)
theorem dX9_isKept_139 : decode cX9_isKept 139 = .ok (.ifCond .eq 80, 3) := dk_ifCond_eq (by decide +kernel)
theorem dX9_isKept_142 : decode cX9_isKept 142 = .ok (.aload_n 0, 1) := dk_aload_n_0 (by decide +kernel)
theorem dX9_isKept_143 : decode cX9_isKept 143 = .ok (.getfield 160, 3) := dk_getfield (by decide +kernel)
theorem dX9_isKept_146 : decode cX9_isKept 146 = .ok (.ldc2_w 252, 3) := dk_ldc2_w (by decide +kernel)
theorem dX9_isKept_149 : decode cX9_isKept 149 = .ok (.lcmp, 1) := dk_lcmp (by decide +kernel)
theorem dX9_isKept_150 : decode cX9_isKept 150 = .ok (.ifCond .eq 69, 3) := dk_ifCond_eq (by decide +kernel)
theorem dX9_isKept_153 : decode cX9_isKept 153 = .ok (.aload_n 0, 1) := dk_aload_n_0 (by decide +kernel)
theorem dX9_isKept_154 : decode cX9_isKept 154 = .ok (.getfield 160, 3) := dk_getfield (by decide +kernel)
theorem dX9_isKept_157 : decode cX9_isKept 157 = .ok (.ldc2_w 254, 3) := dk_ldc2_w (by decide +kernel)
theorem dX9_isKept_160 : decode cX9_isKept 160 = .ok (.lcmp, 1) := dk_lcmp (by decide +kernel)
theorem dX9_isKept_161 : decode cX9_isKept 161 = .ok (.ifCond .eq 58, 3) := dk_ifCond_eq (by decide +kernel)
theorem dX9_isKept_164 : decode cX9_isKept 164 = .ok (.aload_n 0, 1) := dk_aload_n_0 (by decide +kernel)
theorem dX9_isKept_165 : decode cX9_isKept 165 = .ok (.getfield 160, 3) := dk_getfield (by decide +kernel)
theorem dX9_isKept_168 : decode cX9_isKept 168 = .ok (.ldc2_w 256, 3) := dk_ldc2_w (by decide +kernel)
theorem dX9_isKept_171 : decode cX9_isKept 171 = .ok (.lcmp, 1) := dk_lcmp (by decide +kernel)
theorem dX9_isKept_172 : decode cX9_isKept 172 = .ok (.ifCond .eq 47, 3) := dk_ifCond_eq (by decide +kernel)
theorem dX9_isKept_175 : decode cX9_isKept 175 = .ok (.aload_n 0, 1) := dk_aload_n_0 (by decide +kernel)
theorem dX9_isKept_176 : decode cX9_isKept 176 = .ok (.getfield 160, 3) := dk_getfield (by decide +kernel)
theorem dX9_isKept_179 : decode cX9_isKept 179 = .ok (.ldc2_w 258, 3) := dk_ldc2_w (by decide +kernel)
theorem dX9_isKept_182 : decode cX9_isKept 182 = .ok (.lcmp, 1) := dk_lcmp (by decide +kernel)
theorem dX9_isKept_183 : decode cX9_isKept 183 = .ok (.ifCond .eq 36, 3) := dk_ifCond_eq (by decide +kernel)
theorem dX9_isKept_186 : decode cX9_isKept 186 = .ok (.aload_n 0, 1) := dk_aload_n_0 (by decide +kernel)
theorem dX9_isKept_187 : decode cX9_isKept 187 = .ok (.getfield 160, 3) := dk_getfield (by decide +kernel)
theorem dX9_isKept_190 : decode cX9_isKept 190 = .ok (.ldc2_w 196, 3) := dk_ldc2_w (by decide +kernel)
theorem dX9_isKept_193 : decode cX9_isKept 193 = .ok (.lcmp, 1) := dk_lcmp (by decide +kernel)
theorem dX9_isKept_194 : decode cX9_isKept 194 = .ok (.ifCond .eq 25, 3) := dk_ifCond_eq (by decide +kernel)
theorem dX9_isKept_197 : decode cX9_isKept 197 = .ok (.aload_n 0, 1) := dk_aload_n_0 (by decide +kernel)
theorem dX9_isKept_198 : decode cX9_isKept 198 = .ok (.getfield 160, 3) := dk_getfield (by decide +kernel)
theorem dX9_isKept_201 : decode cX9_isKept 201 = .ok (.ldc2_w 215, 3) := dk_ldc2_w (by decide +kernel)
theorem dX9_isKept_204 : decode cX9_isKept 204 = .ok (.lcmp, 1) := dk_lcmp (by decide +kernel)
theorem dX9_isKept_205 : decode cX9_isKept 205 = .ok (.ifCond .eq 14, 3) := dk_ifCond_eq (by decide +kernel)
theorem dX9_isKept_208 : decode cX9_isKept 208 = .ok (.aload_n 0, 1) := dk_aload_n_0 (by decide +kernel)
theorem dX9_isKept_209 : decode cX9_isKept 209 = .ok (.getfield 160, 3) := dk_getfield (by decide +kernel)
theorem dX9_isKept_212 : decode cX9_isKept 212 = .ok (.ldc2_w 217, 3) := dk_ldc2_w (by decide +kernel)
theorem dX9_isKept_215 : decode cX9_isKept 215 = .ok (.lcmp, 1) := dk_lcmp (by decide +kernel)
theorem dX9_isKept_216 : decode cX9_isKept 216 = .ok (.ifCond .ne 7, 3) := dk_ifCond_ne (by decide +kernel)
theorem dX9_isKept_219 : decode cX9_isKept 219 = .ok (.iconst 1, 1) := dk_iconst_1 (by decide +kernel)
theorem dX9_isKept_220 : decode cX9_isKept 220 = .ok (.goto 4, 3) := dk_goto (by decide +kernel)
theorem dX9_isKept_223 : decode cX9_isKept 223 = .ok (.iconst 0, 1) := dk_iconst_0 (by decide +kernel)
theorem dX9_isKept_224 : decode cX9_isKept 224 = .ok (.ireturn, 1) := dk_ireturn (by decide +kernel)
set_option maxHeartbeats 4000000 in
set_option maxRecDepth 100000 in
theorem sX9_isKept (l : Launch) (D : va_G) (k : Nat → ClassId) (sz : Nat) (y : Nat) (y_thrown : Int32) (y_taped : Nat) (y_tape : Nat) (y_size : Nat) (y_place : Nat) (y_begin : Nat) (y_token : Nat) (y_word : Int64) (y_told : Int32) (y_wrong : Int32) (y_supper : Nat) (y_guestName : Nat) (y_kind : Nat) (y_offTold : Nat) (y_pace : Nat) (y_cooks : Nat) (y_snow : Nat) (y_lineFrom : Nat) (y_lineTo : Nat) (y_codes : Nat) (y_code : Nat) (y_toldLines : Int32) (y_opened : Nat) (y_compared : Nat) (y_kept : Nat) (y_keptBy : Nat) (y_ahead : Nat) (y_against : Nat) (y_sum : Nat) (y_sumBy : Nat) (y_term : Nat) (y_termBy : Nat) (y_byNot : Nat) (y_valueOf : Nat) (y_given : Int32) (y_lines : Nat) (y_lineWhat : Nat) (y_lineA : Nat) (y_lineB : Nat) (y_seens : Nat) (y_seenIn : Nat) (y_seenYards : Nat) (y_seenNear : Nat) (y_s : Nat) (y_aside : Nat) (y_before : Nat) (y_marked : Nat) (y_undone : Nat) (y_isLaid : Nat) (y_done : Nat) (y_snowNow : Int32) (y_cameNow : Int32) (y_cookThen : Int32) (y_tasteThen : Int32) (y_places : Nat) (y_comesAt : Nat) (y_yardsIn : Nat) (y_g : Int64) (h_y_taped : y_taped ≤ 1000) (h_y_size : y_size ≤ 1000) (h_y_place : y_place ≤ 1000) (h_y_begin : y_begin ≤ 1000) (h_y_token : y_token ≤ 4) (h_y_told : 0 ≤ Int32.toInt y_told ∧ Int32.toInt y_told ≤ 9999) (h_y_code : y_code ≤ 2000) (h_y_done : y_done ≤ 16) : Met l yX9_isKept wsX9_isKept ({ frames := 0, cells := 0, slots := 0, locals := 0 }) (va_Pc [.ref y] (kz_Pre D k [(y, kO 9 [.int y_thrown, .int (nI y_taped), .ref y_tape, .int (nI y_size), .int (nI y_place), .int (nI y_begin), .int (nI y_token), .long y_word, .int y_told, .int y_wrong, .ref y_supper, .ref y_guestName, .ref y_kind, .ref y_offTold, .ref y_pace, .ref y_cooks, .ref y_snow, .ref y_lineFrom, .ref y_lineTo, .ref y_codes, .int (nI y_code), .int y_toldLines, .ref y_opened, .ref y_compared, .ref y_kept, .ref y_keptBy, .ref y_ahead, .ref y_against, .ref y_sum, .ref y_sumBy, .ref y_term, .ref y_termBy, .ref y_byNot, .ref y_valueOf, .int y_given, .ref y_lines, .ref y_lineWhat, .ref y_lineA, .ref y_lineB, .ref y_seens, .ref y_seenIn, .ref y_seenYards, .ref y_seenNear, .ref y_s, .ref y_aside, .ref y_before, .ref y_marked, .ref y_undone, .ref y_isLaid, .int (nI y_done), .int y_snowNow, .int y_cameNow, .int y_cookThen, .int y_tasteThen, .ref y_places, .ref y_comesAt, .ref y_yardsIn, .long y_g])] sz)) (va_Qi (fun (rr : Int32) (uu : Bool) => rr = bB uu ∧ ((uu) = (fX9_isKept y_token y_word))) (fun uu zt => kz_B D (va_A [(y, kO 9 [.int y_thrown, .int (nI y_taped), .ref y_tape, .int (nI y_size), .int (nI y_place), .int (nI y_begin), .int (nI y_token), .long y_word, .int y_told, .int y_wrong, .ref y_supper, .ref y_guestName, .ref y_kind, .ref y_offTold, .ref y_pace, .ref y_cooks, .ref y_snow, .ref y_lineFrom, .ref y_lineTo, .ref y_codes, .int (nI y_code), .int y_toldLines, .ref y_opened, .ref y_compared, .ref y_kept, .ref y_keptBy, .ref y_ahead, .ref y_against, .ref y_sum, .ref y_sumBy, .ref y_term, .ref y_termBy, .ref y_byNot, .ref y_valueOf, .int y_given, .ref y_lines, .ref y_lineWhat, .ref y_lineA, .ref y_lineB, .ref y_seens, .ref y_seenIn, .ref y_seenYards, .ref y_seenNear, .ref y_s, .ref y_aside, .ref y_before, .ref y_marked, .ref y_undone, .ref y_isLaid, .int (nI y_done), .int y_snowNow, .int y_cameNow, .int y_cookThen, .int y_tasteThen, .ref y_places, .ref y_comesAt, .ref y_yardsIn, .long y_g])] sz) [(y, kO 9 [.int y_thrown, .int (nI y_taped), .ref y_tape, .int (nI y_size), .int (nI y_place), .int (nI y_begin), .int (nI y_token), .long y_word, .int y_told, .int y_wrong, .ref y_supper, .ref y_guestName, .ref y_kind, .ref y_offTold, .ref y_pace, .ref y_cooks, .ref y_snow, .ref y_lineFrom, .ref y_lineTo, .ref y_codes, .int (nI y_code), .int y_toldLines, .ref y_opened, .ref y_compared, .ref y_kept, .ref y_keptBy, .ref y_ahead, .ref y_against, .ref y_sum, .ref y_sumBy, .ref y_term, .ref y_termBy, .ref y_byNot, .ref y_valueOf, .int y_given, .ref y_lines, .ref y_lineWhat, .ref y_lineA, .ref y_lineB, .ref y_seens, .ref y_seenIn, .ref y_seenYards, .ref y_seenNear, .ref y_s, .ref y_aside, .ref y_before, .ref y_marked, .ref y_undone, .ref y_isLaid, .int (nI y_done), .int y_snowNow, .int y_cameNow, .int y_cookThen, .int y_tasteThen, .ref y_places, .ref y_comesAt, .ref y_yardsIn, .long y_g])] zt) (va_A [(y, kO 9 [.int y_thrown, .int (nI y_taped), .ref y_tape, .int (nI y_size), .int (nI y_place), .int (nI y_begin), .int (nI y_token), .long y_word, .int y_told, .int y_wrong, .ref y_supper, .ref y_guestName, .ref y_kind, .ref y_offTold, .ref y_pace, .ref y_cooks, .ref y_snow, .ref y_lineFrom, .ref y_lineTo, .ref y_codes, .int (nI y_code), .int y_toldLines, .ref y_opened, .ref y_compared, .ref y_kept, .ref y_keptBy, .ref y_ahead, .ref y_against, .ref y_sum, .ref y_sumBy, .ref y_term, .ref y_termBy, .ref y_byNot, .ref y_valueOf, .int y_given, .ref y_lines, .ref y_lineWhat, .ref y_lineA, .ref y_lineB, .ref y_seens, .ref y_seenIn, .ref y_seenYards, .ref y_seenNear, .ref y_s, .ref y_aside, .ref y_before, .ref y_marked, .ref y_undone, .ref y_isLaid, .int (nI y_done), .int y_snowNow, .int y_cameNow, .int y_cookThen, .int y_tasteThen, .ref y_places, .ref y_comesAt, .ref y_yardsIn, .long y_g])] sz)) 0 0 (va_A [(y, kO 9 [.int y_thrown, .int (nI y_taped), .ref y_tape, .int (nI y_size), .int (nI y_place), .int (nI y_begin), .int (nI y_token), .long y_word, .int y_told, .int y_wrong, .ref y_supper, .ref y_guestName, .ref y_kind, .ref y_offTold, .ref y_pace, .ref y_cooks, .ref y_snow, .ref y_lineFrom, .ref y_lineTo, .ref y_codes, .int (nI y_code), .int y_toldLines, .ref y_opened, .ref y_compared, .ref y_kept, .ref y_keptBy, .ref y_ahead, .ref y_against, .ref y_sum, .ref y_sumBy, .ref y_term, .ref y_termBy, .ref y_byNot, .ref y_valueOf, .int y_given, .ref y_lines, .ref y_lineWhat, .ref y_lineA, .ref y_lineB, .ref y_seens, .ref y_seenIn, .ref y_seenYards, .ref y_seenNear, .ref y_s, .ref y_aside, .ref y_before, .ref y_marked, .ref y_undone, .ref y_isLaid, .int (nI y_done), .int y_snowNow, .int y_cameNow, .int y_cookThen, .int y_tasteThen, .ref y_places, .ref y_comesAt, .ref y_yardsIn, .long y_g])] sz) := by
  refine Met.ofW (cc := cX9_isKept) (maxL := 1) (ret := (some .boolean)) (by decide) rfl ?_
  intro p e s m args below meth c s₁ B hml hv
  obtain ⟨hav, hsz, hP, hK, hD0, hE⟩ := hv
  have hx := B.exec
  have hb := B.bytes
  have hr := B.returns
  have hts := atoms_spec (ws := wsX9_isKept) B.pre
  have hown : s.vm.findClass RX9 = some m.cls := findClass_of_methodNamed B.named
  have hlocks := B.notSynchronized
  have hi9 : ∀ w ∈ u_ws RX9 TX9 58, w ∈ wsX9_isKept := fun w h9 => List.mem_cons_of_mem _ (List.mem_append_right _ h9)
  have lf167 := hts (.fieldLink RX9 167 "LastCookModel" "token" "I") (List.mem_cons_of_mem _ (List.mem_append_left _ (List.mem_of_getElem? (i := 0) rfl)))
  have lf160 := hts (.fieldLink RX9 160 "LastCookModel" "word" "J") (List.mem_cons_of_mem _ (List.mem_append_left _ (List.mem_of_getElem? (i := 1) rfl)))
  have lc228 := hts (.constantLong RX9 228 (4137608)) (List.mem_cons_of_mem _ (List.mem_append_left _ (List.mem_of_getElem? (i := 2) rfl)))
  have lc230 := hts (.constantLong RX9 230 (11103)) (List.mem_cons_of_mem _ (List.mem_append_left _ (List.mem_of_getElem? (i := 3) rfl)))
  have lc232 := hts (.constantLong RX9 232 (315743)) (List.mem_cons_of_mem _ (List.mem_append_left _ (List.mem_of_getElem? (i := 4) rfl)))
  have lc234 := hts (.constantLong RX9 234 (1900819)) (List.mem_cons_of_mem _ (List.mem_append_left _ (List.mem_of_getElem? (i := 5) rfl)))
  have lc236 := hts (.constantLong RX9 236 (43393)) (List.mem_cons_of_mem _ (List.mem_append_left _ (List.mem_of_getElem? (i := 6) rfl)))
  have lc238 := hts (.constantLong RX9 238 (168984)) (List.mem_cons_of_mem _ (List.mem_append_left _ (List.mem_of_getElem? (i := 7) rfl)))
  have lc240 := hts (.constantLong RX9 240 (384611)) (List.mem_cons_of_mem _ (List.mem_append_left _ (List.mem_of_getElem? (i := 8) rfl)))
  have lc242 := hts (.constantLong RX9 242 (287898292)) (List.mem_cons_of_mem _ (List.mem_append_left _ (List.mem_of_getElem? (i := 9) rfl)))
  have lc244 := hts (.constantLong RX9 244 (12384399)) (List.mem_cons_of_mem _ (List.mem_append_left _ (List.mem_of_getElem? (i := 10) rfl)))
  have lc246 := hts (.constantLong RX9 246 (13703)) (List.mem_cons_of_mem _ (List.mem_append_left _ (List.mem_of_getElem? (i := 11) rfl)))
  have lc248 := hts (.constantLong RX9 248 (164516)) (List.mem_cons_of_mem _ (List.mem_append_left _ (List.mem_of_getElem? (i := 12) rfl)))
  have lc250 := hts (.constantLong RX9 250 (191610176)) (List.mem_cons_of_mem _ (List.mem_append_left _ (List.mem_of_getElem? (i := 13) rfl)))
  have lc252 := hts (.constantLong RX9 252 (8740238)) (List.mem_cons_of_mem _ (List.mem_append_left _ (List.mem_of_getElem? (i := 14) rfl)))
  have lc254 := hts (.constantLong RX9 254 (65441295)) (List.mem_cons_of_mem _ (List.mem_append_left _ (List.mem_of_getElem? (i := 15) rfl)))
  have lc256 := hts (.constantLong RX9 256 (14092)) (List.mem_cons_of_mem _ (List.mem_append_left _ (List.mem_of_getElem? (i := 16) rfl)))
  have lc258 := hts (.constantLong RX9 258 (4078073)) (List.mem_cons_of_mem _ (List.mem_append_left _ (List.mem_of_getElem? (i := 17) rfl)))
  have lc196 := hts (.constantLong RX9 196 (10631)) (List.mem_cons_of_mem _ (List.mem_append_left _ (List.mem_of_getElem? (i := 18) rfl)))
  have lc215 := hts (.constantLong RX9 215 (1111)) (List.mem_cons_of_mem _ (List.mem_append_left _ (List.mem_of_getElem? (i := 19) rfl)))
  have lc217 := hts (.constantLong RX9 217 (423)) (List.mem_cons_of_mem _ (List.mem_append_left _ (List.mem_of_getElem? (i := 20) rfl)))
  subst hsz
  have hD := hD0.self (sz := s.heap.size)
  generalize hAe : va_A [(y, kO 9 [.int y_thrown, .int (nI y_taped), .ref y_tape, .int (nI y_size), .int (nI y_place), .int (nI y_begin), .int (nI y_token), .long y_word, .int y_told, .int y_wrong, .ref y_supper, .ref y_guestName, .ref y_kind, .ref y_offTold, .ref y_pace, .ref y_cooks, .ref y_snow, .ref y_lineFrom, .ref y_lineTo, .ref y_codes, .int (nI y_code), .int y_toldLines, .ref y_opened, .ref y_compared, .ref y_kept, .ref y_keptBy, .ref y_ahead, .ref y_against, .ref y_sum, .ref y_sumBy, .ref y_term, .ref y_termBy, .ref y_byNot, .ref y_valueOf, .int y_given, .ref y_lines, .ref y_lineWhat, .ref y_lineA, .ref y_lineB, .ref y_seens, .ref y_seenIn, .ref y_seenYards, .ref y_seenNear, .ref y_s, .ref y_aside, .ref y_before, .ref y_marked, .ref y_undone, .ref y_isLaid, .int (nI y_done), .int y_snowNow, .int y_cameNow, .int y_cookThen, .int y_tasteThen, .ref y_places, .ref y_comesAt, .ref y_yardsIn, .long y_g])] s.heap.size = A at hD ⊢
  have hA : ∀ q : Nat, s.heap.size ≤ q → A q := fun q h => by rw [← hAe]; exact Or.inr h
  have hS : va_S A s.heap s.heap [] := va_S.rf
  have hl := lv_entry ([.ref y]) (n := 1) (Nat.le_of_ble_eq_true rfl)
  rw [show entryFrame m args 1 = entryFrame m ([.ref y] : List Value).toArray 1 by rw [hav], lg_entry_eq]
  generalize (lg_sl ([.ref y]) ++ List.replicate (1 - (lg_sl ([.ref y])).length) Slot.unset).toArray = ls at hl ⊢
  have hl : lv_has ls 1 [(0, .ref y)] := hl
  obtain ⟨R, hR⟩ : ∃ R, R = (headSpec wsX9_isKept ({ frames := 0, cells := 0, slots := 0, locals := 0 } : Room)).room := ⟨_, rfl⟩
  rw [← hR]
  generalize hQ : MQ below _ args s 0 0 A = Q
  replace hQ := hQ.symm
  obtain ⟨H, hH⟩ : ∃ H, H = s.heap := ⟨_, rfl⟩
  rw [← hH] at hP ⊢
  have hS : va_S A s.heap H [] := by rw [hH]; exact hS
  obtain ⟨E0, hE0⟩ : ∃ E0 : Bool, E0 = (fX9_isKept y_token y_word) := ⟨_, rfl⟩
  have hZ : (fX9_isKept y_token y_word) = E0 := hE0.symm
  refine lv_aload_n hx hb dX9_isKept_0 rfl (lv_at hl 0 rfl) ?_
  refine va_get (D := D) (ci := 9) (v := .int (nI y_token)) (C := RX9) (T := TX9) (N := 58) hx hb hts hi9 hown hK hP 0 rfl rfl 6 (by decide) lf167 (fun _ h9 => h9) rfl dX9_isKept_1 ?_
  refine lv_iconst (v := 1) hx hb dX9_isKept_4 (by decide) ?_
  refine lv_icmp_eq (tgt := 10) hx hb dX9_isKept_5 (by decide) (fun c_1 => ?_) (fun c_1 => ?_)
  · exact by
     have k_1 : y_token = 1 := (nI_eq (a := y_token) (b := 1) (by omega) (by omega)).mp c_1
     have hZ := (if_pos k_1).symm.trans hZ
     refine lv_aload_n hx hb dX9_isKept_10 rfl (lv_at hl 0 rfl) ?_
     refine va_get (D := D) (ci := 9) (v := .long y_word) (C := RX9) (T := TX9) (N := 58) hx hb hts hi9 hown hK hP 0 rfl rfl 7 (by decide) lf160 (fun _ h9 => h9) rfl dX9_isKept_11 ?_
     refine lv_ldc2 hx hb hown lc228 dX9_isKept_14 ?_
     refine W.lcmp hx hb dX9_isKept_17 ?_
     have hj224_2 : ∀ (s0_224 : Bool) (H : Heap) (locs : List Loc) (ls : Array Slot), (fX9_isKept_J224a s0_224 = E0) → va_P D vwCl [(y, kO 9 [.int y_thrown, .int (nI y_taped), .ref y_tape, .int (nI y_size), .int (nI y_place), .int (nI y_begin), .int (nI y_token), .long y_word, .int y_told, .int y_wrong, .ref y_supper, .ref y_guestName, .ref y_kind, .ref y_offTold, .ref y_pace, .ref y_cooks, .ref y_snow, .ref y_lineFrom, .ref y_lineTo, .ref y_codes, .int (nI y_code), .int y_toldLines, .ref y_opened, .ref y_compared, .ref y_kept, .ref y_keptBy, .ref y_ahead, .ref y_against, .ref y_sum, .ref y_sumBy, .ref y_term, .ref y_termBy, .ref y_byNot, .ref y_valueOf, .int y_given, .ref y_lines, .ref y_lineWhat, .ref y_lineA, .ref y_lineB, .ref y_seens, .ref y_seenIn, .ref y_seenYards, .ref y_seenNear, .ref y_s, .ref y_aside, .ref y_before, .ref y_marked, .ref y_undone, .ref y_isLaid, .int (nI y_done), .int y_snowNow, .int y_cameNow, .int y_cookThen, .int y_tasteThen, .ref y_places, .ref y_comesAt, .ref y_yardsIn, .long y_g])] H → va_D A [(y, kO 9 [.int y_thrown, .int (nI y_taped), .ref y_tape, .int (nI y_size), .int (nI y_place), .int (nI y_begin), .int (nI y_token), .long y_word, .int y_told, .int y_wrong, .ref y_supper, .ref y_guestName, .ref y_kind, .ref y_offTold, .ref y_pace, .ref y_cooks, .ref y_snow, .ref y_lineFrom, .ref y_lineTo, .ref y_codes, .int (nI y_code), .int y_toldLines, .ref y_opened, .ref y_compared, .ref y_kept, .ref y_keptBy, .ref y_ahead, .ref y_against, .ref y_sum, .ref y_sumBy, .ref y_term, .ref y_termBy, .ref y_byNot, .ref y_valueOf, .int y_given, .ref y_lines, .ref y_lineWhat, .ref y_lineA, .ref y_lineB, .ref y_seens, .ref y_seenIn, .ref y_seenYards, .ref y_seenNear, .ref y_s, .ref y_aside, .ref y_before, .ref y_marked, .ref y_undone, .ref y_isLaid, .int (nI y_done), .int y_snowNow, .int y_cameNow, .int y_cookThen, .int y_tasteThen, .ref y_places, .ref y_comesAt, .ref y_yardsIn, .long y_g])] → va_S A s.heap H locs → lv_has ls 1 [(0, .ref y)] → W p l e R s m args below meth c H locs 0 0 Q (F0 m 224 ls [.int (bB s0_224)]) := by
       intro s0_224 H locs ls hZ hP hD hS hl
       rw [hQ]
       have hP9 := hP.sub (ws' := [(y, kO 9 [.int y_thrown, .int (nI y_taped), .ref y_tape, .int (nI y_size), .int (nI y_place), .int (nI y_begin), .int (nI y_token), .long y_word, .int y_told, .int y_wrong, .ref y_supper, .ref y_guestName, .ref y_kind, .ref y_offTold, .ref y_pace, .ref y_cooks, .ref y_snow, .ref y_lineFrom, .ref y_lineTo, .ref y_codes, .int (nI y_code), .int y_toldLines, .ref y_opened, .ref y_compared, .ref y_kept, .ref y_keptBy, .ref y_ahead, .ref y_against, .ref y_sum, .ref y_sumBy, .ref y_term, .ref y_termBy, .ref y_byNot, .ref y_valueOf, .int y_given, .ref y_lines, .ref y_lineWhat, .ref y_lineA, .ref y_lineB, .ref y_seens, .ref y_seenIn, .ref y_seenYards, .ref y_seenNear, .ref y_s, .ref y_aside, .ref y_before, .ref y_marked, .ref y_undone, .ref y_isLaid, .int (nI y_done), .int y_snowNow, .int y_cameNow, .int y_cookThen, .int y_tasteThen, .ref y_places, .ref y_comesAt, .ref y_yardsIn, .long y_g])]) [0] rfl
       have hD9 := hD.sub (ws' := [(y, kO 9 [.int y_thrown, .int (nI y_taped), .ref y_tape, .int (nI y_size), .int (nI y_place), .int (nI y_begin), .int (nI y_token), .long y_word, .int y_told, .int y_wrong, .ref y_supper, .ref y_guestName, .ref y_kind, .ref y_offTold, .ref y_pace, .ref y_cooks, .ref y_snow, .ref y_lineFrom, .ref y_lineTo, .ref y_codes, .int (nI y_code), .int y_toldLines, .ref y_opened, .ref y_compared, .ref y_kept, .ref y_keptBy, .ref y_ahead, .ref y_against, .ref y_sum, .ref y_sumBy, .ref y_term, .ref y_termBy, .ref y_byNot, .ref y_valueOf, .int y_given, .ref y_lines, .ref y_lineWhat, .ref y_lineA, .ref y_lineB, .ref y_seens, .ref y_seenIn, .ref y_seenYards, .ref y_seenNear, .ref y_s, .ref y_aside, .ref y_before, .ref y_marked, .ref y_undone, .ref y_isLaid, .int (nI y_done), .int y_snowNow, .int y_cameNow, .int y_cookThen, .int y_tasteThen, .ref y_places, .ref y_comesAt, .ref y_yardsIn, .long y_g])]) [0] (by decide +kernel) rfl
       exact W.zret (v := (bB s0_224)) hx hb hr (narrow_bB _) (fun zt ht hW => ⟨⟨(bB s0_224), s0_224, rfl, ⟨rfl, (hZ.trans hE0)⟩, by rw [ht]; exact hP9, hD9⟩, hS.F ht⟩) hS.2.2 dX9_isKept_224
     have hj219_3 : ∀ (H : Heap) (locs : List Loc) (ls : Array Slot), (fX9_isKept_J219a = E0) → va_P D vwCl [(y, kO 9 [.int y_thrown, .int (nI y_taped), .ref y_tape, .int (nI y_size), .int (nI y_place), .int (nI y_begin), .int (nI y_token), .long y_word, .int y_told, .int y_wrong, .ref y_supper, .ref y_guestName, .ref y_kind, .ref y_offTold, .ref y_pace, .ref y_cooks, .ref y_snow, .ref y_lineFrom, .ref y_lineTo, .ref y_codes, .int (nI y_code), .int y_toldLines, .ref y_opened, .ref y_compared, .ref y_kept, .ref y_keptBy, .ref y_ahead, .ref y_against, .ref y_sum, .ref y_sumBy, .ref y_term, .ref y_termBy, .ref y_byNot, .ref y_valueOf, .int y_given, .ref y_lines, .ref y_lineWhat, .ref y_lineA, .ref y_lineB, .ref y_seens, .ref y_seenIn, .ref y_seenYards, .ref y_seenNear, .ref y_s, .ref y_aside, .ref y_before, .ref y_marked, .ref y_undone, .ref y_isLaid, .int (nI y_done), .int y_snowNow, .int y_cameNow, .int y_cookThen, .int y_tasteThen, .ref y_places, .ref y_comesAt, .ref y_yardsIn, .long y_g])] H → va_D A [(y, kO 9 [.int y_thrown, .int (nI y_taped), .ref y_tape, .int (nI y_size), .int (nI y_place), .int (nI y_begin), .int (nI y_token), .long y_word, .int y_told, .int y_wrong, .ref y_supper, .ref y_guestName, .ref y_kind, .ref y_offTold, .ref y_pace, .ref y_cooks, .ref y_snow, .ref y_lineFrom, .ref y_lineTo, .ref y_codes, .int (nI y_code), .int y_toldLines, .ref y_opened, .ref y_compared, .ref y_kept, .ref y_keptBy, .ref y_ahead, .ref y_against, .ref y_sum, .ref y_sumBy, .ref y_term, .ref y_termBy, .ref y_byNot, .ref y_valueOf, .int y_given, .ref y_lines, .ref y_lineWhat, .ref y_lineA, .ref y_lineB, .ref y_seens, .ref y_seenIn, .ref y_seenYards, .ref y_seenNear, .ref y_s, .ref y_aside, .ref y_before, .ref y_marked, .ref y_undone, .ref y_isLaid, .int (nI y_done), .int y_snowNow, .int y_cameNow, .int y_cookThen, .int y_tasteThen, .ref y_places, .ref y_comesAt, .ref y_yardsIn, .long y_g])] → va_S A s.heap H locs → lv_has ls 1 [(0, .ref y)] → W p l e R s m args below meth c H locs 0 0 Q (F0 m 219 ls []) := by
       intro H locs ls hZ hP hD hS hl
       refine lv_iconst (v := 1) hx hb dX9_isKept_219 (by decide) ?_
       refine lv_goto (tgt := 224) hx hb dX9_isKept_220 (by decide) ?_
       exact hj224_2 true _ _ _ hZ (hP.sub [0] rfl) (hD.sub [0] (by decide +kernel) rfl) hS (lv_sub hl [0] rfl)
     refine lv_if_eq (tgt := 219) hx hb dX9_isKept_18 (by decide) (fun c_4 => ?_) (fun c_4 => ?_)
     · exact by
        have hZ := (if_pos c_4).symm.trans hZ
        exact hj219_3 _ _ _ hZ (hP.sub [0] rfl) (hD.sub [0] (by decide +kernel) rfl) hS (lv_sub hl [0] rfl)
     · exact by
        have hZ := (if_neg c_4).symm.trans hZ
        refine lv_aload_n hx hb dX9_isKept_21 rfl (lv_at hl 0 rfl) ?_
        refine va_get (D := D) (ci := 9) (v := .long y_word) (C := RX9) (T := TX9) (N := 58) hx hb hts hi9 hown hK hP 0 rfl rfl 7 (by decide) lf160 (fun _ h9 => h9) rfl dX9_isKept_22 ?_
        refine lv_ldc2 hx hb hown lc230 dX9_isKept_25 ?_
        refine W.lcmp hx hb dX9_isKept_28 ?_
        refine lv_if_eq (tgt := 219) hx hb dX9_isKept_29 (by decide) (fun c_5 => ?_) (fun c_5 => ?_)
        · exact by
           have hZ := (if_pos c_5).symm.trans hZ
           exact hj219_3 _ _ _ hZ (hP.sub [0] rfl) (hD.sub [0] (by decide +kernel) rfl) hS (lv_sub hl [0] rfl)
        · exact by
           have hZ := (if_neg c_5).symm.trans hZ
           refine lv_aload_n hx hb dX9_isKept_32 rfl (lv_at hl 0 rfl) ?_
           refine va_get (D := D) (ci := 9) (v := .long y_word) (C := RX9) (T := TX9) (N := 58) hx hb hts hi9 hown hK hP 0 rfl rfl 7 (by decide) lf160 (fun _ h9 => h9) rfl dX9_isKept_33 ?_
           refine lv_ldc2 hx hb hown lc232 dX9_isKept_36 ?_
           refine W.lcmp hx hb dX9_isKept_39 ?_
           refine lv_if_eq (tgt := 219) hx hb dX9_isKept_40 (by decide) (fun c_6 => ?_) (fun c_6 => ?_)
           · exact by
              have hZ := (if_pos c_6).symm.trans hZ
              exact hj219_3 _ _ _ hZ (hP.sub [0] rfl) (hD.sub [0] (by decide +kernel) rfl) hS (lv_sub hl [0] rfl)
           · exact by
              have hZ := (if_neg c_6).symm.trans hZ
              refine lv_aload_n hx hb dX9_isKept_43 rfl (lv_at hl 0 rfl) ?_
              refine va_get (D := D) (ci := 9) (v := .long y_word) (C := RX9) (T := TX9) (N := 58) hx hb hts hi9 hown hK hP 0 rfl rfl 7 (by decide) lf160 (fun _ h9 => h9) rfl dX9_isKept_44 ?_
              refine lv_ldc2 hx hb hown lc234 dX9_isKept_47 ?_
              refine W.lcmp hx hb dX9_isKept_50 ?_
              refine lv_if_eq (tgt := 219) hx hb dX9_isKept_51 (by decide) (fun c_7 => ?_) (fun c_7 => ?_)
              · exact by
                 have hZ := (if_pos c_7).symm.trans hZ
                 exact hj219_3 _ _ _ hZ (hP.sub [0] rfl) (hD.sub [0] (by decide +kernel) rfl) hS (lv_sub hl [0] rfl)
              · exact by
                 have hZ := (if_neg c_7).symm.trans hZ
                 refine lv_aload_n hx hb dX9_isKept_54 rfl (lv_at hl 0 rfl) ?_
                 refine va_get (D := D) (ci := 9) (v := .long y_word) (C := RX9) (T := TX9) (N := 58) hx hb hts hi9 hown hK hP 0 rfl rfl 7 (by decide) lf160 (fun _ h9 => h9) rfl dX9_isKept_55 ?_
                 refine lv_ldc2 hx hb hown lc236 dX9_isKept_58 ?_
                 refine W.lcmp hx hb dX9_isKept_61 ?_
                 refine lv_if_eq (tgt := 219) hx hb dX9_isKept_62 (by decide) (fun c_8 => ?_) (fun c_8 => ?_)
                 · exact by
                    have hZ := (if_pos c_8).symm.trans hZ
                    exact hj219_3 _ _ _ hZ (hP.sub [0] rfl) (hD.sub [0] (by decide +kernel) rfl) hS (lv_sub hl [0] rfl)
                 · exact by
                    have hZ := (if_neg c_8).symm.trans hZ
                    refine lv_aload_n hx hb dX9_isKept_65 rfl (lv_at hl 0 rfl) ?_
                    refine va_get (D := D) (ci := 9) (v := .long y_word) (C := RX9) (T := TX9) (N := 58) hx hb hts hi9 hown hK hP 0 rfl rfl 7 (by decide) lf160 (fun _ h9 => h9) rfl dX9_isKept_66 ?_
                    refine lv_ldc2 hx hb hown lc238 dX9_isKept_69 ?_
                    refine W.lcmp hx hb dX9_isKept_72 ?_
                    refine lv_if_eq (tgt := 219) hx hb dX9_isKept_73 (by decide) (fun c_9 => ?_) (fun c_9 => ?_)
                    · exact by
                       have hZ := (if_pos c_9).symm.trans hZ
                       exact hj219_3 _ _ _ hZ (hP.sub [0] rfl) (hD.sub [0] (by decide +kernel) rfl) hS (lv_sub hl [0] rfl)
                    · exact by
                       have hZ := (if_neg c_9).symm.trans hZ
                       refine lv_aload_n hx hb dX9_isKept_76 rfl (lv_at hl 0 rfl) ?_
                       refine va_get (D := D) (ci := 9) (v := .long y_word) (C := RX9) (T := TX9) (N := 58) hx hb hts hi9 hown hK hP 0 rfl rfl 7 (by decide) lf160 (fun _ h9 => h9) rfl dX9_isKept_77 ?_
                       refine lv_ldc2 hx hb hown lc240 dX9_isKept_80 ?_
                       refine W.lcmp hx hb dX9_isKept_83 ?_
                       refine lv_if_eq (tgt := 219) hx hb dX9_isKept_84 (by decide) (fun c_10 => ?_) (fun c_10 => ?_)
                       · exact by
                          have hZ := (if_pos c_10).symm.trans hZ
                          exact hj219_3 _ _ _ hZ (hP.sub [0] rfl) (hD.sub [0] (by decide +kernel) rfl) hS (lv_sub hl [0] rfl)
                       · exact by
                          have hZ := (if_neg c_10).symm.trans hZ
                          refine lv_aload_n hx hb dX9_isKept_87 rfl (lv_at hl 0 rfl) ?_
                          refine va_get (D := D) (ci := 9) (v := .long y_word) (C := RX9) (T := TX9) (N := 58) hx hb hts hi9 hown hK hP 0 rfl rfl 7 (by decide) lf160 (fun _ h9 => h9) rfl dX9_isKept_88 ?_
                          refine lv_ldc2 hx hb hown lc242 dX9_isKept_91 ?_
                          refine W.lcmp hx hb dX9_isKept_94 ?_
                          refine lv_if_eq (tgt := 219) hx hb dX9_isKept_95 (by decide) (fun c_11 => ?_) (fun c_11 => ?_)
                          · exact by
                             have hZ := (if_pos c_11).symm.trans hZ
                             exact hj219_3 _ _ _ hZ (hP.sub [0] rfl) (hD.sub [0] (by decide +kernel) rfl) hS (lv_sub hl [0] rfl)
                          · exact by
                             have hZ := (if_neg c_11).symm.trans hZ
                             refine lv_aload_n hx hb dX9_isKept_98 rfl (lv_at hl 0 rfl) ?_
                             refine va_get (D := D) (ci := 9) (v := .long y_word) (C := RX9) (T := TX9) (N := 58) hx hb hts hi9 hown hK hP 0 rfl rfl 7 (by decide) lf160 (fun _ h9 => h9) rfl dX9_isKept_99 ?_
                             refine lv_ldc2 hx hb hown lc244 dX9_isKept_102 ?_
                             refine W.lcmp hx hb dX9_isKept_105 ?_
                             refine lv_if_eq (tgt := 219) hx hb dX9_isKept_106 (by decide) (fun c_12 => ?_) (fun c_12 => ?_)
                             · exact by
                                have hZ := (if_pos c_12).symm.trans hZ
                                exact hj219_3 _ _ _ hZ (hP.sub [0] rfl) (hD.sub [0] (by decide +kernel) rfl) hS (lv_sub hl [0] rfl)
                             · exact by
                                have hZ := (if_neg c_12).symm.trans hZ
                                refine lv_aload_n hx hb dX9_isKept_109 rfl (lv_at hl 0 rfl) ?_
                                refine va_get (D := D) (ci := 9) (v := .long y_word) (C := RX9) (T := TX9) (N := 58) hx hb hts hi9 hown hK hP 0 rfl rfl 7 (by decide) lf160 (fun _ h9 => h9) rfl dX9_isKept_110 ?_
                                refine lv_ldc2 hx hb hown lc246 dX9_isKept_113 ?_
                                refine W.lcmp hx hb dX9_isKept_116 ?_
                                refine lv_if_eq (tgt := 219) hx hb dX9_isKept_117 (by decide) (fun c_13 => ?_) (fun c_13 => ?_)
                                · exact by
                                   have hZ := (if_pos c_13).symm.trans hZ
                                   exact hj219_3 _ _ _ hZ (hP.sub [0] rfl) (hD.sub [0] (by decide +kernel) rfl) hS (lv_sub hl [0] rfl)
                                · exact by
                                   have hZ := (if_neg c_13).symm.trans hZ
                                   refine lv_aload_n hx hb dX9_isKept_120 rfl (lv_at hl 0 rfl) ?_
                                   refine va_get (D := D) (ci := 9) (v := .long y_word) (C := RX9) (T := TX9) (N := 58) hx hb hts hi9 hown hK hP 0 rfl rfl 7 (by decide) lf160 (fun _ h9 => h9) rfl dX9_isKept_121 ?_
                                   refine lv_ldc2 hx hb hown lc248 dX9_isKept_124 ?_
                                   refine W.lcmp hx hb dX9_isKept_127 ?_
                                   refine lv_if_eq (tgt := 219) hx hb dX9_isKept_128 (by decide) (fun c_14 => ?_) (fun c_14 => ?_)
                                   · exact by
                                      have hZ := (if_pos c_14).symm.trans hZ
                                      exact hj219_3 _ _ _ hZ (hP.sub [0] rfl) (hD.sub [0] (by decide +kernel) rfl) hS (lv_sub hl [0] rfl)
                                   · exact by
                                      have hZ := (if_neg c_14).symm.trans hZ
                                      refine lv_aload_n hx hb dX9_isKept_131 rfl (lv_at hl 0 rfl) ?_
                                      refine va_get (D := D) (ci := 9) (v := .long y_word) (C := RX9) (T := TX9) (N := 58) hx hb hts hi9 hown hK hP 0 rfl rfl 7 (by decide) lf160 (fun _ h9 => h9) rfl dX9_isKept_132 ?_
                                      refine lv_ldc2 hx hb hown lc250 dX9_isKept_135 ?_
                                      refine W.lcmp hx hb dX9_isKept_138 ?_
                                      refine lv_if_eq (tgt := 219) hx hb dX9_isKept_139 (by decide) (fun c_15 => ?_) (fun c_15 => ?_)
                                      · exact by
                                         have hZ := (if_pos c_15).symm.trans hZ
                                         exact hj219_3 _ _ _ hZ (hP.sub [0] rfl) (hD.sub [0] (by decide +kernel) rfl) hS (lv_sub hl [0] rfl)
                                      · exact by
                                         have hZ := (if_neg c_15).symm.trans hZ
                                         refine lv_aload_n hx hb dX9_isKept_142 rfl (lv_at hl 0 rfl) ?_
                                         refine va_get (D := D) (ci := 9) (v := .long y_word) (C := RX9) (T := TX9) (N := 58) hx hb hts hi9 hown hK hP 0 rfl rfl 7 (by decide) lf160 (fun _ h9 => h9) rfl dX9_isKept_143 ?_
                                         refine lv_ldc2 hx hb hown lc252 dX9_isKept_146 ?_
                                         refine W.lcmp hx hb dX9_isKept_149 ?_
                                         refine lv_if_eq (tgt := 219) hx hb dX9_isKept_150 (by decide) (fun c_16 => ?_) (fun c_16 => ?_)
                                         · exact by
                                            have hZ := (if_pos c_16).symm.trans hZ
                                            exact hj219_3 _ _ _ hZ (hP.sub [0] rfl) (hD.sub [0] (by decide +kernel) rfl) hS (lv_sub hl [0] rfl)
                                         · exact by
                                            have hZ := (if_neg c_16).symm.trans hZ
                                            refine lv_aload_n hx hb dX9_isKept_153 rfl (lv_at hl 0 rfl) ?_
                                            refine va_get (D := D) (ci := 9) (v := .long y_word) (C := RX9) (T := TX9) (N := 58) hx hb hts hi9 hown hK hP 0 rfl rfl 7 (by decide) lf160 (fun _ h9 => h9) rfl dX9_isKept_154 ?_
                                            refine lv_ldc2 hx hb hown lc254 dX9_isKept_157 ?_
                                            refine W.lcmp hx hb dX9_isKept_160 ?_
                                            refine lv_if_eq (tgt := 219) hx hb dX9_isKept_161 (by decide) (fun c_17 => ?_) (fun c_17 => ?_)
                                            · exact by
                                               have hZ := (if_pos c_17).symm.trans hZ
                                               exact hj219_3 _ _ _ hZ (hP.sub [0] rfl) (hD.sub [0] (by decide +kernel) rfl) hS (lv_sub hl [0] rfl)
                                            · exact by
                                               have hZ := (if_neg c_17).symm.trans hZ
                                               refine lv_aload_n hx hb dX9_isKept_164 rfl (lv_at hl 0 rfl) ?_
                                               refine va_get (D := D) (ci := 9) (v := .long y_word) (C := RX9) (T := TX9) (N := 58) hx hb hts hi9 hown hK hP 0 rfl rfl 7 (by decide) lf160 (fun _ h9 => h9) rfl dX9_isKept_165 ?_
                                               refine lv_ldc2 hx hb hown lc256 dX9_isKept_168 ?_
                                               refine W.lcmp hx hb dX9_isKept_171 ?_
                                               refine lv_if_eq (tgt := 219) hx hb dX9_isKept_172 (by decide) (fun c_18 => ?_) (fun c_18 => ?_)
                                               · exact by
                                                  have hZ := (if_pos c_18).symm.trans hZ
                                                  exact hj219_3 _ _ _ hZ (hP.sub [0] rfl) (hD.sub [0] (by decide +kernel) rfl) hS (lv_sub hl [0] rfl)
                                               · exact by
                                                  have hZ := (if_neg c_18).symm.trans hZ
                                                  refine lv_aload_n hx hb dX9_isKept_175 rfl (lv_at hl 0 rfl) ?_
                                                  refine va_get (D := D) (ci := 9) (v := .long y_word) (C := RX9) (T := TX9) (N := 58) hx hb hts hi9 hown hK hP 0 rfl rfl 7 (by decide) lf160 (fun _ h9 => h9) rfl dX9_isKept_176 ?_
                                                  refine lv_ldc2 hx hb hown lc258 dX9_isKept_179 ?_
                                                  refine W.lcmp hx hb dX9_isKept_182 ?_
                                                  refine lv_if_eq (tgt := 219) hx hb dX9_isKept_183 (by decide) (fun c_19 => ?_) (fun c_19 => ?_)
                                                  · exact by
                                                     have hZ := (if_pos c_19).symm.trans hZ
                                                     exact hj219_3 _ _ _ hZ (hP.sub [0] rfl) (hD.sub [0] (by decide +kernel) rfl) hS (lv_sub hl [0] rfl)
                                                  · exact by
                                                     have hZ := (if_neg c_19).symm.trans hZ
                                                     refine lv_aload_n hx hb dX9_isKept_186 rfl (lv_at hl 0 rfl) ?_
                                                     refine va_get (D := D) (ci := 9) (v := .long y_word) (C := RX9) (T := TX9) (N := 58) hx hb hts hi9 hown hK hP 0 rfl rfl 7 (by decide) lf160 (fun _ h9 => h9) rfl dX9_isKept_187 ?_
                                                     refine lv_ldc2 hx hb hown lc196 dX9_isKept_190 ?_
                                                     refine W.lcmp hx hb dX9_isKept_193 ?_
                                                     refine lv_if_eq (tgt := 219) hx hb dX9_isKept_194 (by decide) (fun c_20 => ?_) (fun c_20 => ?_)
                                                     · exact by
                                                        have hZ := (if_pos c_20).symm.trans hZ
                                                        exact hj219_3 _ _ _ hZ (hP.sub [0] rfl) (hD.sub [0] (by decide +kernel) rfl) hS (lv_sub hl [0] rfl)
                                                     · exact by
                                                        have hZ := (if_neg c_20).symm.trans hZ
                                                        refine lv_aload_n hx hb dX9_isKept_197 rfl (lv_at hl 0 rfl) ?_
                                                        refine va_get (D := D) (ci := 9) (v := .long y_word) (C := RX9) (T := TX9) (N := 58) hx hb hts hi9 hown hK hP 0 rfl rfl 7 (by decide) lf160 (fun _ h9 => h9) rfl dX9_isKept_198 ?_
                                                        refine lv_ldc2 hx hb hown lc215 dX9_isKept_201 ?_
                                                        refine W.lcmp hx hb dX9_isKept_204 ?_
                                                        refine lv_if_eq (tgt := 219) hx hb dX9_isKept_205 (by decide) (fun c_21 => ?_) (fun c_21 => ?_)
                                                        · exact by
                                                           have hZ := (if_pos c_21).symm.trans hZ
                                                           exact hj219_3 _ _ _ hZ (hP.sub [0] rfl) (hD.sub [0] (by decide +kernel) rfl) hS (lv_sub hl [0] rfl)
                                                        · exact by
                                                           have hZ := (if_neg c_21).symm.trans hZ
                                                           refine lv_aload_n hx hb dX9_isKept_208 rfl (lv_at hl 0 rfl) ?_
                                                           refine va_get (D := D) (ci := 9) (v := .long y_word) (C := RX9) (T := TX9) (N := 58) hx hb hts hi9 hown hK hP 0 rfl rfl 7 (by decide) lf160 (fun _ h9 => h9) rfl dX9_isKept_209 ?_
                                                           refine lv_ldc2 hx hb hown lc217 dX9_isKept_212 ?_
                                                           refine W.lcmp hx hb dX9_isKept_215 ?_
                                                           refine lv_if_ne (tgt := 223) hx hb dX9_isKept_216 (by decide) (fun c_22 => ?_) (fun c_22 => ?_)
                                                           · exact by
                                                              have hZ := (if_neg c_22).symm.trans hZ
                                                              refine lv_iconst (v := 0) hx hb dX9_isKept_223 (by decide) ?_
                                                              exact hj224_2 false _ _ _ hZ (hP.sub [0] rfl) (hD.sub [0] (by decide +kernel) rfl) hS (lv_sub hl [0] rfl)
                                                           · exact by
                                                              have hZ := (if_pos c_22).symm.trans hZ
                                                              exact hj219_3 _ _ _ hZ (hP.sub [0] rfl) (hD.sub [0] (by decide +kernel) rfl) hS (lv_sub hl [0] rfl)
  · exact by
     have k_1 : ¬ (y_token = 1) := fun h => c_1 ((nI_eq (a := y_token) (b := 1) (by omega) (by omega)).mpr h)
     have hZ := (if_neg k_1).symm.trans hZ
     refine lv_iconst (v := 1) hx hb dX9_isKept_8 (by decide) ?_
     rw [hQ]
     have hP9 := hP.sub (ws' := [(y, kO 9 [.int y_thrown, .int (nI y_taped), .ref y_tape, .int (nI y_size), .int (nI y_place), .int (nI y_begin), .int (nI y_token), .long y_word, .int y_told, .int y_wrong, .ref y_supper, .ref y_guestName, .ref y_kind, .ref y_offTold, .ref y_pace, .ref y_cooks, .ref y_snow, .ref y_lineFrom, .ref y_lineTo, .ref y_codes, .int (nI y_code), .int y_toldLines, .ref y_opened, .ref y_compared, .ref y_kept, .ref y_keptBy, .ref y_ahead, .ref y_against, .ref y_sum, .ref y_sumBy, .ref y_term, .ref y_termBy, .ref y_byNot, .ref y_valueOf, .int y_given, .ref y_lines, .ref y_lineWhat, .ref y_lineA, .ref y_lineB, .ref y_seens, .ref y_seenIn, .ref y_seenYards, .ref y_seenNear, .ref y_s, .ref y_aside, .ref y_before, .ref y_marked, .ref y_undone, .ref y_isLaid, .int (nI y_done), .int y_snowNow, .int y_cameNow, .int y_cookThen, .int y_tasteThen, .ref y_places, .ref y_comesAt, .ref y_yardsIn, .long y_g])]) [0] rfl
     have hD9 := hD.sub (ws' := [(y, kO 9 [.int y_thrown, .int (nI y_taped), .ref y_tape, .int (nI y_size), .int (nI y_place), .int (nI y_begin), .int (nI y_token), .long y_word, .int y_told, .int y_wrong, .ref y_supper, .ref y_guestName, .ref y_kind, .ref y_offTold, .ref y_pace, .ref y_cooks, .ref y_snow, .ref y_lineFrom, .ref y_lineTo, .ref y_codes, .int (nI y_code), .int y_toldLines, .ref y_opened, .ref y_compared, .ref y_kept, .ref y_keptBy, .ref y_ahead, .ref y_against, .ref y_sum, .ref y_sumBy, .ref y_term, .ref y_termBy, .ref y_byNot, .ref y_valueOf, .int y_given, .ref y_lines, .ref y_lineWhat, .ref y_lineA, .ref y_lineB, .ref y_seens, .ref y_seenIn, .ref y_seenYards, .ref y_seenNear, .ref y_s, .ref y_aside, .ref y_before, .ref y_marked, .ref y_undone, .ref y_isLaid, .int (nI y_done), .int y_snowNow, .int y_cameNow, .int y_cookThen, .int y_tasteThen, .ref y_places, .ref y_comesAt, .ref y_yardsIn, .long y_g])]) [0] (by decide +kernel) rfl
     exact W.zret (v := 1) hx hb hr rfl (fun zt ht hW => ⟨⟨1, true, rfl, ⟨rfl, (hZ.trans hE0)⟩, by rw [ht]; exact hP9, hD9⟩, hS.F ht⟩) hS.2.2 dX9_isKept_9
