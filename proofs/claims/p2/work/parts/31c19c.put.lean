set_option maxHeartbeats 4000000 in
set_option maxRecDepth 100000 in
theorem eX6_put (l : Launch) (D : va_G) (k : Nat → ClassId) (sz : Nat) (ta : Nat) (by_ : Int64) (ta_signs : Nat) (ta_words : Nat) (ta_length : Nat) (ta_next : Nat) (ta_place : Int32) (ta_kind : Int32) (ta_value : Int32) (ta_letters : Int64) (ta_fault : Int32) (ta_signsF : Nat → Int32) (h_ta_length : ta_length ≤ 1000) (h_ta_next : ta_next ≤ 1000) : Met l yX6_put wsX6_put ({ frames := 0, cells := 0, slots := 0, locals := 0 }) (va_Pc [.ref ta, .long by_] (kz_Pre D k [(ta, kO 6 [.ref ta_signs, .ref ta_words, .int (nI ta_length), .int (nI ta_next), .int ta_place, .int ta_kind, .int ta_value, .long ta_letters, .int ta_fault]), (ta_signs, kB k 1000 ta_signsF)] sz)) (va_Qv (fun (uu : Nat × (Nat → Int32)) => (uu.1 ≤ 1000) ∧ (uu.1 = putN by_ 8 ta_length)) (fun uu zt => kz_B D (va_A [(ta, kO 6 [.ref ta_signs, .ref ta_words, .int (nI ta_length), .int (nI ta_next), .int ta_place, .int ta_kind, .int ta_value, .long ta_letters, .int ta_fault]), (ta_signs, kB k 1000 ta_signsF)] sz) [(ta, kO 6 [.ref ta_signs, .ref ta_words, .int (nI uu.1), .int (nI ta_next), .int ta_place, .int ta_kind, .int ta_value, .long ta_letters, .int ta_fault]), (ta_signs, kB k 1000 uu.2)] zt) (va_A [(ta, kO 6 [.ref ta_signs, .ref ta_words, .int (nI ta_length), .int (nI ta_next), .int ta_place, .int ta_kind, .int ta_value, .long ta_letters, .int ta_fault]), (ta_signs, kB k 1000 ta_signsF)] sz)) 0 0 (va_A [(ta, kO 6 [.ref ta_signs, .ref ta_words, .int (nI ta_length), .int (nI ta_next), .int ta_place, .int ta_kind, .int ta_value, .long ta_letters, .int ta_fault]), (ta_signs, kB k 1000 ta_signsF)] sz) := by
  refine Met.ofW (cc := cX6_put) (maxL := 6) (ret := none) (by decide) rfl ?_
  intro p e s m args below meth c s₁ B hml hv
  obtain ⟨hav, hsz, hP, hK, hD0, hE⟩ := hv
  have hx := B.exec
  have hb := B.bytes
  have hr := B.returns
  have hts := atoms_spec (ws := wsX6_put) B.pre
  have hown : s.vm.findClass RX6 = some m.cls := findClass_of_methodNamed B.named
  have hlocks := B.notSynchronized
  have hi6 : ∀ w ∈ u_ws RX6 TX6 9, w ∈ wsX6_put := by decide +kernel
  have lc39 := hts (.constantLong RX6 39 (255)) (by decide +kernel)
  have lf41 := hts (.fieldLink RX6 41 "LastCook$Tape" "length" "I") (by decide +kernel)
  have lf11 := hts (.fieldLink RX6 11 "LastCook$Tape" "signs" "[B") (by decide +kernel)
  subst hsz
  have hD := hD0.self (sz := s.heap.size)
  generalize hAe : va_A [(ta, kO 6 [.ref ta_signs, .ref ta_words, .int (nI ta_length), .int (nI ta_next), .int ta_place, .int ta_kind, .int ta_value, .long ta_letters, .int ta_fault]), (ta_signs, kB k 1000 ta_signsF)] s.heap.size = A at hD ⊢
  have hA : ∀ q : Nat, s.heap.size ≤ q → A q := fun q h => by rw [← hAe]; exact Or.inr h
  have hS : va_S A s.heap s.heap [] := va_S.rf
  have hl := lv_entry ([.ref ta, .long by_]) (n := 6) (Nat.le_of_ble_eq_true rfl)
  rw [show entryFrame m args 6 = entryFrame m ([.ref ta, .long by_] : List Value).toArray 6 by rw [hav], lg_entry_eq]
  generalize (lg_sl ([.ref ta, .long by_]) ++ List.replicate (6 - (lg_sl ([.ref ta, .long by_])).length) Slot.unset).toArray = ls at hl ⊢
  have hl : lv_has ls 6 [(0, .ref ta), (1, .long by_)] := hl
  obtain ⟨R, hR⟩ : ∃ R, R = (headSpec wsX6_put ({ frames := 0, cells := 0, slots := 0, locals := 0 } : Room)).room := ⟨_, rfl⟩
  rw [← hR]
  generalize hQ : MQ below _ args s 0 0 A = Q
  replace hQ := hQ.symm
  obtain ⟨H, hH⟩ : ∃ H, H = s.heap := ⟨_, rfl⟩
  rw [← hH] at hP ⊢
  have hS : va_S A s.heap H [] := by rw [hH]; exact hS
  refine lv_bipush (v := 56) hx hb dX6_put_0 (by decide) ?_
  refine lv_istore_n (lv' := [(3, .int 56), (0, .ref ta), (1, .long by_)]) hx hb dX6_put_2 rfl hl (by decide) rfl (fun ls hl => ?_)
  have hloop3 : ∀ (nq : Nat) (l3_3 : Int32) (fta_2_3 : Nat) (ata_signs_3 : Nat → Int32) (rq : Nat) (H : Heap) (locs : List Loc) (ls : Array Slot), (Int32.toInt l3_3 - ((-8)) + 1).toNat < nq → ((-8) ≤ Int32.toInt l3_3 ∧ Int32.toInt l3_3 ≤ 56) → (fta_2_3 ≤ 1000) → (rq ≤ 8) → (Int32.toInt l3_3 = 8 * (rq : Int) - 8) → (putN by_ rq fta_2_3 = putN by_ 8 ta_length) → va_P D vwCl [(ta, kO 6 [.ref ta_signs, .ref ta_words, .int (nI fta_2_3), .int (nI ta_next), .int ta_place, .int ta_kind, .int ta_value, .long ta_letters, .int ta_fault]), (ta_signs, kB k 1000 ata_signs_3)] H → va_D A [(ta, kO 6 [.ref ta_signs, .ref ta_words, .int (nI fta_2_3), .int (nI ta_next), .int ta_place, .int ta_kind, .int ta_value, .long ta_letters, .int ta_fault]), (ta_signs, kB k 1000 ata_signs_3)] → va_S A s.heap H locs → lv_has ls 6 [(0, .ref ta), (1, .long by_), (3, .int l3_3)] → W p l e R s m args below meth c H locs 0 0 Q (F0 m 3 ls []) := by
    intro n3
    induction n3 with
    | zero => intro l3_3 fta_2_3 ata_signs_3 rq H locs ls hm; exact absurd hm (Nat.not_lt_zero _)
    | succ n3 ih3 =>
      intro l3_3 fta_2_3 ata_signs_3 rq H locs ls hm3 i_l3_3 i_fta_2_3 v3_0 v3_1 v3_2 hP hD hS hl
      refine lv_iload_n hx hb dX6_put_3 rfl (lv_at hl 2 rfl) ?_
      refine lv_if_lt (tgt := 90) hx hb dX6_put_4 (by decide) (fun c_1 => ?_) (fun c_1 => ?_)
      · skip
        have t_1 : (Int32.toInt l3_3) < 0 := tI_lt rfl (by decide) c_1
        rw [hQ]
        have hP9 := hP.sub (ws' := [(ta, kO 6 [.ref ta_signs, .ref ta_words, .int (nI fta_2_3), .int (nI ta_next), .int ta_place, .int ta_kind, .int ta_value, .long ta_letters, .int ta_fault]), (ta_signs, kB k 1000 ata_signs_3)]) [0, 1] rfl
        have hD9 := hD.sub (ws' := [(ta, kO 6 [.ref ta_signs, .ref ta_words, .int (nI fta_2_3), .int (nI ta_next), .int ta_place, .int ta_kind, .int ta_value, .long ta_letters, .int ta_fault]), (ta_signs, kB k 1000 ata_signs_3)]) [0, 1] (by decide) rfl
        exact W.vret hx hb hr (fun zt ht hW => ⟨⟨⟨fta_2_3, ata_signs_3⟩, rfl, ⟨(by first | omega | (dsimp only; omega) | assumption), (put_end v3_2 (by omega))⟩, by rw [ht]; exact hP9, hD9⟩, hS.F ht⟩) hS.2.2 dX6_put_90
      · skip
        have t_1 : (Int32.toInt l3_3) ≥ 0 := tI_nlt rfl (by decide) c_1
        refine lv_lload_n hx hb dX6_put_7 rfl (lv_at hl 1 rfl) ?_
        refine lv_iload_n hx hb dX6_put_8 rfl (lv_at hl 2 rfl) ?_
        refine lv_lushr hx hb dX6_put_9 rfl ?_
        refine lv_ldc2 hx hb hown lc39 dX6_put_10 ?_
        refine lv_land hx hb dX6_put_13 ?_
        refine lv_l2i hx hb dX6_put_14 rfl ?_
        refine lv_topi (fun sg2 es2 => ?_)
        refine lv_istore (lv' := [(4, .int sg2), (0, .ref ta), (1, .long by_), (3, .int l3_3)]) hx hb dX6_put_15 hl (by decide) rfl (fun ls hl => ?_)
        refine lv_iload hx hb dX6_put_17 (lv_at hl 0 rfl) ?_
        refine lv_bipush (v := 10) hx hb dX6_put_19 (by decide) ?_
        refine lv_icmp_eq (tgt := 38) hx hb dX6_put_21 (by decide) (fun c_3 => ?_) (fun c_3 => ?_)
        · skip
          have t_3 : (Int32.toInt sg2) = 10 := tI_eq rfl (by decide) c_3
          refine lv_iconst (v := 1) hx hb dX6_put_38 (by decide) ?_
          refine lv_goto (tgt := 43) hx hb dX6_put_39 (by decide) ?_
          refine lv_istore (lv' := [(5, .int 1), (4, .int sg2), (0, .ref ta), (1, .long by_), (3, .int l3_3)]) hx hb dX6_put_43 hl (by decide) rfl (fun ls hl => ?_)
          refine lv_iload hx hb dX6_put_45 (lv_at hl 0 rfl) ?_
          have hj84_4 : ∀ (fta_2_84 : Nat) (ata_signs_84 : Nat → Int32) (H : Heap) (locs : List Loc) (ls : Array Slot), (fta_2_84 ≤ 1000) → (I9_nx fta_2_84 by_ l3_3 fta_2_3) → va_P D vwCl [(ta, kO 6 [.ref ta_signs, .ref ta_words, .int (nI fta_2_84), .int (nI ta_next), .int ta_place, .int ta_kind, .int ta_value, .long ta_letters, .int ta_fault]), (ta_signs, kB k 1000 ata_signs_84)] H → va_D A [(ta, kO 6 [.ref ta_signs, .ref ta_words, .int (nI fta_2_84), .int (nI ta_next), .int ta_place, .int ta_kind, .int ta_value, .long ta_letters, .int ta_fault]), (ta_signs, kB k 1000 ata_signs_84)] → va_S A s.heap H locs → lv_has ls 6 [(0, .ref ta), (1, .long by_), (3, .int l3_3), (4, .int sg2), (5, .int 1)] → W p l e R s m args below meth c H locs 0 0 Q (F0 m 84 ls []) := by
            intro fta_2_84 ata_signs_84 H locs ls i_fta_2_84 v84_0 hP hD hS hl
            refine lv_iinc (v := (l3_3 + (-8))) (lv' := [(3, .int (l3_3 + (-8))), (0, .ref ta), (1, .long by_), (4, .int sg2), (5, .int 1)]) hx hb dX6_put_84 hl (k := 2) rfl rfl (by decide) rfl (fun ls hl => ?_)
            have ta_5 : Int32.toInt (l3_3 + (-8)) = (Int32.toInt l3_3) + (-8) := tI_add rfl (by decide) (by omega) (by omega)
            refine lv_goto (tgt := 3) hx hb dX6_put_87 (by decide) ?_
            exact ih3 (l3_3 + (-8)) fta_2_84 ata_signs_84 (rq - 1) _ _ _ (bk8 ta_5 t_1 hm3) (bk8b ta_5 t_1 i_l3_3) i_fta_2_84 (Nat.le_trans (Nat.sub_le _ _) v3_0) (bk8c ta_5 t_1 v3_1) (put_step v3_2 (bk8d t_1 v3_1) v3_0 v3_1 v84_0) (hP.sub [0, 1] rfl) (hD.sub [0, 1] (by decide) rfl) hS (lv_sub hl [1, 2, 0] rfl)
          refine lv_if_eq (tgt := 84) hx hb dX6_put_47 (by decide) (fun c_7 => absurd c_7 (by decide)) (fun c_7 => ?_)
          refine lv_aload_n hx hb dX6_put_50 rfl (lv_at hl 2 rfl) ?_
          refine va_get (D := D) (ci := 6) (v := .int (nI fta_2_3)) (C := RX6) (T := TX6) (N := 9) hx hb hts hi6 hown hK hP 0 rfl rfl 2 (by decide) lf41 (fun _ h9 => h9) rfl dX6_put_51 ?_
          refine lv_aload_n hx hb dX6_put_54 rfl (lv_at hl 2 rfl) ?_
          refine va_get (D := D) (ci := 6) (v := .ref ta_signs) (C := RX6) (T := TX6) (N := 9) hx hb hts hi6 hown hK hP 0 rfl rfl 0 (by decide) lf11 (fun _ h9 => h9) rfl dX6_put_55 ?_
          refine va_alen (v := 1000) hx hb hK hP 1 2 rfl rfl rfl dX6_put_58 ?_
          refine lv_icmp_ge (tgt := 84) hx hb dX6_put_59 (by decide) (fun c_8 => ?_) (fun c_8 => ?_)
          · skip
            have k_8 : 1000 ≤ fta_2_3 := (nI_leI (a := 1000) (b := fta_2_3) (by omega) (by omega)).mp c_8
            exact hj84_4 fta_2_3 ata_signs_3 _ _ _ (by first | omega | assumption) (by first | exact nx_tv es2 (by omega) (by omega) | exact nx_f2 (by omega) | exact nx_f1v es2 (by omega)) (hP.sub [0, 1] rfl) (hD.sub [0, 1] (by decide) rfl) hS (lv_sub hl [2, 3, 4, 1, 0] rfl)
          · skip
            have k_8 : ¬ (1000 ≤ fta_2_3) := fun h => c_8 ((nI_leI (a := 1000) (b := fta_2_3) (by omega) (by omega)).mpr h)
            refine lv_aload_n hx hb dX6_put_62 rfl (lv_at hl 2 rfl) ?_
            refine va_get (D := D) (ci := 6) (v := .ref ta_signs) (C := RX6) (T := TX6) (N := 9) hx hb hts hi6 hown hK hP 0 rfl rfl 0 (by decide) lf11 (fun _ h9 => h9) rfl dX6_put_63 ?_
            refine lv_aload_n hx hb dX6_put_66 rfl (lv_at hl 2 rfl) ?_
            refine va_get (D := D) (ci := 6) (v := .int (nI fta_2_3)) (C := RX6) (T := TX6) (N := 9) hx hb hts hi6 hown hK hP 0 rfl rfl 2 (by decide) lf41 (fun _ h9 => h9) rfl dX6_put_67 ?_
            refine lv_iload hx hb dX6_put_70 (lv_at hl 1 rfl) ?_
            refine lv_i2b hx hb dX6_put_72 rfl ?_
            refine va_bast hx hb hK hP hD hS 1 2 rfl rfl (vp_in_nI (n := fta_2_3) (by omega) (by omega)) dX6_put_73 (fun H locs hP hD hS => ?_)
            have hP : va_P D vwCl [(ta, kO 6 [.ref ta_signs, .ref ta_words, .int (nI fta_2_3), .int (nI ta_next), .int ta_place, .int ta_kind, .int ta_value, .long ta_letters, .int ta_fault]), (ta_signs, kB k 1000 (upd ata_signs_3 (Int32.toNatClampNeg (nI fta_2_3)) (vp_nar .byte sg2.toInt8.toInt32)))] H := hP
            have hD : va_D A [(ta, kO 6 [.ref ta_signs, .ref ta_words, .int (nI fta_2_3), .int (nI ta_next), .int ta_place, .int ta_kind, .int ta_value, .long ta_letters, .int ta_fault]), (ta_signs, kB k 1000 (upd ata_signs_3 (Int32.toNatClampNeg (nI fta_2_3)) (vp_nar .byte sg2.toInt8.toInt32)))] := hD
            refine lv_aload_n hx hb dX6_put_74 rfl (lv_at hl 2 rfl) ?_
            refine lv_dup hx hb dX6_put_75 rfl ?_
            refine va_get (D := D) (ci := 6) (v := .int (nI fta_2_3)) (C := RX6) (T := TX6) (N := 9) hx hb hts hi6 hown hK hP 0 rfl rfl 2 (by decide) lf41 (fun _ h9 => h9) rfl dX6_put_76 ?_
            refine lv_iconst (v := 1) hx hb dX6_put_79 (by decide) ?_
            refine lv_iadd hx hb dX6_put_80 ?_
            refine lv_topi (fun x9 ex9 => ?_)
            obtain rfl : x9 = (nI (fta_2_3 + 1)) := ex9.trans (nI_add fta_2_3 1)
            refine va_put (D := D) (ci := 6) (v := .int (nI (fta_2_3 + 1))) (ty := .int) (C := RX6) (T := TX6) (N := 9) hx hb hts hi6 tyX6 tyX6_ok nmX6 hown hK hP hD hS 0 rfl rfl 2 (by decide) lf41 (fun _ h9 => h9) rfl (by decide +kernel) rfl rfl (Nat.le_of_ble_eq_true rfl) dX6_put_81 (fun H locs hP hD hS => ?_)
            have hP : va_P D vwCl [(ta, kO 6 [.ref ta_signs, .ref ta_words, .int (nI (fta_2_3 + 1)), .int (nI ta_next), .int ta_place, .int ta_kind, .int ta_value, .long ta_letters, .int ta_fault]), (ta_signs, kB k 1000 (upd ata_signs_3 (Int32.toNatClampNeg (nI fta_2_3)) (vp_nar .byte sg2.toInt8.toInt32)))] H := hP
            have hD : va_D A [(ta, kO 6 [.ref ta_signs, .ref ta_words, .int (nI (fta_2_3 + 1)), .int (nI ta_next), .int ta_place, .int ta_kind, .int ta_value, .long ta_letters, .int ta_fault]), (ta_signs, kB k 1000 (upd ata_signs_3 (Int32.toNatClampNeg (nI fta_2_3)) (vp_nar .byte sg2.toInt8.toInt32)))] := hD
            exact hj84_4 (fta_2_3 + 1) (upd ata_signs_3 (Int32.toNatClampNeg (nI fta_2_3)) (vp_nar .byte sg2.toInt8.toInt32)) _ _ _ (by first | omega | assumption) (by first | exact nx_tv es2 (by omega) (by omega) | exact nx_f2 (by omega) | exact nx_f1v es2 (by omega)) (hP.sub [0, 1] rfl) (hD.sub [0, 1] (by decide) rfl) hS (lv_sub hl [2, 3, 4, 1, 0] rfl)
        · skip
          have t_3 : (Int32.toInt sg2) ≠ 10 := tI_ne rfl (by decide) c_3
          refine lv_iload hx hb dX6_put_24 (lv_at hl 0 rfl) ?_
          refine lv_bipush (v := 32) hx hb dX6_put_26 (by decide) ?_
          refine lv_icmp_lt (tgt := 42) hx hb dX6_put_28 (by decide) (fun c_10 => ?_) (fun c_10 => ?_)
          · skip
            have t_10 : (Int32.toInt sg2) < 32 := tI_lt rfl (by decide) c_10
            refine lv_iconst (v := 0) hx hb dX6_put_42 (by decide) ?_
            refine lv_istore (lv' := [(5, .int 0), (4, .int sg2), (0, .ref ta), (1, .long by_), (3, .int l3_3)]) hx hb dX6_put_43 hl (by decide) rfl (fun ls hl => ?_)
            refine lv_iload hx hb dX6_put_45 (lv_at hl 0 rfl) ?_
            have hj84_11 : ∀ (fta_2_84 : Nat) (ata_signs_84 : Nat → Int32) (H : Heap) (locs : List Loc) (ls : Array Slot), (fta_2_84 ≤ 1000) → (I9_nx fta_2_84 by_ l3_3 fta_2_3) → va_P D vwCl [(ta, kO 6 [.ref ta_signs, .ref ta_words, .int (nI fta_2_84), .int (nI ta_next), .int ta_place, .int ta_kind, .int ta_value, .long ta_letters, .int ta_fault]), (ta_signs, kB k 1000 ata_signs_84)] H → va_D A [(ta, kO 6 [.ref ta_signs, .ref ta_words, .int (nI fta_2_84), .int (nI ta_next), .int ta_place, .int ta_kind, .int ta_value, .long ta_letters, .int ta_fault]), (ta_signs, kB k 1000 ata_signs_84)] → va_S A s.heap H locs → lv_has ls 6 [(0, .ref ta), (1, .long by_), (3, .int l3_3), (4, .int sg2), (5, .int 0)] → W p l e R s m args below meth c H locs 0 0 Q (F0 m 84 ls []) := by
              intro fta_2_84 ata_signs_84 H locs ls i_fta_2_84 v84_0 hP hD hS hl
              refine lv_iinc (v := (l3_3 + (-8))) (lv' := [(3, .int (l3_3 + (-8))), (0, .ref ta), (1, .long by_), (4, .int sg2), (5, .int 0)]) hx hb dX6_put_84 hl (k := 2) rfl rfl (by decide) rfl (fun ls hl => ?_)
              have ta_12 : Int32.toInt (l3_3 + (-8)) = (Int32.toInt l3_3) + (-8) := tI_add rfl (by decide) (by omega) (by omega)
              refine lv_goto (tgt := 3) hx hb dX6_put_87 (by decide) ?_
              exact ih3 (l3_3 + (-8)) fta_2_84 ata_signs_84 (rq - 1) _ _ _ (bk8 ta_12 t_1 hm3) (bk8b ta_12 t_1 i_l3_3) i_fta_2_84 (Nat.le_trans (Nat.sub_le _ _) v3_0) (bk8c ta_12 t_1 v3_1) (put_step v3_2 (bk8d t_1 v3_1) v3_0 v3_1 v84_0) (hP.sub [0, 1] rfl) (hD.sub [0, 1] (by decide) rfl) hS (lv_sub hl [1, 2, 0] rfl)
            refine lv_if_eq (tgt := 84) hx hb dX6_put_47 (by decide) (fun c_14 => ?_) (fun c_14 => absurd (by decide) c_14)
            exact hj84_11 fta_2_3 ata_signs_3 _ _ _ (by first | omega | assumption) (by first | exact nx_tv es2 (by omega) (by omega) | exact nx_f2 (by omega) | exact nx_f1v es2 (by omega)) (hP.sub [0, 1] rfl) (hD.sub [0, 1] (by decide) rfl) hS (lv_sub hl [2, 3, 4, 1, 0] rfl)
          · skip
            have t_10 : (Int32.toInt sg2) ≥ 32 := tI_nlt rfl (by decide) c_10
            refine lv_iload hx hb dX6_put_31 (lv_at hl 0 rfl) ?_
            refine lv_bipush (v := 126) hx hb dX6_put_33 (by decide) ?_
            refine lv_icmp_gt (tgt := 42) hx hb dX6_put_35 (by decide) (fun c_15 => ?_) (fun c_15 => ?_)
            · skip
              have t_15 : 126 < (Int32.toInt sg2) := tI_lt (by decide) rfl c_15
              refine lv_iconst (v := 0) hx hb dX6_put_42 (by decide) ?_
              refine lv_istore (lv' := [(5, .int 0), (4, .int sg2), (0, .ref ta), (1, .long by_), (3, .int l3_3)]) hx hb dX6_put_43 hl (by decide) rfl (fun ls hl => ?_)
              refine lv_iload hx hb dX6_put_45 (lv_at hl 0 rfl) ?_
              have hj84_16 : ∀ (fta_2_84 : Nat) (ata_signs_84 : Nat → Int32) (H : Heap) (locs : List Loc) (ls : Array Slot), (fta_2_84 ≤ 1000) → (I9_nx fta_2_84 by_ l3_3 fta_2_3) → va_P D vwCl [(ta, kO 6 [.ref ta_signs, .ref ta_words, .int (nI fta_2_84), .int (nI ta_next), .int ta_place, .int ta_kind, .int ta_value, .long ta_letters, .int ta_fault]), (ta_signs, kB k 1000 ata_signs_84)] H → va_D A [(ta, kO 6 [.ref ta_signs, .ref ta_words, .int (nI fta_2_84), .int (nI ta_next), .int ta_place, .int ta_kind, .int ta_value, .long ta_letters, .int ta_fault]), (ta_signs, kB k 1000 ata_signs_84)] → va_S A s.heap H locs → lv_has ls 6 [(0, .ref ta), (1, .long by_), (3, .int l3_3), (4, .int sg2), (5, .int 0)] → W p l e R s m args below meth c H locs 0 0 Q (F0 m 84 ls []) := by
                intro fta_2_84 ata_signs_84 H locs ls i_fta_2_84 v84_0 hP hD hS hl
                refine lv_iinc (v := (l3_3 + (-8))) (lv' := [(3, .int (l3_3 + (-8))), (0, .ref ta), (1, .long by_), (4, .int sg2), (5, .int 0)]) hx hb dX6_put_84 hl (k := 2) rfl rfl (by decide) rfl (fun ls hl => ?_)
                have ta_17 : Int32.toInt (l3_3 + (-8)) = (Int32.toInt l3_3) + (-8) := tI_add rfl (by decide) (by omega) (by omega)
                refine lv_goto (tgt := 3) hx hb dX6_put_87 (by decide) ?_
                exact ih3 (l3_3 + (-8)) fta_2_84 ata_signs_84 (rq - 1) _ _ _ (bk8 ta_17 t_1 hm3) (bk8b ta_17 t_1 i_l3_3) i_fta_2_84 (Nat.le_trans (Nat.sub_le _ _) v3_0) (bk8c ta_17 t_1 v3_1) (put_step v3_2 (bk8d t_1 v3_1) v3_0 v3_1 v84_0) (hP.sub [0, 1] rfl) (hD.sub [0, 1] (by decide) rfl) hS (lv_sub hl [1, 2, 0] rfl)
              refine lv_if_eq (tgt := 84) hx hb dX6_put_47 (by decide) (fun c_19 => ?_) (fun c_19 => absurd (by decide) c_19)
              exact hj84_16 fta_2_3 ata_signs_3 _ _ _ (by first | omega | assumption) (by first | exact nx_tv es2 (by omega) (by omega) | exact nx_f2 (by omega) | exact nx_f1v es2 (by omega)) (hP.sub [0, 1] rfl) (hD.sub [0, 1] (by decide) rfl) hS (lv_sub hl [2, 3, 4, 1, 0] rfl)
            · skip
              have t_15 : 126 ≥ (Int32.toInt sg2) := tI_nlt (by decide) rfl c_15
              refine lv_iconst (v := 1) hx hb dX6_put_38 (by decide) ?_
              refine lv_goto (tgt := 43) hx hb dX6_put_39 (by decide) ?_
              refine lv_istore (lv' := [(5, .int 1), (4, .int sg2), (0, .ref ta), (1, .long by_), (3, .int l3_3)]) hx hb dX6_put_43 hl (by decide) rfl (fun ls hl => ?_)
              refine lv_iload hx hb dX6_put_45 (lv_at hl 0 rfl) ?_
              have hj84_20 : ∀ (fta_2_84 : Nat) (ata_signs_84 : Nat → Int32) (H : Heap) (locs : List Loc) (ls : Array Slot), (fta_2_84 ≤ 1000) → (I9_nx fta_2_84 by_ l3_3 fta_2_3) → va_P D vwCl [(ta, kO 6 [.ref ta_signs, .ref ta_words, .int (nI fta_2_84), .int (nI ta_next), .int ta_place, .int ta_kind, .int ta_value, .long ta_letters, .int ta_fault]), (ta_signs, kB k 1000 ata_signs_84)] H → va_D A [(ta, kO 6 [.ref ta_signs, .ref ta_words, .int (nI fta_2_84), .int (nI ta_next), .int ta_place, .int ta_kind, .int ta_value, .long ta_letters, .int ta_fault]), (ta_signs, kB k 1000 ata_signs_84)] → va_S A s.heap H locs → lv_has ls 6 [(0, .ref ta), (1, .long by_), (3, .int l3_3), (4, .int sg2), (5, .int 1)] → W p l e R s m args below meth c H locs 0 0 Q (F0 m 84 ls []) := by
                intro fta_2_84 ata_signs_84 H locs ls i_fta_2_84 v84_0 hP hD hS hl
                refine lv_iinc (v := (l3_3 + (-8))) (lv' := [(3, .int (l3_3 + (-8))), (0, .ref ta), (1, .long by_), (4, .int sg2), (5, .int 1)]) hx hb dX6_put_84 hl (k := 2) rfl rfl (by decide) rfl (fun ls hl => ?_)
                have ta_21 : Int32.toInt (l3_3 + (-8)) = (Int32.toInt l3_3) + (-8) := tI_add rfl (by decide) (by omega) (by omega)
                refine lv_goto (tgt := 3) hx hb dX6_put_87 (by decide) ?_
                exact ih3 (l3_3 + (-8)) fta_2_84 ata_signs_84 (rq - 1) _ _ _ (bk8 ta_21 t_1 hm3) (bk8b ta_21 t_1 i_l3_3) i_fta_2_84 (Nat.le_trans (Nat.sub_le _ _) v3_0) (bk8c ta_21 t_1 v3_1) (put_step v3_2 (bk8d t_1 v3_1) v3_0 v3_1 v84_0) (hP.sub [0, 1] rfl) (hD.sub [0, 1] (by decide) rfl) hS (lv_sub hl [1, 2, 0] rfl)
              refine lv_if_eq (tgt := 84) hx hb dX6_put_47 (by decide) (fun c_23 => absurd c_23 (by decide)) (fun c_23 => ?_)
              refine lv_aload_n hx hb dX6_put_50 rfl (lv_at hl 2 rfl) ?_
              refine va_get (D := D) (ci := 6) (v := .int (nI fta_2_3)) (C := RX6) (T := TX6) (N := 9) hx hb hts hi6 hown hK hP 0 rfl rfl 2 (by decide) lf41 (fun _ h9 => h9) rfl dX6_put_51 ?_
              refine lv_aload_n hx hb dX6_put_54 rfl (lv_at hl 2 rfl) ?_
              refine va_get (D := D) (ci := 6) (v := .ref ta_signs) (C := RX6) (T := TX6) (N := 9) hx hb hts hi6 hown hK hP 0 rfl rfl 0 (by decide) lf11 (fun _ h9 => h9) rfl dX6_put_55 ?_
              refine va_alen (v := 1000) hx hb hK hP 1 2 rfl rfl rfl dX6_put_58 ?_
              refine lv_icmp_ge (tgt := 84) hx hb dX6_put_59 (by decide) (fun c_24 => ?_) (fun c_24 => ?_)
              · skip
                have k_24 : 1000 ≤ fta_2_3 := (nI_leI (a := 1000) (b := fta_2_3) (by omega) (by omega)).mp c_24
                exact hj84_20 fta_2_3 ata_signs_3 _ _ _ (by first | omega | assumption) (by first | exact nx_tv es2 (by omega) (by omega) | exact nx_f2 (by omega) | exact nx_f1v es2 (by omega)) (hP.sub [0, 1] rfl) (hD.sub [0, 1] (by decide) rfl) hS (lv_sub hl [2, 3, 4, 1, 0] rfl)
              · skip
                have k_24 : ¬ (1000 ≤ fta_2_3) := fun h => c_24 ((nI_leI (a := 1000) (b := fta_2_3) (by omega) (by omega)).mpr h)
                refine lv_aload_n hx hb dX6_put_62 rfl (lv_at hl 2 rfl) ?_
                refine va_get (D := D) (ci := 6) (v := .ref ta_signs) (C := RX6) (T := TX6) (N := 9) hx hb hts hi6 hown hK hP 0 rfl rfl 0 (by decide) lf11 (fun _ h9 => h9) rfl dX6_put_63 ?_
                refine lv_aload_n hx hb dX6_put_66 rfl (lv_at hl 2 rfl) ?_
                refine va_get (D := D) (ci := 6) (v := .int (nI fta_2_3)) (C := RX6) (T := TX6) (N := 9) hx hb hts hi6 hown hK hP 0 rfl rfl 2 (by decide) lf41 (fun _ h9 => h9) rfl dX6_put_67 ?_
                refine lv_iload hx hb dX6_put_70 (lv_at hl 1 rfl) ?_
                refine lv_i2b hx hb dX6_put_72 rfl ?_
                refine va_bast hx hb hK hP hD hS 1 2 rfl rfl (vp_in_nI (n := fta_2_3) (by omega) (by omega)) dX6_put_73 (fun H locs hP hD hS => ?_)
                have hP : va_P D vwCl [(ta, kO 6 [.ref ta_signs, .ref ta_words, .int (nI fta_2_3), .int (nI ta_next), .int ta_place, .int ta_kind, .int ta_value, .long ta_letters, .int ta_fault]), (ta_signs, kB k 1000 (upd ata_signs_3 (Int32.toNatClampNeg (nI fta_2_3)) (vp_nar .byte sg2.toInt8.toInt32)))] H := hP
                have hD : va_D A [(ta, kO 6 [.ref ta_signs, .ref ta_words, .int (nI fta_2_3), .int (nI ta_next), .int ta_place, .int ta_kind, .int ta_value, .long ta_letters, .int ta_fault]), (ta_signs, kB k 1000 (upd ata_signs_3 (Int32.toNatClampNeg (nI fta_2_3)) (vp_nar .byte sg2.toInt8.toInt32)))] := hD
                refine lv_aload_n hx hb dX6_put_74 rfl (lv_at hl 2 rfl) ?_
                refine lv_dup hx hb dX6_put_75 rfl ?_
                refine va_get (D := D) (ci := 6) (v := .int (nI fta_2_3)) (C := RX6) (T := TX6) (N := 9) hx hb hts hi6 hown hK hP 0 rfl rfl 2 (by decide) lf41 (fun _ h9 => h9) rfl dX6_put_76 ?_
                refine lv_iconst (v := 1) hx hb dX6_put_79 (by decide) ?_
                refine lv_iadd hx hb dX6_put_80 ?_
                refine lv_topi (fun x25 ex25 => ?_)
                obtain rfl : x25 = (nI (fta_2_3 + 1)) := ex25.trans (nI_add fta_2_3 1)
                refine va_put (D := D) (ci := 6) (v := .int (nI (fta_2_3 + 1))) (ty := .int) (C := RX6) (T := TX6) (N := 9) hx hb hts hi6 tyX6 tyX6_ok nmX6 hown hK hP hD hS 0 rfl rfl 2 (by decide) lf41 (fun _ h9 => h9) rfl (by decide +kernel) rfl rfl (Nat.le_of_ble_eq_true rfl) dX6_put_81 (fun H locs hP hD hS => ?_)
                have hP : va_P D vwCl [(ta, kO 6 [.ref ta_signs, .ref ta_words, .int (nI (fta_2_3 + 1)), .int (nI ta_next), .int ta_place, .int ta_kind, .int ta_value, .long ta_letters, .int ta_fault]), (ta_signs, kB k 1000 (upd ata_signs_3 (Int32.toNatClampNeg (nI fta_2_3)) (vp_nar .byte sg2.toInt8.toInt32)))] H := hP
                have hD : va_D A [(ta, kO 6 [.ref ta_signs, .ref ta_words, .int (nI (fta_2_3 + 1)), .int (nI ta_next), .int ta_place, .int ta_kind, .int ta_value, .long ta_letters, .int ta_fault]), (ta_signs, kB k 1000 (upd ata_signs_3 (Int32.toNatClampNeg (nI fta_2_3)) (vp_nar .byte sg2.toInt8.toInt32)))] := hD
                exact hj84_20 (fta_2_3 + 1) (upd ata_signs_3 (Int32.toNatClampNeg (nI fta_2_3)) (vp_nar .byte sg2.toInt8.toInt32)) _ _ _ (by first | omega | assumption) (by first | exact nx_tv es2 (by omega) (by omega) | exact nx_f2 (by omega) | exact nx_f1v es2 (by omega)) (hP.sub [0, 1] rfl) (hD.sub [0, 1] (by decide) rfl) hS (lv_sub hl [2, 3, 4, 1, 0] rfl)
  have tq26 : Int32.toInt 56 = 56 := by decide
  exact hloop3 (((Int32.toInt (56 : Int32) - ((-8)) + 1).toNat) + 1) (56 : Int32) ta_length ta_signsF 8 _ _ _ (Nat.lt_succ_self _) (by decide) h_ta_length (by decide) (by decide) rfl (hP.sub [0, 1] rfl) (hD.sub [0, 1] (by decide) rfl) hS (lv_sub hl [1, 2, 0] rfl)
