set_option maxHeartbeats 4000000 in
set_option maxRecDepth 100000 in
theorem eX6_put (l : Launch) (D : va_G) (k : Nat → ClassId) (sz : Nat) (ta : Nat) (by_ : Int64) (ta_signs : Nat) (ta_words : Nat) (ta_length : Nat) (ta_next : Nat) (ta_place : Int32) (ta_kind : Int32) (ta_value : Int32) (ta_letters : Int64) (ta_fault : Int32) (ta_signsF : Nat → Int32) (h_ta_length : ta_length ≤ 1000) (h_ta_next : ta_next ≤ 1000) : Met l yX6_put wsX6_put ({ frames := 0, cells := 0, slots := 0, locals := 0 }) (va_Pc [.ref ta, .long by_] (kz_Pre D k [(ta, kO 6 [.ref ta_signs, .ref ta_words, .int (nI ta_length), .int (nI ta_next), .int ta_place, .int ta_kind, .int ta_value, .long ta_letters, .int ta_fault]), (ta_signs, kB k 1000 ta_signsF)] sz)) (va_Qv (fun (uu : Nat × (Nat → Int32)) => (uu.1 ≤ 1000) ∧ (uu.1 = putN by_ 8 ta_length)) (fun uu zt => kz_B D (va_A [(ta, kO 6 [.ref ta_signs, .ref ta_words, .int (nI ta_length), .int (nI ta_next), .int ta_place, .int ta_kind, .int ta_value, .long ta_letters, .int ta_fault]), (ta_signs, kB k 1000 ta_signsF)] sz) [(ta, kO 6 [.ref ta_signs, .ref ta_words, .int (nI uu.1), .int (nI ta_next), .int ta_place, .int ta_kind, .int ta_value, .long ta_letters, .int ta_fault]), (ta_signs, kB k 1000 uu.2)] zt) (va_A [(ta, kO 6 [.ref ta_signs, .ref ta_words, .int (nI ta_length), .int (nI ta_next), .int ta_place, .int ta_kind, .int ta_value, .long ta_letters, .int ta_fault]), (ta_signs, kB k 1000 ta_signsF)] sz)) 0 0 (va_A [(ta, kO 6 [.ref ta_signs, .ref ta_words, .int (nI ta_length), .int (nI ta_next), .int ta_place, .int ta_kind, .int ta_value, .long ta_letters, .int ta_fault]), (ta_signs, kB k 1000 ta_signsF)] sz) := by
  refine Met.ofW (cc := cX6_put) (maxL := 6) (ret := none) (by decide) rfl ?_
  intro p e s m args below meth c s₁ B hml hv
  obtain ⟨hav, hsz, hP, hK, hD0, hE⟩ := hv
  have hx := B.exec
  have hb := B.bytes
  have hr := B.returns
  have hts := atoms_spec (ws := wsX6_put) B.pre
  have hown : s.vm.findClass RX6 = some m.cls := findClass_of_methodNamed B.named
  have hlocks := B.notSynchronized
  have hi6 : ∀ w ∈ u_ws RX6 TX6 9, w ∈ wsX6_put := by decide +kernel
  have lc39 := hts (.constantLong RX6 39 (255)) (by decide +kernel)
  have lf41 := hts (.fieldLink RX6 41 "LastCook$Tape" "length" "I") (by decide +kernel)
  have lf11 := hts (.fieldLink RX6 11 "LastCook$Tape" "signs" "[B") (by decide +kernel)
  subst hsz
  have hD := hD0.self (sz := s.heap.size)
  generalize hAe : va_A [(ta, kO 6 [.ref ta_signs, .ref ta_words, .int (nI ta_length), .int (nI ta_next), .int ta_place, .int ta_kind, .int ta_value, .long ta_letters, .int ta_fault]), (ta_signs, kB k 1000 ta_signsF)] s.heap.size = A at hD ⊢
  have hA : ∀ q : Nat, s.heap.size ≤ q → A q := fun q h => by rw [← hAe]; exact Or.inr h
  have hS : va_S A s.heap s.heap [] := va_S.rf
  have hl := lv_entry ([.ref ta, .long by_]) (n := 6) (Nat.le_of_ble_eq_true rfl)
  rw [show entryFrame m args 6 = entryFrame m ([.ref ta, .long by_] : List Value).toArray 6 by rw [hav], lg_entry_eq]
  generalize (lg_sl ([.ref ta, .long by_]) ++ List.replicate (6 - (lg_sl ([.ref ta, .long by_])).length) Slot.unset).toArray = ls at hl ⊢
  have hl : lv_has ls 6 [(0, .ref ta), (1, .long by_)] := hl
  obtain ⟨R, hR⟩ : ∃ R, R = (headSpec wsX6_put ({ frames := 0, cells := 0, slots := 0, locals := 0 } : Room)).room := ⟨_, rfl⟩
  rw [← hR]
  generalize hQ : MQ below _ args s 0 0 A = Q
  replace hQ := hQ.symm
  obtain ⟨H, hH⟩ : ∃ H, H = s.heap := ⟨_, rfl⟩
  rw [← hH] at hP ⊢
  have hS : va_S A s.heap H [] := by rw [hH]; exact hS
  refine lv_bipush (v := 56) hx hb dX6_put_0 (by decide) ?_
  refine lv_istore_n (lv' := [(3, .int 56), (0, .ref ta), (1, .long by_)]) hx hb dX6_put_2 rfl hl (by decide) rfl (fun ls hl => ?_)
  have hloop3 : ∀ (nq : Nat) (l3_3 : Int32) (fta_2_3 : Nat) (ata_signs_3 : Nat → Int32) (rq : Nat) (H : Heap) (locs : List Loc) (ls : Array Slot), (Int32.toInt l3_3 - ((-8)) + 1).toNat < nq → ((-8) ≤ Int32.toInt l3_3 ∧ Int32.toInt l3_3 ≤ 56) → (fta_2_3 ≤ 1000) → (rq ≤ 8) → (Int32.toInt l3_3 = 8 * (rq : Int) - 8) → (putN by_ rq fta_2_3 = putN by_ 8 ta_length) → va_P D vwCl [(ta, kO 6 [.ref ta_signs, .ref ta_words, .int (nI fta_2_3), .int (nI ta_next), .int ta_place, .int ta_kind, .int ta_value, .long ta_letters, .int ta_fault]), (ta_signs, kB k 1000 ata_signs_3)] H → va_D A [(ta, kO 6 [.ref ta_signs, .ref ta_words, .int (nI fta_2_3), .int (nI ta_next), .int ta_place, .int ta_kind, .int ta_value, .long ta_letters, .int ta_fault]), (ta_signs, kB k 1000 ata_signs_3)] → va_S A s.heap H locs → lv_has ls 6 [(0, .ref ta), (1, .long by_), (3, .int l3_3)] → W p l e R s m args below meth c H locs 0 0 Q (F0 m 3 ls []) := by
    intro n3
    induction n3 with
    | zero => intro l3_3 fta_2_3 ata_signs_3 rq H locs ls hm; exact absurd hm (Nat.not_lt_zero _)
    | succ n3 ih3 =>
      intro l3_3 fta_2_3 ata_signs_3 rq H locs ls hm3 i_l3_3 i_fta_2_3 v3_0 v3_1 v3_2 hP hD hS hl
      refine lv_iload_n hx hb dX6_put_3 rfl (lv_at hl 2 rfl) ?_
      refine lv_if_lt (tgt := 90) hx hb dX6_put_4 (by decide) (fun c_1 => ?_) (fun c_1 => ?_)
      · skip
        have t_1 : (Int32.toInt l3_3) < 0 := tI_lt rfl (by decide) c_1
        rw [hQ]
        have hP9 := hP.sub (ws' := [(ta, kO 6 [.ref ta_signs, .ref ta_words, .int (nI fta_2_3), .int (nI ta_next), .int ta_place, .int ta_kind, .int ta_value, .long ta_letters, .int ta_fault]), (ta_signs, kB k 1000 ata_signs_3)]) [0, 1] rfl
        have hD9 := hD.sub (ws' := [(ta, kO 6 [.ref ta_signs, .ref ta_words, .int (nI fta_2_3), .int (nI ta_next), .int ta_place, .int ta_kind, .int ta_value, .long ta_letters, .int ta_fault]), (ta_signs, kB k 1000 ata_signs_3)]) [0, 1] (by decide) rfl
        exact W.vret hx hb hr (fun zt ht hW => ⟨⟨⟨fta_2_3, ata_signs_3⟩, rfl, ⟨(by first | omega | (dsimp only; omega) | assumption), (put_end v3_2 (by omega))⟩, by rw [ht]; exact hP9, hD9⟩, hS.F ht⟩) hS.2.2 dX6_put_90
      · skip
        have t_1 : (Int32.toInt l3_3) ≥ 0 := tI_nlt rfl (by decide) c_1
        refine lv_lload_n hx hb dX6_put_7 rfl (lv_at hl 1 rfl) ?_
        refine lv_iload_n hx hb dX6_put_8 rfl (lv_at hl 2 rfl) ?_
        refine lv_lushr hx hb dX6_put_9 rfl ?_
        refine lv_ldc2 hx hb hown lc39 dX6_put_10 ?_
        refine lv_land hx hb dX6_put_13 ?_
        refine lv_l2i hx hb dX6_put_14 rfl ?_
        refine lv_topi (fun sg2 es2 => ?_)
        refine lv_istore (lv' := [(4, .int sg2), (0, .ref ta), (1, .long by_), (3, .int l3_3)]) hx hb dX6_put_15 hl (by decide) rfl (fun ls hl => ?_)
        refine lv_iload hx hb dX6_put_17 (lv_at hl 0 rfl) ?_
        refine lv_bipush (v := 10) hx hb dX6_put_19 (by decide) ?_
        refine lv_icmp_eq (tgt := 38) hx hb dX6_put_21 (by decide) (fun c_3 => ?_) (fun c_3 => ?_)
        · skip
          have t_3 : (Int32.toInt sg2) = 10 := tI_eq rfl (by decide) c_3
          refine lv_iconst (v := 1) hx hb dX6_put_38 (by decide) ?_
          refine lv_goto (tgt := 43) hx hb dX6_put_39 (by decide) ?_
          refine lv_istore (lv' := [(5, .int 1), (4, .int sg2), (0, .ref ta), (1, .long by_), (3, .int l3_3)]) hx hb dX6_put_43 hl (by decide) rfl (fun ls hl => ?_)
          refine lv_iload hx hb dX6_put_45 (lv_at hl 0 rfl) ?_
          have hj84_4 : ∀ (fta_2_84 : Nat) (ata_signs_84 : Nat → Int32) (H : Heap) (locs : List Loc) (ls : Array Slot), (fta_2_84 ≤ 1000) → (fta_2_84 = nx by_ l3_3 fta_2_3) → va_P D vwCl [(ta, kO 6 [.ref ta_signs, .ref ta_words, .int (nI fta_2_84), .int (nI ta_next), .int ta_place, .int ta_kind, .int ta_value, .long ta_letters, .int ta_fault]), (ta_signs, kB k 1000 ata_signs_84)] H → va_D A [(ta, kO 6 [.ref ta_signs, .ref ta_words, .int (nI fta_2_84), .int (nI ta_next), .int ta_place, .int ta_kind, .int ta_value, .long ta_letters, .int ta_fault]), (ta_signs, kB k 1000 ata_signs_84)] → va_S A s.heap H locs → lv_has ls 6 [(0, .ref ta), (1, .long by_), (3, .int l3_3), (4, .int sg2), (5, .int 1)] → W p l e R s m args below meth c H locs 0 0 Q (F0 m 84 ls []) := by
            intro fta_2_84 ata_signs_84 H locs ls i_fta_2_84 v84_0 hP hD hS hl
            refine lv_iinc (v := (l3_3 + (-8))) (lv' := [(3, .int (l3_3 + (-8))), (0, .ref ta), (1, .long by_), (4, .int sg2), (5, .int 1)]) hx hb dX6_put_84 hl (k := 2) rfl rfl (by decide) rfl (fun ls hl => ?_)
            have ta_5 : Int32.toInt (l3_3 + (-8)) = (Int32.toInt l3_3) + (-8) := tI_add rfl (by decide) (by omega) (by omega)
            refine lv_goto (tgt := 3) hx hb dX6_put_87 (by decide) ?_
            exact ih3 (l3_3 + (-8)) fta_2_84 ata_signs_84 (rq - 1) _ _ _ (by omega) (by first | omega | assumption) (by first | omega | assumption) (by first | omega | assumption) (by first | omega | decide) (put_step v3_2 (by omega) v3_0 v3_1 v84_0) (hP.sub [0, 1] rfl) (hD.sub [0, 1] (by decide) rfl) hS (lv_sub hl [1, 2, 0] rfl)
          refine lv_if_eq (tgt := 84) hx hb dX6_put_47 (by decide) (fun c_7 => absurd c_7 (by decide)) (fun c_7 => ?_)
          refine lv_aload_n hx hb dX6_put_50 rfl (lv_at hl 2 rfl) ?_
          refine va_get (D := D) (ci := 6) (v := .int (nI fta_2_3)) (C := RX6) (T := TX6) (N := 9) hx hb hts hi6 hown hK hP 0 rfl rfl 2 (by decide) lf41 (fun _ h9 => h9) rfl dX6_put_51 ?_
          refine lv_aload_n hx hb dX6_put_54 rfl (lv_at hl 2 rfl) ?_
          refine va_get (D := D) (ci := 6) (v := .ref ta_signs) (C := RX6) (T := TX6) (N := 9) hx hb hts hi6 hown hK hP 0 rfl rfl 0 (by decide) lf11 (fun _ h9 => h9) rfl dX6_put_55 ?_
          refine va_alen (v := 1000) hx hb hK hP 1 2 rfl rfl rfl dX6_put_58 ?_
          refine lv_icmp_ge (tgt := 84) hx hb dX6_put_59 (by decide) (fun c_8 => ?_) (fun c_8 => ?_)
          · skip
            have k_8 : 1000 ≤ fta_2_3 := (nI_leI (a := 1000) (b := fta_2_3) (by omega) (by omega)).mp c_8
            exact hj84_4 fta_2_3 ata_signs_3 _ _ _ (by first | omega | assumption) (by first | exact nx_tv es2 (by omega) (by omega) | exact nx_f2 (by omega) | exact nx_f1v es2 (by omega)) (hP.sub [0, 1] rfl) (hD.sub [0, 1] (by decide) rfl) hS (lv_sub hl [2, 3, 4, 1, 0] rfl)
          · skip
            have k_8 : ¬ (1000 ≤ fta_2_3) := fun h => c_8 ((nI_leI (a := 1000) (b := fta_2_3) (by omega) (by omega)).mpr h)
            refine lv_aload_n hx hb dX6_put_62 rfl (lv_at hl 2 rfl) ?_
            refine va_get (D := D) (ci := 6) (v := .ref ta_signs) (C := RX6) (T := TX6) (N := 9) hx hb hts hi6 hown hK hP 0 rfl rfl 0 (by decide) lf11 (fun _ h9 => h9) rfl dX6_put_63 ?_
            refine lv_aload_n hx hb dX6_put_66 rfl (lv_at hl 2 rfl) ?_
            refine va_get (D := D) (ci := 6) (v := .int (nI fta_2_3)) (C := RX6) (T := TX6) (N := 9) hx hb hts hi6 hown hK hP 0 rfl rfl 2 (by decide) lf41 (fun _ h9 => h9) rfl dX6_put_67 ?_
            refine lv_iload hx hb dX6_put_70 (lv_at hl 1 rfl) ?_
            refine lv_i2b hx hb dX6_put_72 rfl ?_
            refine va_bast hx hb hK hP hD hS 1 2 rfl rfl (vp_in_nI (n := fta_2_3) (by omega) (by omega)) dX6_put_73 (fun H locs hP hD hS => ?_)
            have hP : va_P D vwCl [(ta, kO 6 [.ref ta_signs, .ref ta_words, .int (nI fta_2_3), .int (nI ta_next), .int ta_place, .int ta_kind, .int ta_value, .long ta_letters, .int ta_fault]), (ta_signs, kB k 1000 (upd ata_signs_3 (Int32.toNatClampNeg (nI fta_2_3)) (vp_nar .byte sg2.toInt8.toInt32)))] H := hP
            have hD : va_D A [(ta, kO 6 [.ref ta_signs, .ref ta_words, .int (nI fta_2_3), .int (nI ta_next), .int ta_place, .int ta_kind, .int ta_value, .long ta_letters, .int ta_fault]), (ta_signs, kB k 1000 (upd ata_signs_3 (Int32.toNatClampNeg (nI fta_2_3)) (vp_nar .byte sg2.toInt8.toInt32)))] := hD
            refine lv_aload_n hx hb dX6_put_74 rfl (lv_at hl 2 rfl) ?_
            refine lv_dup hx hb dX6_put_75 rfl ?_
            refine va_get (D := D) (ci := 6) (v := .int (nI fta_2_3)) (C := RX6) (T := TX6) (N := 9) hx hb hts hi6 hown hK hP 0 rfl rfl 2 (by decide) lf41 (fun _ h9 => h9) rfl dX6_put_76 ?_
            refine lv_iconst (v := 1) hx hb dX6_put_79 (by decide) ?_
            refine lv_iadd hx hb dX6_put_80 ?_
            refine lv_topi (fun x9 ex9 => ?_)
            obtain rfl : x9 = (nI (fta_2_3 + 1)) := ex9.trans (nI_add fta_2_3 1)
            refine va_put (D := D) (ci := 6) (v := .int (nI (fta_2_3 + 1))) (ty := .int) (C := RX6) (T := TX6) (N := 9) hx hb hts hi6 tyX6 tyX6_ok nmX6 hown hK hP hD hS 0 rfl rfl 2 (by decide) lf41 (fun _ h9 => h9) rfl (by decide +kernel) rfl rfl (Nat.le_of_ble_eq_true rfl) dX6_put_81 (fun H locs hP hD hS => ?_)
            have hP : va_P D vwCl [(ta, kO 6 [.ref ta_signs, .ref ta_words, .int (nI (fta_2_3 + 1)), .int (nI ta_next), .int ta_place, .int ta_kind, .int ta_value, .long ta_letters, .int ta_fault]), (ta_signs, kB k 1000 (upd ata_signs_3 (Int32.toNatClampNeg (nI fta_2_3)) (vp_nar .byte sg2.toInt8.toInt32)))] H := hP
            have hD : va_D A [(ta, kO 6 [.ref ta_signs, .ref ta_words, .int (nI (fta_2_3 + 1)), .int (nI ta_next), .int ta_place, .int ta_kind, .int ta_value, .long ta_letters, .int ta_fault]), (ta_signs, kB k 1000 (upd ata_signs_3 (Int32.toNatClampNeg (nI fta_2_3)) (vp_nar .byte sg2.toInt8.toInt32)))] := hD
            exact hj84_4 (fta_2_3 + 1) (upd ata_signs_3 (Int32.toNatClampNeg (nI fta_2_3)) (vp_nar .byte sg2.toInt8.toInt32)) _ _ _ (by first | omega | assumption) (by first | exact nx_tv es2 (by omega) (by omega) | exact nx_f2 (by omega) | exact nx_f1v es2 (by omega)) (hP.sub [0, 1] rfl) (hD.sub [0, 1] (by decide) rfl) hS (lv_sub hl [2, 3, 4, 1, 0] rfl)
        · skip
          have t_3 : (Int32.toInt sg2) ≠ 10 := tI_ne rfl (by decide) c_3
          refine lv_iload hx hb dX6_put_24 (lv_at hl 0 rfl) ?_
          refine lv_bipush (v := 32) hx hb dX6_put_26 (by decide) ?_
          refine lv_icmp_lt (tgt := 42) hx hb dX6_put_28 (by decide) (fun c_10 => ?_) (fun c_10 => ?_)
          · skip
            have t_10 : (Int32.toInt sg2) < 32 := tI_lt rfl (by decide) c_10
            refine lv_iconst (v := 0) hx hb dX6_put_42 (by decide) ?_
            refine lv_istore (lv' := [(5, .int 0), (4, .int sg2), (0, .ref ta), (1, .long by_), (3, .int l3_3)]) hx hb dX6_put_43 hl (by decide) rfl (fun ls hl => ?_)
            refine lv_iload hx hb dX6_put_45 (lv_at hl 0 rfl) ?_
            have hj84_11 : ∀ (fta_2_84 : Nat) (ata_signs_84 : Nat → Int32) (H : Heap) (locs : List Loc) (ls : Array Slot), (fta_2_84 ≤ 1000) → (fta_2_84 = nx by_ l3_3 fta_2_3) → va_P D vwCl [(ta, kO 6 [.ref ta_signs, .ref ta_words, .int (nI fta_2_84), .int (nI ta_next), .int ta_place, .int ta_kind, .int ta_value, .long ta_letters, .int ta_fault]), (ta_signs, kB k 1000 ata_signs_84)] H → va_D A [(ta, kO 6 [.ref ta_signs, .ref ta_words, .int (nI fta_2_84), .int (nI ta_next), .int ta_place, .int ta_kind, .int ta_value, .long ta_letters, .int ta_fault]), (ta_signs, kB k 1000 ata_signs_84)] → va_S A s.heap H locs → lv_has ls 6 [(0, .ref ta), (1, .long by_), (3, .int l3_3), (4, .int sg2), (5, .int 0)] → W p l e R s m args below meth c H locs 0 0 Q (F0 m 84 ls []) := by
              intro fta_2_84 ata_signs_84 H locs ls i_fta_2_84 v84_0 hP hD hS hl
              refine lv_iinc (v := (l3_3 + (-8))) (lv' := [(3, .int (l3_3 + (-8))), (0, .ref ta), (1, .long by_), (4, .int sg2), (5, .int 0)]) hx hb dX6_put_84 hl (k := 2) rfl rfl (by decide) rfl (fun ls hl => ?_)
              have ta_12 : Int32.toInt (l3_3 + (-8)) = (Int32.toInt l3_3) + (-8) := tI_add rfl (by decide) (by omega) (by omega)
              refine lv_goto (tgt := 3) hx hb dX6_put_87 (by decide) ?_
              exact ih3 (l3_3 + (-8)) fta_2_84 ata_signs_84 (rq - 1) _ _ _ (by omega) (by first | omega | assumption) (by first | omega | assumption) (by first | omega | assumption) (by first | omega | decide) (put_step v3_2 (by omega) v3_0 v3_1 v84_0) (hP.sub [0, 1] rfl) (hD.sub [0, 1] (by decide) rfl) hS (lv_sub hl [1, 2, 0] rfl)
            refine lv_if_eq (tgt := 84) hx hb dX6_put_47 (by decide) (fun c_14 => ?_) (fun c_14 => absurd (by decide) c_14)
            exact hj84_11 fta_2_3 ata_signs_3 _ _ _ (by first | omega | assumption) (by first | exact nx_tv es2 (by omega) (by omega) | exact nx_f2 (by omega) | exact nx_f1v es2 (by omega)) (hP.sub [0, 1] rfl) (hD.sub [0, 1] (by decide) rfl) hS (lv_sub hl [2, 3, 4, 1, 0] rfl)
          · skip
            have t_10 : (Int32.toInt sg2) ≥ 32 := tI_nlt rfl (by decide) c_10
            refine lv_iload hx hb dX6_put_31 (lv_at hl 0 rfl) ?_
            refine lv_bipush (v := 126) hx hb dX6_put_33 (by decide) ?_
            refine lv_icmp_gt (tgt := 42) hx hb dX6_put_35 (by decide) (fun c_15 => ?_) (fun c_15 => ?_)
            · skip
              have t_15 : 126 < (Int32.toInt sg2) := tI_lt (by decide) rfl c_15
              refine lv_iconst (v := 0) hx hb dX6_put_42 (by decide) ?_
              refine lv_istore (lv' := [(5, .int 0), (4, .int sg2), (0, .ref ta), (1, .long by_), (3, .int l3_3)]) hx hb dX6_put_43 hl (by decide) rfl (fun ls hl => ?_)
              refine lv_iload hx hb dX6_put_45 (lv_at hl 0 rfl) ?_
              have hj84_16 : ∀ (fta_2_84 : Nat) (ata_signs_84 : Nat → Int32) (H : Heap) (locs : List Loc) (ls : Array Slot), (fta_2_84 ≤ 1000) → (fta_2_84 = nx by_ l3_3 fta_2_3) → va_P D vwCl [(ta, kO 6 [.ref ta_signs, .ref ta_words, .int (nI fta_2_84), .int (nI ta_next), .int ta_place, .int ta_kind, .int ta_value, .long ta_letters, .int ta_fault]), (ta_signs, kB k 1000 ata_signs_84)] H → va_D A [(ta, kO 6 [.ref ta_signs, .ref ta_words, .int (nI fta_2_84), .int (nI ta_next), .int ta_place, .int ta_kind, .int ta_value, .long ta_letters, .int ta_fault]), (ta_signs, kB k 1000 ata_signs_84)] → va_S A s.heap H locs → lv_has ls 6 [(0, .ref ta), (1, .long by_), (3, .int l3_3), (4, .int sg2), (5, .int 0)] → W p l e R s m args below meth c H locs 0 0 Q (F0 m 84 ls []) := by
                intro fta_2_84 ata_signs_84 H locs ls i_fta_2_84 v84_0 hP hD hS hl
                refine lv_iinc (v := (l3_3 + (-8))) (lv' := [(3, .int (l3_3 + (-8))), (0, .ref ta), (1, .long by_), (4, .int sg2), (5, .int 0)]) hx hb dX6_put_84 hl (k := 2) rfl rfl (by decide) rfl (fun ls hl => ?_)
                have ta_17 : Int32.toInt (l3_3 + (-8)) = (Int32.toInt l3_3) + (-8) := tI_add rfl (by decide) (by omega) (by omega)
                refine lv_goto (tgt := 3) hx hb dX6_put_87 (by decide) ?_
                exact ih3 (l3_3 + (-8)) fta_2_84 ata_signs_84 (rq - 1) _ _ _ (by omega) (by first | omega | assumption) (by first | omega | assumption) (by first | omega | assumption) (by first | omega | decide) (put_step v3_2 (by omega) v3_0 v3_1 v84_0) (hP.sub [0, 1] rfl) (hD.sub [0, 1] (by decide) rfl) hS (lv_sub hl [1, 2, 0] rfl)
              refine lv_if_eq (tgt := 84) hx hb dX6_put_47 (by decide) (fun c_19 => ?_) (fun c_19 => absurd (by decide) c_19)
              exact hj84_16 fta_2_3 ata_signs_3 _ _ _ (by first | omega | assumption) (by first | exact nx_tv es2 (by omega) (by omega) | exact nx_f2 (by omega) | exact nx_f1v es2 (by omega)) (hP.sub [0, 1] rfl) (hD.sub [0, 1] (by decide) rfl) hS (lv_sub hl [2, 3, 4, 1, 0] rfl)
            · skip
              have t_15 : 126 ≥ (Int32.toInt sg2) := tI_nlt (by decide) rfl c_15
              refine lv_iconst (v := 1) hx hb dX6_put_38 (by decide) ?_
              refine lv_goto (tgt := 43) hx hb dX6_put_39 (by decide) ?_
              refine lv_istore (lv' := [(5, .int 1), (4, .int sg2), (0, .ref ta), (1, .long by_), (3, .int l3_3)]) hx hb dX6_put_43 hl (by decide) rfl (fun ls hl => ?_)
              refine lv_iload hx hb dX6_put_45 (lv_at hl 0 rfl) ?_
              have hj84_20 : ∀ (fta_2_84 : Nat) (ata_signs_84 : Nat → Int32) (H : Heap) (locs : List Loc) (ls : Array Slot), (fta_2_84 ≤ 1000) → (fta_2_84 = nx by_ l3_3 fta_2_3) → va_P D vwCl [(ta, kO 6 [.ref ta_signs, .ref ta_words, .int (nI fta_2_84), .int (nI ta_next), .int ta_place, .int ta_kind, .int ta_value, .long ta_letters, .int ta_fault]), (ta_signs, kB k 1000 ata_signs_84)] H → va_D A [(ta, kO 6 [.ref ta_signs, .ref ta_words, .int (nI fta_2_84), .int (nI ta_next), .int ta_place, .int ta_kind, .int ta_value, .long ta_letters, .int ta_fault]), (ta_signs, kB k 1000 ata_signs_84)] → va_S A s.heap H locs → lv_has ls 6 [(0, .ref ta), (1, .long by_), (3, .int l3_3), (4, .int sg2), (5, .int 1)] → W p l e R s m args below meth c H locs 0 0 Q (F0 m 84 ls []) := by
                intro fta_2_84 ata_signs_84 H locs ls i_fta_2_84 v84_0 hP hD hS hl
                refine lv_iinc (v := (l3_3 + (-8))) (lv' := [(3, .int (l3_3 + (-8))), (0, .ref ta), (1, .long by_), (4, .int sg2), (5, .int 1)]) hx hb dX6_put_84 hl (k := 2) rfl rfl (by decide) rfl (fun ls hl => ?_)
                have ta_21 : Int32.toInt (l3_3 + (-8)) = (Int32.toInt l3_3) + (-8) := tI_add rfl (by decide) (by omega) (by omega)
                refine lv_goto (tgt := 3) hx hb dX6_put_87 (by decide) ?_
                exact ih3 (l3_3 + (-8)) fta_2_84 ata_signs_84 (rq - 1) _ _ _ (by omega) (by first | omega | assumption) (by first | omega | assumption) (by first | omega | assumption) (by first | omega | decide) (put_step v3_2 (by omega) v3_0 v3_1 v84_0) (hP.sub [0, 1] rfl) (hD.sub [0, 1] (by decide) rfl) hS (lv_sub hl [1, 2, 0] rfl)
              refine lv_if_eq (tgt := 84) hx hb dX6_put_47 (by decide) (fun c_23 => absurd c_23 (by decide)) (fun c_23 => ?_)
              refine lv_aload_n hx hb dX6_put_50 rfl (lv_at hl 2 rfl) ?_
              refine va_get (D := D) (ci := 6) (v := .int (nI fta_2_3)) (C := RX6) (T := TX6) (N := 9) hx hb hts hi6 hown hK hP 0 rfl rfl 2 (by decide) lf41 (fun _ h9 => h9) rfl dX6_put_51 ?_
              refine lv_aload_n hx hb dX6_put_54 rfl (lv_at hl 2 rfl) ?_
              refine va_get (D := D) (ci := 6) (v := .ref ta_signs) (C := RX6) (T := TX6) (N := 9) hx hb hts hi6 hown hK hP 0 rfl rfl 0 (by decide) lf11 (fun _ h9 => h9) rfl dX6_put_55 ?_
              refine va_alen (v := 1000) hx hb hK hP 1 2 rfl rfl rfl dX6_put_58 ?_
              refine lv_icmp_ge (tgt := 84) hx hb dX6_put_59 (by decide) (fun c_24 => ?_) (fun c_24 => ?_)
              · skip
                have k_24 : 1000 ≤ fta_2_3 := (nI_leI (a := 1000) (b := fta_2_3) (by omega) (by omega)).mp c_24
                exact hj84_20 fta_2_3 ata_signs_3 _ _ _ (by first | omega | assumption) (by first | exact nx_tv es2 (by omega) (by omega) | exact nx_f2 (by omega) | exact nx_f1v es2 (by omega)) (hP.sub [0, 1] rfl) (hD.sub [0, 1] (by decide) rfl) hS (lv_sub hl [2, 3, 4, 1, 0] rfl)
              · skip
                have k_24 : ¬ (1000 ≤ fta_2_3) := fun h => c_24 ((nI_leI (a := 1000) (b := fta_2_3) (by omega) (by omega)).mpr h)
                refine lv_aload_n hx hb dX6_put_62 rfl (lv_at hl 2 rfl) ?_
                refine va_get (D := D) (ci := 6) (v := .ref ta_signs) (C := RX6) (T := TX6) (N := 9) hx hb hts hi6 hown hK hP 0 rfl rfl 0 (by decide) lf11 (fun _ h9 => h9) rfl dX6_put_63 ?_
                refine lv_aload_n hx hb dX6_put_66 rfl (lv_at hl 2 rfl) ?_
                refine va_get (D := D) (ci := 6) (v := .int (nI fta_2_3)) (C := RX6) (T := TX6) (N := 9) hx hb hts hi6 hown hK hP 0 rfl rfl 2 (by decide) lf41 (fun _ h9 => h9) rfl dX6_put_67 ?_
                refine lv_iload hx hb dX6_put_70 (lv_at hl 1 rfl) ?_
                refine lv_i2b hx hb dX6_put_72 rfl ?_
                refine va_bast hx hb hK hP hD hS 1 2 rfl rfl (vp_in_nI (n := fta_2_3) (by omega) (by omega)) dX6_put_73 (fun H locs hP hD hS => ?_)
                have hP : va_P D vwCl [(ta, kO 6 [.ref ta_signs, .ref ta_words, .int (nI fta_2_3), .int (nI ta_next), .int ta_place, .int ta_kind, .int ta_value, .long ta_letters, .int ta_fault]), (ta_signs, kB k 1000 (upd ata_signs_3 (Int32.toNatClampNeg (nI fta_2_3)) (vp_nar .byte sg2.toInt8.toInt32)))] H := hP
                have hD : va_D A [(ta, kO 6 [.ref ta_signs, .ref ta_words, .int (nI fta_2_3), .int (nI ta_next), .int ta_place, .int ta_kind, .int ta_value, .long ta_letters, .int ta_fault]), (ta_signs, kB k 1000 (upd ata_signs_3 (Int32.toNatClampNeg (nI fta_2_3)) (vp_nar .byte sg2.toInt8.toInt32)))] := hD
                refine lv_aload_n hx hb dX6_put_74 rfl (lv_at hl 2 rfl) ?_
                refine lv_dup hx hb dX6_put_75 rfl ?_
                refine va_get (D := D) (ci := 6) (v := .int (nI fta_2_3)) (C := RX6) (T := TX6) (N := 9) hx hb hts hi6 hown hK hP 0 rfl rfl 2 (by decide) lf41 (fun _ h9 => h9) rfl dX6_put_76 ?_
                refine lv_iconst (v := 1) hx hb dX6_put_79 (by decide) ?_
                refine lv_iadd hx hb dX6_put_80 ?_
                refine lv_topi (fun x25 ex25 => ?_)
                obtain rfl : x25 = (nI (fta_2_3 + 1)) := ex25.trans (nI_add fta_2_3 1)
                refine va_put (D := D) (ci := 6) (v := .int (nI (fta_2_3 + 1))) (ty := .int) (C := RX6) (T := TX6) (N := 9) hx hb hts hi6 tyX6 tyX6_ok nmX6 hown hK hP hD hS 0 rfl rfl 2 (by decide) lf41 (fun _ h9 => h9) rfl (by decide +kernel) rfl rfl (Nat.le_of_ble_eq_true rfl) dX6_put_81 (fun H locs hP hD hS => ?_)
                have hP : va_P D vwCl [(ta, kO 6 [.ref ta_signs, .ref ta_words, .int (nI (fta_2_3 + 1)), .int (nI ta_next), .int ta_place, .int ta_kind, .int ta_value, .long ta_letters, .int ta_fault]), (ta_signs, kB k 1000 (upd ata_signs_3 (Int32.toNatClampNeg (nI fta_2_3)) (vp_nar .byte sg2.toInt8.toInt32)))] H := hP
                have hD : va_D A [(ta, kO 6 [.ref ta_signs, .ref ta_words, .int (nI (fta_2_3 + 1)), .int (nI ta_next), .int ta_place, .int ta_kind, .int ta_value, .long ta_letters, .int ta_fault]), (ta_signs, kB k 1000 (upd ata_signs_3 (Int32.toNatClampNeg (nI fta_2_3)) (vp_nar .byte sg2.toInt8.toInt32)))] := hD
                exact hj84_20 (fta_2_3 + 1) (upd ata_signs_3 (Int32.toNatClampNeg (nI fta_2_3)) (vp_nar .byte sg2.toInt8.toInt32)) _ _ _ (by first | omega | assumption) (by first | exact nx_tv es2 (by omega) (by omega) | exact nx_f2 (by omega) | exact nx_f1v es2 (by omega)) (hP.sub [0, 1] rfl) (hD.sub [0, 1] (by decide) rfl) hS (lv_sub hl [2, 3, 4, 1, 0] rfl)
  have tq26 : Int32.toInt 56 = 56 := by decide
  exact hloop3 (((Int32.toInt (56 : Int32) - ((-8)) + 1).toNat) + 1) (56 : Int32) ta_length ta_signsF 8 _ _ _ (Nat.lt_succ_self _) (by first | omega | assumption) (by first | omega | assumption) (by first | omega | assumption) (by first | omega | decide) rfl (hP.sub [0, 1] rfl) (hD.sub [0, 1] (by decide) rfl) hS (lv_sub hl [1, 2, 0] rfl)
set_option maxHeartbeats 4000000 in
set_option maxRecDepth 100000 in
theorem eX8_feed (l : Launch) (D : va_G) (k : Nat → ClassId) (sz : Nat) (x : Nat) (b1 : Int64) (b2 : Int64) (b3 : Int64) (ta : Nat) (t : Nat) (dr : Nat) (n : Nat) (nd : Nat) (d : Nat) (v : Nat) (z : Nat) (pa : Nat) (x_marks : Nat) (x_drawn : Int64) (ta_signs : Nat) (ta_words : Nat) (ta_length : Nat) (ta_next : Nat) (ta_place : Int32) (ta_kind : Int32) (ta_value : Int32) (ta_letters : Int64) (ta_fault : Int32) (ta_signsF : Nat → Int32) (h_ta_length : ta_length ≤ 1000) (h_ta_next : ta_next ≤ 1000) : Met l yX8_feed wsX8_feed ({ frames := 1, cells := 0, slots := 0, locals := 70 }) (va_Pc [.ref x, .long b1, .long b2, .long b3] (kz_Pre D k [(x, kO 8 [.ref ta, .ref t, .ref dr, .ref n, .ref nd, .ref d, .ref v, .ref z, .ref pa, .ref x_marks, .long x_drawn]), (ta, kO 6 [.ref ta_signs, .ref ta_words, .int (nI ta_length), .int (nI ta_next), .int ta_place, .int ta_kind, .int ta_value, .long ta_letters, .int ta_fault]), (ta_signs, kB k 1000 ta_signsF)] sz)) (va_Qi (fun (rr : Int32) (uu : Nat × (Nat → Int32)) => rr = nI (putN b3 8 (putN b2 8 (putN b1 8 ta_length))) ∧ (uu.1 ≤ 1000) ∧ (uu.1 = putN b3 8 (putN b2 8 (putN b1 8 ta_length)))) (fun uu zt => kz_B D (va_A [(x, kO 8 [.ref ta, .ref t, .ref dr, .ref n, .ref nd, .ref d, .ref v, .ref z, .ref pa, .ref x_marks, .long x_drawn]), (ta, kO 6 [.ref ta_signs, .ref ta_words, .int (nI ta_length), .int (nI ta_next), .int ta_place, .int ta_kind, .int ta_value, .long ta_letters, .int ta_fault]), (ta_signs, kB k 1000 ta_signsF)] sz) [(x, kO 8 [.ref ta, .ref t, .ref dr, .ref n, .ref nd, .ref d, .ref v, .ref z, .ref pa, .ref x_marks, .long x_drawn]), (ta, kO 6 [.ref ta_signs, .ref ta_words, .int (nI uu.1), .int (nI ta_next), .int ta_place, .int ta_kind, .int ta_value, .long ta_letters, .int ta_fault]), (ta_signs, kB k 1000 uu.2)] zt) (va_A [(x, kO 8 [.ref ta, .ref t, .ref dr, .ref n, .ref nd, .ref d, .ref v, .ref z, .ref pa, .ref x_marks, .long x_drawn]), (ta, kO 6 [.ref ta_signs, .ref ta_words, .int (nI ta_length), .int (nI ta_next), .int ta_place, .int ta_kind, .int ta_value, .long ta_letters, .int ta_fault]), (ta_signs, kB k 1000 ta_signsF)] sz)) 0 0 (va_A [(x, kO 8 [.ref ta, .ref t, .ref dr, .ref n, .ref nd, .ref d, .ref v, .ref z, .ref pa, .ref x_marks, .long x_drawn]), (ta, kO 6 [.ref ta_signs, .ref ta_words, .int (nI ta_length), .int (nI ta_next), .int ta_place, .int ta_kind, .int ta_value, .long ta_letters, .int ta_fault]), (ta_signs, kB k 1000 ta_signsF)] sz) := by
  refine Met.ofW (cc := cX8_feed) (maxL := 7) (ret := (some .int)) (by decide) rfl ?_
  intro p e s m args below meth c s₁ B hml hv
  obtain ⟨hav, hsz, hP, hK, hD0, hE⟩ := hv
  have hx := B.exec
  have hb := B.bytes
  have hr := B.returns
  have hts := atoms_spec (ws := wsX8_feed) B.pre
  have hown : s.vm.findClass RX8 = some m.cls := findClass_of_methodNamed B.named
  have hlocks := B.notSynchronized
  have hi6 : ∀ w ∈ u_ws RX6 TX6 9, w ∈ wsX8_feed := by decide +kernel
  have hi8 : ∀ w ∈ u_ws RX8 TX8 11, w ∈ wsX8_feed := by decide +kernel
  have lf10 := hts (.fieldLink RX8 10 "LastCook" "tape" "LLastCook$Tape;") (by decide +kernel)
  have lf71 := hts (.fieldLink RX8 71 "LastCook$Tape" "length" "I") (by decide +kernel)
  subst hsz
  have hD := hD0.self (sz := s.heap.size)
  generalize hAe : va_A [(x, kO 8 [.ref ta, .ref t, .ref dr, .ref n, .ref nd, .ref d, .ref v, .ref z, .ref pa, .ref x_marks, .long x_drawn]), (ta, kO 6 [.ref ta_signs, .ref ta_words, .int (nI ta_length), .int (nI ta_next), .int ta_place, .int ta_kind, .int ta_value, .long ta_letters, .int ta_fault]), (ta_signs, kB k 1000 ta_signsF)] s.heap.size = A at hD ⊢
  have hA : ∀ q : Nat, s.heap.size ≤ q → A q := fun q h => by rw [← hAe]; exact Or.inr h
  have hS : va_S A s.heap s.heap [] := va_S.rf
  have hl := lv_entry ([.ref x, .long b1, .long b2, .long b3]) (n := 7) (Nat.le_of_ble_eq_true rfl)
  rw [show entryFrame m args 7 = entryFrame m ([.ref x, .long b1, .long b2, .long b3] : List Value).toArray 7 by rw [hav], lg_entry_eq]
  generalize (lg_sl ([.ref x, .long b1, .long b2, .long b3]) ++ List.replicate (7 - (lg_sl ([.ref x, .long b1, .long b2, .long b3])).length) Slot.unset).toArray = ls at hl ⊢
  have hl : lv_has ls 7 [(0, .ref x), (1, .long b1), (3, .long b2), (5, .long b3)] := hl
  obtain ⟨R, hR⟩ : ∃ R, R = (headSpec wsX8_feed ({ frames := 1, cells := 0, slots := 0, locals := 70 } : Room)).room := ⟨_, rfl⟩
  rw [← hR]
  generalize hQ : MQ below _ args s 0 0 A = Q
  replace hQ := hQ.symm
  obtain ⟨H, hH⟩ : ∃ H, H = s.heap := ⟨_, rfl⟩
  rw [← hH] at hP ⊢
  have hS : va_S A s.heap H [] := by rw [hH]; exact hS
  refine lv_aload_n hx hb dX8_feed_0 rfl (lv_at hl 0 rfl) ?_
  refine va_get (D := D) (ci := 8) (v := .ref ta) (C := RX8) (T := TX8) (N := 11) hx hb hts hi8 hown hK hP 0 rfl rfl 0 (by decide) lf10 (fun _ h9 => h9) rfl dX8_feed_1 ?_
  refine lv_lload_n hx hb dX8_feed_4 rfl (lv_at hl 1 rfl) ?_
  refine kz_Vv (As := [.long b1]) (rest := []) (wc := [(ta, kO 6 [.ref ta_signs, .ref ta_words, .int (nI ta_length), .int (nI ta_next), .int ta_place, .int ta_kind, .int ta_value, .long ta_letters, .int ta_fault]), (ta_signs, kB k 1000 ta_signsF)]) (wr := [(x, kO 8 [.ref ta, .ref t, .ref dr, .ref n, .ref nd, .ref d, .ref v, .ref z, .ref pa, .ref x_marks, .long x_drawn])]) ⟨hx, hb, hml, hown, hts⟩ hK hE hP hD hS hA (eX6_put l D k H.size ta b1 ta_signs ta_words ta_length ta_next ta_place ta_kind ta_value ta_letters ta_fault ta_signsF (by first | omega | assumption | decide) (by first | omega | assumption | decide)) (cwV 1 hts gX8_feed_X6_put rfl rfl rfl (by decide +kernel) (by rw [hR]; exact ⟨Nat.le_of_ble_eq_true rfl, Nat.le_of_ble_eq_true rfl⟩)) [1, 2] [0] rfl rfl (by decide) (by decide) (by decide) 0 rfl rfl rfl hl.1 rfl (Nat.le_of_ble_eq_true rfl) dX8_feed_5 (by rw [hR]; exact ⟨Nat.le_of_ble_eq_true rfl, Nat.le_of_ble_eq_true rfl⟩) (fun u1 H locs hw1 hP hD hS => ?_)
  obtain ⟨u_ta_21, u_ta_signs1⟩ := u1
  try dsimp only at hw1
  have hP : va_P D vwCl [(x, kO 8 [.ref ta, .ref t, .ref dr, .ref n, .ref nd, .ref d, .ref v, .ref z, .ref pa, .ref x_marks, .long x_drawn]), (ta, kO 6 [.ref ta_signs, .ref ta_words, .int (nI u_ta_21), .int (nI ta_next), .int ta_place, .int ta_kind, .int ta_value, .long ta_letters, .int ta_fault]), (ta_signs, kB k 1000 u_ta_signs1)] H := hP
  have hD : va_D A [(x, kO 8 [.ref ta, .ref t, .ref dr, .ref n, .ref nd, .ref d, .ref v, .ref z, .ref pa, .ref x_marks, .long x_drawn]), (ta, kO 6 [.ref ta_signs, .ref ta_words, .int (nI u_ta_21), .int (nI ta_next), .int ta_place, .int ta_kind, .int ta_value, .long ta_letters, .int ta_fault]), (ta_signs, kB k 1000 u_ta_signs1)] := hD
  obtain ⟨hw1_0, hw1_1⟩ := hw1
  refine lv_aload_n hx hb dX8_feed_8 rfl (lv_at hl 0 rfl) ?_
  refine va_get (D := D) (ci := 8) (v := .ref ta) (C := RX8) (T := TX8) (N := 11) hx hb hts hi8 hown hK hP 0 rfl rfl 0 (by decide) lf10 (fun _ h9 => h9) rfl dX8_feed_9 ?_
  refine lv_lload_n hx hb dX8_feed_12 rfl (lv_at hl 2 rfl) ?_
  refine kz_Vv (As := [.long b2]) (rest := []) (wc := [(ta, kO 6 [.ref ta_signs, .ref ta_words, .int (nI u_ta_21), .int (nI ta_next), .int ta_place, .int ta_kind, .int ta_value, .long ta_letters, .int ta_fault]), (ta_signs, kB k 1000 u_ta_signs1)]) (wr := [(x, kO 8 [.ref ta, .ref t, .ref dr, .ref n, .ref nd, .ref d, .ref v, .ref z, .ref pa, .ref x_marks, .long x_drawn])]) ⟨hx, hb, hml, hown, hts⟩ hK hE hP hD hS hA (eX6_put l D k H.size ta b2 ta_signs ta_words u_ta_21 ta_next ta_place ta_kind ta_value ta_letters ta_fault u_ta_signs1 (by first | omega | assumption | decide) (by first | omega | assumption | decide)) (cwV 1 hts gX8_feed_X6_put rfl rfl rfl (by decide +kernel) (by rw [hR]; exact ⟨Nat.le_of_ble_eq_true rfl, Nat.le_of_ble_eq_true rfl⟩)) [1, 2] [0] rfl rfl (by decide) (by decide) (by decide) 0 rfl rfl rfl hl.1 rfl (Nat.le_of_ble_eq_true rfl) dX8_feed_13 (by rw [hR]; exact ⟨Nat.le_of_ble_eq_true rfl, Nat.le_of_ble_eq_true rfl⟩) (fun u2 H locs hw2 hP hD hS => ?_)
  obtain ⟨u_ta_22, u_ta_signs2⟩ := u2
  try dsimp only at hw2
  have hP : va_P D vwCl [(x, kO 8 [.ref ta, .ref t, .ref dr, .ref n, .ref nd, .ref d, .ref v, .ref z, .ref pa, .ref x_marks, .long x_drawn]), (ta, kO 6 [.ref ta_signs, .ref ta_words, .int (nI u_ta_22), .int (nI ta_next), .int ta_place, .int ta_kind, .int ta_value, .long ta_letters, .int ta_fault]), (ta_signs, kB k 1000 u_ta_signs2)] H := hP
  have hD : va_D A [(x, kO 8 [.ref ta, .ref t, .ref dr, .ref n, .ref nd, .ref d, .ref v, .ref z, .ref pa, .ref x_marks, .long x_drawn]), (ta, kO 6 [.ref ta_signs, .ref ta_words, .int (nI u_ta_22), .int (nI ta_next), .int ta_place, .int ta_kind, .int ta_value, .long ta_letters, .int ta_fault]), (ta_signs, kB k 1000 u_ta_signs2)] := hD
  obtain ⟨hw2_0, hw2_1⟩ := hw2
  refine lv_aload_n hx hb dX8_feed_16 rfl (lv_at hl 0 rfl) ?_
  refine va_get (D := D) (ci := 8) (v := .ref ta) (C := RX8) (T := TX8) (N := 11) hx hb hts hi8 hown hK hP 0 rfl rfl 0 (by decide) lf10 (fun _ h9 => h9) rfl dX8_feed_17 ?_
  refine lv_lload hx hb dX8_feed_20 (lv_at hl 3 rfl) ?_
  refine kz_Vv (As := [.long b3]) (rest := []) (wc := [(ta, kO 6 [.ref ta_signs, .ref ta_words, .int (nI u_ta_22), .int (nI ta_next), .int ta_place, .int ta_kind, .int ta_value, .long ta_letters, .int ta_fault]), (ta_signs, kB k 1000 u_ta_signs2)]) (wr := [(x, kO 8 [.ref ta, .ref t, .ref dr, .ref n, .ref nd, .ref d, .ref v, .ref z, .ref pa, .ref x_marks, .long x_drawn])]) ⟨hx, hb, hml, hown, hts⟩ hK hE hP hD hS hA (eX6_put l D k H.size ta b3 ta_signs ta_words u_ta_22 ta_next ta_place ta_kind ta_value ta_letters ta_fault u_ta_signs2 (by first | omega | assumption | decide) (by first | omega | assumption | decide)) (cwV 1 hts gX8_feed_X6_put rfl rfl rfl (by decide +kernel) (by rw [hR]; exact ⟨Nat.le_of_ble_eq_true rfl, Nat.le_of_ble_eq_true rfl⟩)) [1, 2] [0] rfl rfl (by decide) (by decide) (by decide) 0 rfl rfl rfl hl.1 rfl (Nat.le_of_ble_eq_true rfl) dX8_feed_22 (by rw [hR]; exact ⟨Nat.le_of_ble_eq_true rfl, Nat.le_of_ble_eq_true rfl⟩) (fun u3 H locs hw3 hP hD hS => ?_)
  obtain ⟨u_ta_23, u_ta_signs3⟩ := u3
  try dsimp only at hw3
  have hP : va_P D vwCl [(x, kO 8 [.ref ta, .ref t, .ref dr, .ref n, .ref nd, .ref d, .ref v, .ref z, .ref pa, .ref x_marks, .long x_drawn]), (ta, kO 6 [.ref ta_signs, .ref ta_words, .int (nI u_ta_23), .int (nI ta_next), .int ta_place, .int ta_kind, .int ta_value, .long ta_letters, .int ta_fault]), (ta_signs, kB k 1000 u_ta_signs3)] H := hP
  have hD : va_D A [(x, kO 8 [.ref ta, .ref t, .ref dr, .ref n, .ref nd, .ref d, .ref v, .ref z, .ref pa, .ref x_marks, .long x_drawn]), (ta, kO 6 [.ref ta_signs, .ref ta_words, .int (nI u_ta_23), .int (nI ta_next), .int ta_place, .int ta_kind, .int ta_value, .long ta_letters, .int ta_fault]), (ta_signs, kB k 1000 u_ta_signs3)] := hD
  obtain ⟨hw3_0, hw3_1⟩ := hw3
  refine lv_aload_n hx hb dX8_feed_25 rfl (lv_at hl 0 rfl) ?_
  refine va_get (D := D) (ci := 8) (v := .ref ta) (C := RX8) (T := TX8) (N := 11) hx hb hts hi8 hown hK hP 0 rfl rfl 0 (by decide) lf10 (fun _ h9 => h9) rfl dX8_feed_26 ?_
  refine va_get (D := D) (ci := 6) (v := .int (nI u_ta_23)) (C := RX6) (T := TX6) (N := 9) hx hb hts hi6 hown hK hP 1 rfl rfl 2 (by decide) lf71 (fun _ h9 => h9) rfl dX8_feed_29 ?_
  rw [hQ]
  have hP9 := hP.sub (ws' := [(x, kO 8 [.ref ta, .ref t, .ref dr, .ref n, .ref nd, .ref d, .ref v, .ref z, .ref pa, .ref x_marks, .long x_drawn]), (ta, kO 6 [.ref ta_signs, .ref ta_words, .int (nI u_ta_23), .int (nI ta_next), .int ta_place, .int ta_kind, .int ta_value, .long ta_letters, .int ta_fault]), (ta_signs, kB k 1000 u_ta_signs3)]) [0, 1, 2] rfl
  have hD9 := hD.sub (ws' := [(x, kO 8 [.ref ta, .ref t, .ref dr, .ref n, .ref nd, .ref d, .ref v, .ref z, .ref pa, .ref x_marks, .long x_drawn]), (ta, kO 6 [.ref ta_signs, .ref ta_words, .int (nI u_ta_23), .int (nI ta_next), .int ta_place, .int ta_kind, .int ta_value, .long ta_letters, .int ta_fault]), (ta_signs, kB k 1000 u_ta_signs3)]) [0, 1, 2] (by decide) rfl
  exact W.iret (v := (nI u_ta_23)) hx hb hr (fun zt ht hW => ⟨⟨(nI u_ta_23), ⟨u_ta_23, u_ta_signs3⟩, rfl, ⟨(congrArg nI (by subst_vars; rfl)), (by first | omega | (dsimp only; omega) | assumption), (by subst_vars; rfl)⟩, by rw [ht]; exact hP9, hD9⟩, hS.F ht⟩) hS.2.2 dX8_feed_32
set_option maxHeartbeats 4000000 in
set_option maxRecDepth 100000 in
theorem eX9_feed (l : Launch) (D : va_G) (k : Nat → ClassId) (sz : Nat) (y : Nat) (b1 : Int64) (b2 : Int64) (b3 : Int64) (y_thrown : Int32) (y_taped : Nat) (y_tape : Nat) (y_size : Nat) (y_place : Nat) (y_begin : Nat) (y_token : Nat) (y_word : Int64) (y_told : Int32) (y_wrong : Int32) (y_supper : Nat) (y_guestName : Nat) (y_kind : Nat) (y_offTold : Nat) (y_pace : Nat) (y_cooks : Nat) (y_snow : Nat) (y_lineFrom : Nat) (y_lineTo : Nat) (y_codes : Nat) (y_code : Nat) (y_toldLines : Int32) (y_opened : Nat) (y_compared : Nat) (y_kept : Nat) (y_keptBy : Nat) (y_ahead : Nat) (y_against : Nat) (y_sum : Nat) (y_sumBy : Nat) (y_term : Nat) (y_termBy : Nat) (y_byNot : Nat) (y_valueOf : Nat) (y_given : Int32) (y_lines : Nat) (y_lineWhat : Nat) (y_lineA : Nat) (y_lineB : Nat) (y_seens : Nat) (y_seenIn : Nat) (y_seenYards : Nat) (y_seenNear : Nat) (y_s : Nat) (y_aside : Nat) (y_before : Nat) (y_marked : Nat) (y_undone : Nat) (y_isLaid : Nat) (y_done : Nat) (y_snowNow : Int32) (y_cameNow : Int32) (y_cookThen : Int32) (y_tasteThen : Int32) (y_places : Nat) (y_comesAt : Nat) (y_yardsIn : Nat) (y_g : Int64) (y_tapeF : Nat → Int32) (h_y_taped : y_taped ≤ 1000) (h_y_size : y_size ≤ 1000) (h_y_place : y_place ≤ 1000) (h_y_begin : y_begin ≤ 1000) (h_y_token : y_token ≤ 4) (h_y_told : 0 ≤ Int32.toInt y_told ∧ Int32.toInt y_told ≤ 9999) (h_y_code : y_code ≤ 2000) (h_y_done : y_done ≤ 16) : Met l yX9_feed wsX9_feed ({ frames := 0, cells := 0, slots := 0, locals := 0 }) (va_Pc [.ref y, .long b1, .long b2, .long b3] (kz_Pre D k [(y, kO 9 [.int y_thrown, .int (nI y_taped), .ref y_tape, .int (nI y_size), .int (nI y_place), .int (nI y_begin), .int (nI y_token), .long y_word, .int y_told, .int y_wrong, .ref y_supper, .ref y_guestName, .ref y_kind, .ref y_offTold, .ref y_pace, .ref y_cooks, .ref y_snow, .ref y_lineFrom, .ref y_lineTo, .ref y_codes, .int (nI y_code), .int y_toldLines, .ref y_opened, .ref y_compared, .ref y_kept, .ref y_keptBy, .ref y_ahead, .ref y_against, .ref y_sum, .ref y_sumBy, .ref y_term, .ref y_termBy, .ref y_byNot, .ref y_valueOf, .int y_given, .ref y_lines, .ref y_lineWhat, .ref y_lineA, .ref y_lineB, .ref y_seens, .ref y_seenIn, .ref y_seenYards, .ref y_seenNear, .ref y_s, .ref y_aside, .ref y_before, .ref y_marked, .ref y_undone, .ref y_isLaid, .int (nI y_done), .int y_snowNow, .int y_cameNow, .int y_cookThen, .int y_tasteThen, .ref y_places, .ref y_comesAt, .ref y_yardsIn, .long y_g]), (y_tape, kI k 1000 y_tapeF)] sz)) (va_Qi (fun (rr : Int32) (uu : Int32 × Nat × (Nat → Int32)) => rr = nI (putN b3 8 (putN b2 8 (putN b1 8 y_taped))) ∧ (uu.2.1 ≤ 1000) ∧ (uu.2.1 = putN b3 8 (putN b2 8 (putN b1 8 y_taped)))) (fun uu zt => kz_B D (va_A [(y, kO 9 [.int y_thrown, .int (nI y_taped), .ref y_tape, .int (nI y_size), .int (nI y_place), .int (nI y_begin), .int (nI y_token), .long y_word, .int y_told, .int y_wrong, .ref y_supper, .ref y_guestName, .ref y_kind, .ref y_offTold, .ref y_pace, .ref y_cooks, .ref y_snow, .ref y_lineFrom, .ref y_lineTo, .ref y_codes, .int (nI y_code), .int y_toldLines, .ref y_opened, .ref y_compared, .ref y_kept, .ref y_keptBy, .ref y_ahead, .ref y_against, .ref y_sum, .ref y_sumBy, .ref y_term, .ref y_termBy, .ref y_byNot, .ref y_valueOf, .int y_given, .ref y_lines, .ref y_lineWhat, .ref y_lineA, .ref y_lineB, .ref y_seens, .ref y_seenIn, .ref y_seenYards, .ref y_seenNear, .ref y_s, .ref y_aside, .ref y_before, .ref y_marked, .ref y_undone, .ref y_isLaid, .int (nI y_done), .int y_snowNow, .int y_cameNow, .int y_cookThen, .int y_tasteThen, .ref y_places, .ref y_comesAt, .ref y_yardsIn, .long y_g]), (y_tape, kI k 1000 y_tapeF)] sz) [(y, kO 9 [.int uu.1, .int (nI uu.2.1), .ref y_tape, .int (nI y_size), .int (nI y_place), .int (nI y_begin), .int (nI y_token), .long y_word, .int y_told, .int y_wrong, .ref y_supper, .ref y_guestName, .ref y_kind, .ref y_offTold, .ref y_pace, .ref y_cooks, .ref y_snow, .ref y_lineFrom, .ref y_lineTo, .ref y_codes, .int (nI y_code), .int y_toldLines, .ref y_opened, .ref y_compared, .ref y_kept, .ref y_keptBy, .ref y_ahead, .ref y_against, .ref y_sum, .ref y_sumBy, .ref y_term, .ref y_termBy, .ref y_byNot, .ref y_valueOf, .int y_given, .ref y_lines, .ref y_lineWhat, .ref y_lineA, .ref y_lineB, .ref y_seens, .ref y_seenIn, .ref y_seenYards, .ref y_seenNear, .ref y_s, .ref y_aside, .ref y_before, .ref y_marked, .ref y_undone, .ref y_isLaid, .int (nI y_done), .int y_snowNow, .int y_cameNow, .int y_cookThen, .int y_tasteThen, .ref y_places, .ref y_comesAt, .ref y_yardsIn, .long y_g]), (y_tape, kI k 1000 uu.2.2)] zt) (va_A [(y, kO 9 [.int y_thrown, .int (nI y_taped), .ref y_tape, .int (nI y_size), .int (nI y_place), .int (nI y_begin), .int (nI y_token), .long y_word, .int y_told, .int y_wrong, .ref y_supper, .ref y_guestName, .ref y_kind, .ref y_offTold, .ref y_pace, .ref y_cooks, .ref y_snow, .ref y_lineFrom, .ref y_lineTo, .ref y_codes, .int (nI y_code), .int y_toldLines, .ref y_opened, .ref y_compared, .ref y_kept, .ref y_keptBy, .ref y_ahead, .ref y_against, .ref y_sum, .ref y_sumBy, .ref y_term, .ref y_termBy, .ref y_byNot, .ref y_valueOf, .int y_given, .ref y_lines, .ref y_lineWhat, .ref y_lineA, .ref y_lineB, .ref y_seens, .ref y_seenIn, .ref y_seenYards, .ref y_seenNear, .ref y_s, .ref y_aside, .ref y_before, .ref y_marked, .ref y_undone, .ref y_isLaid, .int (nI y_done), .int y_snowNow, .int y_cameNow, .int y_cookThen, .int y_tasteThen, .ref y_places, .ref y_comesAt, .ref y_yardsIn, .long y_g]), (y_tape, kI k 1000 y_tapeF)] sz)) 0 0 (va_A [(y, kO 9 [.int y_thrown, .int (nI y_taped), .ref y_tape, .int (nI y_size), .int (nI y_place), .int (nI y_begin), .int (nI y_token), .long y_word, .int y_told, .int y_wrong, .ref y_supper, .ref y_guestName, .ref y_kind, .ref y_offTold, .ref y_pace, .ref y_cooks, .ref y_snow, .ref y_lineFrom, .ref y_lineTo, .ref y_codes, .int (nI y_code), .int y_toldLines, .ref y_opened, .ref y_compared, .ref y_kept, .ref y_keptBy, .ref y_ahead, .ref y_against, .ref y_sum, .ref y_sumBy, .ref y_term, .ref y_termBy, .ref y_byNot, .ref y_valueOf, .int y_given, .ref y_lines, .ref y_lineWhat, .ref y_lineA, .ref y_lineB, .ref y_seens, .ref y_seenIn, .ref y_seenYards, .ref y_seenNear, .ref y_s, .ref y_aside, .ref y_before, .ref y_marked, .ref y_undone, .ref y_isLaid, .int (nI y_done), .int y_snowNow, .int y_cameNow, .int y_cookThen, .int y_tasteThen, .ref y_places, .ref y_comesAt, .ref y_yardsIn, .long y_g]), (y_tape, kI k 1000 y_tapeF)] sz) := by
  refine Met.ofW (cc := cX9_feed) (maxL := 11) (ret := (some .int)) (by decide) rfl ?_
  intro p e s m args below meth c s₁ B hml hv
  obtain ⟨hav, hsz, hP, hK, hD0, hE⟩ := hv
  have hx := B.exec
  have hb := B.bytes
  have hr := B.returns
  have hts := atoms_spec (ws := wsX9_feed) B.pre
  have hown : s.vm.findClass RX9 = some m.cls := findClass_of_methodNamed B.named
  have hlocks := B.notSynchronized
  have hi9 : ∀ w ∈ u_ws RX9 TX9 58, w ∈ wsX9_feed := by decide +kernel
  have lf143 := hts (.fieldLink RX9 143 "LastCookModel" "thrown" "I") (by decide +kernel)
  have lf148 := hts (.fieldLink RX9 148 "LastCookModel" "taped" "I") (by decide +kernel)
  have lc146 := hts (.constantLong RX9 146 (255)) (by decide +kernel)
  have lf7 := hts (.fieldLink RX9 7 "LastCookModel" "tape" "[I") (by decide +kernel)
  subst hsz
  have hD := hD0.self (sz := s.heap.size)
  generalize hAe : va_A [(y, kO 9 [.int y_thrown, .int (nI y_taped), .ref y_tape, .int (nI y_size), .int (nI y_place), .int (nI y_begin), .int (nI y_token), .long y_word, .int y_told, .int y_wrong, .ref y_supper, .ref y_guestName, .ref y_kind, .ref y_offTold, .ref y_pace, .ref y_cooks, .ref y_snow, .ref y_lineFrom, .ref y_lineTo, .ref y_codes, .int (nI y_code), .int y_toldLines, .ref y_opened, .ref y_compared, .ref y_kept, .ref y_keptBy, .ref y_ahead, .ref y_against, .ref y_sum, .ref y_sumBy, .ref y_term, .ref y_termBy, .ref y_byNot, .ref y_valueOf, .int y_given, .ref y_lines, .ref y_lineWhat, .ref y_lineA, .ref y_lineB, .ref y_seens, .ref y_seenIn, .ref y_seenYards, .ref y_seenNear, .ref y_s, .ref y_aside, .ref y_before, .ref y_marked, .ref y_undone, .ref y_isLaid, .int (nI y_done), .int y_snowNow, .int y_cameNow, .int y_cookThen, .int y_tasteThen, .ref y_places, .ref y_comesAt, .ref y_yardsIn, .long y_g]), (y_tape, kI k 1000 y_tapeF)] s.heap.size = A at hD ⊢
  have hA : ∀ q : Nat, s.heap.size ≤ q → A q := fun q h => by rw [← hAe]; exact Or.inr h
  have hS : va_S A s.heap s.heap [] := va_S.rf
  have hl := lv_entry ([.ref y, .long b1, .long b2, .long b3]) (n := 11) (Nat.le_of_ble_eq_true rfl)
  rw [show entryFrame m args 11 = entryFrame m ([.ref y, .long b1, .long b2, .long b3] : List Value).toArray 11 by rw [hav], lg_entry_eq]
  generalize (lg_sl ([.ref y, .long b1, .long b2, .long b3]) ++ List.replicate (11 - (lg_sl ([.ref y, .long b1, .long b2, .long b3])).length) Slot.unset).toArray = ls at hl ⊢
  have hl : lv_has ls 11 [(0, .ref y), (1, .long b1), (3, .long b2), (5, .long b3)] := hl
  obtain ⟨R, hR⟩ : ∃ R, R = (headSpec wsX9_feed ({ frames := 0, cells := 0, slots := 0, locals := 0 } : Room)).room := ⟨_, rfl⟩
  rw [← hR]
  generalize hQ : MQ below _ args s 0 0 A = Q
  replace hQ := hQ.symm
  obtain ⟨H, hH⟩ : ∃ H, H = s.heap := ⟨_, rfl⟩
  rw [← hH] at hP ⊢
  have hS : va_S A s.heap H [] := by rw [hH]; exact hS
  refine lv_aload_n hx hb dX9_feed_0 rfl (lv_at hl 0 rfl) ?_
  refine lv_iconst (v := 0) hx hb dX9_feed_1 (by decide) ?_
  refine va_put (D := D) (ci := 9) (v := .int 0) (ty := .int) (C := RX9) (T := TX9) (N := 58) hx hb hts hi9 tyX9 tyX9_ok nmX9 hown hK hP hD hS 0 rfl rfl 0 (by decide) lf143 (fun _ h9 => h9) rfl (by decide +kernel) rfl rfl (Nat.le_of_ble_eq_true rfl) dX9_feed_2 (fun H locs hP hD hS => ?_)
  have hP : va_P D vwCl [(y, kO 9 [.int 0, .int (nI y_taped), .ref y_tape, .int (nI y_size), .int (nI y_place), .int (nI y_begin), .int (nI y_token), .long y_word, .int y_told, .int y_wrong, .ref y_supper, .ref y_guestName, .ref y_kind, .ref y_offTold, .ref y_pace, .ref y_cooks, .ref y_snow, .ref y_lineFrom, .ref y_lineTo, .ref y_codes, .int (nI y_code), .int y_toldLines, .ref y_opened, .ref y_compared, .ref y_kept, .ref y_keptBy, .ref y_ahead, .ref y_against, .ref y_sum, .ref y_sumBy, .ref y_term, .ref y_termBy, .ref y_byNot, .ref y_valueOf, .int y_given, .ref y_lines, .ref y_lineWhat, .ref y_lineA, .ref y_lineB, .ref y_seens, .ref y_seenIn, .ref y_seenYards, .ref y_seenNear, .ref y_s, .ref y_aside, .ref y_before, .ref y_marked, .ref y_undone, .ref y_isLaid, .int (nI y_done), .int y_snowNow, .int y_cameNow, .int y_cookThen, .int y_tasteThen, .ref y_places, .ref y_comesAt, .ref y_yardsIn, .long y_g]), (y_tape, kI k 1000 y_tapeF)] H := hP
  have hD : va_D A [(y, kO 9 [.int 0, .int (nI y_taped), .ref y_tape, .int (nI y_size), .int (nI y_place), .int (nI y_begin), .int (nI y_token), .long y_word, .int y_told, .int y_wrong, .ref y_supper, .ref y_guestName, .ref y_kind, .ref y_offTold, .ref y_pace, .ref y_cooks, .ref y_snow, .ref y_lineFrom, .ref y_lineTo, .ref y_codes, .int (nI y_code), .int y_toldLines, .ref y_opened, .ref y_compared, .ref y_kept, .ref y_keptBy, .ref y_ahead, .ref y_against, .ref y_sum, .ref y_sumBy, .ref y_term, .ref y_termBy, .ref y_byNot, .ref y_valueOf, .int y_given, .ref y_lines, .ref y_lineWhat, .ref y_lineA, .ref y_lineB, .ref y_seens, .ref y_seenIn, .ref y_seenYards, .ref y_seenNear, .ref y_s, .ref y_aside, .ref y_before, .ref y_marked, .ref y_undone, .ref y_isLaid, .int (nI y_done), .int y_snowNow, .int y_cameNow, .int y_cookThen, .int y_tasteThen, .ref y_places, .ref y_comesAt, .ref y_yardsIn, .long y_g]), (y_tape, kI k 1000 y_tapeF)] := hD
  refine lv_iconst (v := 0) hx hb dX9_feed_5 (by decide) ?_
  refine lv_istore (lv' := [(7, .int 0), (0, .ref y), (1, .long b1), (3, .long b2), (5, .long b3)]) hx hb dX9_feed_6 hl (by decide) rfl (fun ls hl => ?_)
  have hloop8 : ∀ (nq : Nat) (l7_8 : Nat) (fy_1_8 : Nat) (ay_tape_8 : Nat → Int32) (H : Heap) (locs : List Loc) (ls : Array Slot), (24 + 1 - l7_8) < nq → (l7_8 ≤ 24) → (fy_1_8 ≤ 1000) → (fy_1_8 = fedN b1 b2 b3 y_taped l7_8) → va_P D vwCl [(y, kO 9 [.int 0, .int (nI fy_1_8), .ref y_tape, .int (nI y_size), .int (nI y_place), .int (nI y_begin), .int (nI y_token), .long y_word, .int y_told, .int y_wrong, .ref y_supper, .ref y_guestName, .ref y_kind, .ref y_offTold, .ref y_pace, .ref y_cooks, .ref y_snow, .ref y_lineFrom, .ref y_lineTo, .ref y_codes, .int (nI y_code), .int y_toldLines, .ref y_opened, .ref y_compared, .ref y_kept, .ref y_keptBy, .ref y_ahead, .ref y_against, .ref y_sum, .ref y_sumBy, .ref y_term, .ref y_termBy, .ref y_byNot, .ref y_valueOf, .int y_given, .ref y_lines, .ref y_lineWhat, .ref y_lineA, .ref y_lineB, .ref y_seens, .ref y_seenIn, .ref y_seenYards, .ref y_seenNear, .ref y_s, .ref y_aside, .ref y_before, .ref y_marked, .ref y_undone, .ref y_isLaid, .int (nI y_done), .int y_snowNow, .int y_cameNow, .int y_cookThen, .int y_tasteThen, .ref y_places, .ref y_comesAt, .ref y_yardsIn, .long y_g]), (y_tape, kI k 1000 ay_tape_8)] H → va_D A [(y, kO 9 [.int 0, .int (nI fy_1_8), .ref y_tape, .int (nI y_size), .int (nI y_place), .int (nI y_begin), .int (nI y_token), .long y_word, .int y_told, .int y_wrong, .ref y_supper, .ref y_guestName, .ref y_kind, .ref y_offTold, .ref y_pace, .ref y_cooks, .ref y_snow, .ref y_lineFrom, .ref y_lineTo, .ref y_codes, .int (nI y_code), .int y_toldLines, .ref y_opened, .ref y_compared, .ref y_kept, .ref y_keptBy, .ref y_ahead, .ref y_against, .ref y_sum, .ref y_sumBy, .ref y_term, .ref y_termBy, .ref y_byNot, .ref y_valueOf, .int y_given, .ref y_lines, .ref y_lineWhat, .ref y_lineA, .ref y_lineB, .ref y_seens, .ref y_seenIn, .ref y_seenYards, .ref y_seenNear, .ref y_s, .ref y_aside, .ref y_before, .ref y_marked, .ref y_undone, .ref y_isLaid, .int (nI y_done), .int y_snowNow, .int y_cameNow, .int y_cookThen, .int y_tasteThen, .ref y_places, .ref y_comesAt, .ref y_yardsIn, .long y_g]), (y_tape, kI k 1000 ay_tape_8)] → va_S A s.heap H locs → lv_has ls 11 [(0, .ref y), (1, .long b1), (3, .long b2), (5, .long b3), (7, .int (nI l7_8))] → W p l e R s m args below meth c H locs 0 0 Q (F0 m 8 ls []) := by
    intro n8
    induction n8 with
    | zero => intro l7_8 fy_1_8 ay_tape_8 H locs ls hm; exact absurd hm (Nat.not_lt_zero _)
    | succ n8 ih8 =>
      intro l7_8 fy_1_8 ay_tape_8 H locs ls hm8 i_l7_8 i_fy_1_8 v8_0 hP hD hS hl
      refine lv_iload hx hb dX9_feed_8 (lv_at hl 4 rfl) ?_
      refine lv_bipush (v := 24) hx hb dX9_feed_10 (by decide) ?_
      refine lv_icmp_ge (tgt := 120) hx hb dX9_feed_12 (by decide) (fun c_1 => ?_) (fun c_1 => ?_)
      · skip
        have k_1 : 24 ≤ l7_8 := (nI_leI (a := 24) (b := l7_8) (by omega) (by omega)).mp c_1
        refine lv_aload_n hx hb dX9_feed_120 rfl (lv_at hl 0 rfl) ?_
        refine va_get (D := D) (ci := 9) (v := .int (nI fy_1_8)) (C := RX9) (T := TX9) (N := 58) hx hb hts hi9 hown hK hP 0 rfl rfl 1 (by decide) lf148 (fun _ h9 => h9) rfl dX9_feed_121 ?_
        rw [hQ]
        have hP9 := hP.sub (ws' := [(y, kO 9 [.int (0 : Int32), .int (nI fy_1_8), .ref y_tape, .int (nI y_size), .int (nI y_place), .int (nI y_begin), .int (nI y_token), .long y_word, .int y_told, .int y_wrong, .ref y_supper, .ref y_guestName, .ref y_kind, .ref y_offTold, .ref y_pace, .ref y_cooks, .ref y_snow, .ref y_lineFrom, .ref y_lineTo, .ref y_codes, .int (nI y_code), .int y_toldLines, .ref y_opened, .ref y_compared, .ref y_kept, .ref y_keptBy, .ref y_ahead, .ref y_against, .ref y_sum, .ref y_sumBy, .ref y_term, .ref y_termBy, .ref y_byNot, .ref y_valueOf, .int y_given, .ref y_lines, .ref y_lineWhat, .ref y_lineA, .ref y_lineB, .ref y_seens, .ref y_seenIn, .ref y_seenYards, .ref y_seenNear, .ref y_s, .ref y_aside, .ref y_before, .ref y_marked, .ref y_undone, .ref y_isLaid, .int (nI y_done), .int y_snowNow, .int y_cameNow, .int y_cookThen, .int y_tasteThen, .ref y_places, .ref y_comesAt, .ref y_yardsIn, .long y_g]), (y_tape, kI k 1000 ay_tape_8)]) [0, 1] rfl
        have hD9 := hD.sub (ws' := [(y, kO 9 [.int (0 : Int32), .int (nI fy_1_8), .ref y_tape, .int (nI y_size), .int (nI y_place), .int (nI y_begin), .int (nI y_token), .long y_word, .int y_told, .int y_wrong, .ref y_supper, .ref y_guestName, .ref y_kind, .ref y_offTold, .ref y_pace, .ref y_cooks, .ref y_snow, .ref y_lineFrom, .ref y_lineTo, .ref y_codes, .int (nI y_code), .int y_toldLines, .ref y_opened, .ref y_compared, .ref y_kept, .ref y_keptBy, .ref y_ahead, .ref y_against, .ref y_sum, .ref y_sumBy, .ref y_term, .ref y_termBy, .ref y_byNot, .ref y_valueOf, .int y_given, .ref y_lines, .ref y_lineWhat, .ref y_lineA, .ref y_lineB, .ref y_seens, .ref y_seenIn, .ref y_seenYards, .ref y_seenNear, .ref y_s, .ref y_aside, .ref y_before, .ref y_marked, .ref y_undone, .ref y_isLaid, .int (nI y_done), .int y_snowNow, .int y_cameNow, .int y_cookThen, .int y_tasteThen, .ref y_places, .ref y_comesAt, .ref y_yardsIn, .long y_g]), (y_tape, kI k 1000 ay_tape_8)]) [0, 1] (by decide) rfl
        exact W.iret (v := (nI fy_1_8)) hx hb hr (fun zt ht hW => ⟨⟨(nI fy_1_8), ⟨(0 : Int32), fy_1_8, ay_tape_8⟩, rfl, ⟨(congrArg nI (v8_0.trans ((show fedN b1 b2 b3 y_taped l7_8 = fedN b1 b2 b3 y_taped 24 from (by rw [show l7_8 = 24 by omega])).trans fed_all))), (by first | omega | (dsimp only; omega) | assumption), (v8_0.trans ((show fedN b1 b2 b3 y_taped l7_8 = fedN b1 b2 b3 y_taped 24 from (by rw [show l7_8 = 24 by omega])).trans fed_all))⟩, by rw [ht]; exact hP9, hD9⟩, hS.F ht⟩) hS.2.2 dX9_feed_124
      · skip
        have k_1 : ¬ (24 ≤ l7_8) := fun h => c_1 ((nI_leI (a := 24) (b := l7_8) (by omega) (by omega)).mpr h)
        refine lv_iload hx hb dX9_feed_15 (lv_at hl 4 rfl) ?_
        refine lv_bipush (v := 8) hx hb dX9_feed_17 (by decide) ?_
        have hj39_2 : ∀ (s0_39 : Int64) (H : Heap) (locs : List Loc) (ls : Array Slot), (s0_39 = (if l7_8 < 8 then b1 else if l7_8 < 16 then b2 else b3)) → va_P D vwCl [(y, kO 9 [.int 0, .int (nI fy_1_8), .ref y_tape, .int (nI y_size), .int (nI y_place), .int (nI y_begin), .int (nI y_token), .long y_word, .int y_told, .int y_wrong, .ref y_supper, .ref y_guestName, .ref y_kind, .ref y_offTold, .ref y_pace, .ref y_cooks, .ref y_snow, .ref y_lineFrom, .ref y_lineTo, .ref y_codes, .int (nI y_code), .int y_toldLines, .ref y_opened, .ref y_compared, .ref y_kept, .ref y_keptBy, .ref y_ahead, .ref y_against, .ref y_sum, .ref y_sumBy, .ref y_term, .ref y_termBy, .ref y_byNot, .ref y_valueOf, .int y_given, .ref y_lines, .ref y_lineWhat, .ref y_lineA, .ref y_lineB, .ref y_seens, .ref y_seenIn, .ref y_seenYards, .ref y_seenNear, .ref y_s, .ref y_aside, .ref y_before, .ref y_marked, .ref y_undone, .ref y_isLaid, .int (nI y_done), .int y_snowNow, .int y_cameNow, .int y_cookThen, .int y_tasteThen, .ref y_places, .ref y_comesAt, .ref y_yardsIn, .long y_g]), (y_tape, kI k 1000 ay_tape_8)] H → va_D A [(y, kO 9 [.int 0, .int (nI fy_1_8), .ref y_tape, .int (nI y_size), .int (nI y_place), .int (nI y_begin), .int (nI y_token), .long y_word, .int y_told, .int y_wrong, .ref y_supper, .ref y_guestName, .ref y_kind, .ref y_offTold, .ref y_pace, .ref y_cooks, .ref y_snow, .ref y_lineFrom, .ref y_lineTo, .ref y_codes, .int (nI y_code), .int y_toldLines, .ref y_opened, .ref y_compared, .ref y_kept, .ref y_keptBy, .ref y_ahead, .ref y_against, .ref y_sum, .ref y_sumBy, .ref y_term, .ref y_termBy, .ref y_byNot, .ref y_valueOf, .int y_given, .ref y_lines, .ref y_lineWhat, .ref y_lineA, .ref y_lineB, .ref y_seens, .ref y_seenIn, .ref y_seenYards, .ref y_seenNear, .ref y_s, .ref y_aside, .ref y_before, .ref y_marked, .ref y_undone, .ref y_isLaid, .int (nI y_done), .int y_snowNow, .int y_cameNow, .int y_cookThen, .int y_tasteThen, .ref y_places, .ref y_comesAt, .ref y_yardsIn, .long y_g]), (y_tape, kI k 1000 ay_tape_8)] → va_S A s.heap H locs → lv_has ls 11 [(0, .ref y), (1, .long b1), (3, .long b2), (5, .long b3), (7, .int (nI l7_8))] → W p l e R s m args below meth c H locs 0 0 Q (F0 m 39 ls [.long s0_39]) := by
          intro s0_39 H locs ls v39_0 hP hD hS hl
          refine lv_lstore (lv' := [(8, .long s0_39), (0, .ref y), (1, .long b1), (3, .long b2), (5, .long b3), (7, .int (nI l7_8))]) hx hb dX9_feed_39 hl (by decide) rfl (fun ls hl => ?_)
          refine lv_lload hx hb dX9_feed_41 (lv_at hl 0 rfl) ?_
          refine lv_bipush (v := 56) hx hb dX9_feed_43 (by decide) ?_
          refine lv_bipush (v := 8) hx hb dX9_feed_45 (by decide) ?_
          refine lv_iload hx hb dX9_feed_47 (lv_at hl 5 rfl) ?_
          refine lv_bipush (v := 7) hx hb dX9_feed_49 (by decide) ?_
          refine lv_iand hx hb dX9_feed_51 ?_
          refine lv_imul hx hb dX9_feed_52 ?_
          refine lv_isub hx hb dX9_feed_53 ?_
          refine lv_topi (fun x3 ex3 => ?_)
          obtain rfl : x3 = (nI (56 - 8 * (l7_8 % 8))) := ex3.trans (sh9 l7_8 (by omega))
          refine lv_lushr hx hb dX9_feed_54 rfl ?_
          refine lv_ldc2 hx hb hown lc146 dX9_feed_55 ?_
          refine lv_land hx hb dX9_feed_58 ?_
          refine lv_l2i hx hb dX9_feed_59 rfl ?_
          refine lv_topi (fun sg4 es4 => ?_)
          refine lv_istore (lv' := [(10, .int sg4), (8, .long s0_39), (0, .ref y), (1, .long b1), (3, .long b2), (5, .long b3), (7, .int (nI l7_8))]) hx hb dX9_feed_60 hl (by decide) rfl (fun ls hl => ?_)
          refine lv_aload_n hx hb dX9_feed_62 rfl (lv_at hl 2 rfl) ?_
          refine va_get (D := D) (ci := 9) (v := .int (nI fy_1_8)) (C := RX9) (T := TX9) (N := 58) hx hb hts hi9 hown hK hP 0 rfl rfl 1 (by decide) lf148 (fun _ h9 => h9) rfl dX9_feed_63 ?_
          refine lv_sipush (v := 1000) hx hb dX9_feed_66 (by decide) ?_
          have hj114_5 : ∀ (fy_1_114 : Nat) (ay_tape_114 : Nat → Int32) (H : Heap) (locs : List Loc) (ls : Array Slot), (fy_1_114 ≤ 1000) → (fy_1_114 = nx s0_39 (nI (56 - 8 * (l7_8 % 8))) fy_1_8) → va_P D vwCl [(y, kO 9 [.int 0, .int (nI fy_1_114), .ref y_tape, .int (nI y_size), .int (nI y_place), .int (nI y_begin), .int (nI y_token), .long y_word, .int y_told, .int y_wrong, .ref y_supper, .ref y_guestName, .ref y_kind, .ref y_offTold, .ref y_pace, .ref y_cooks, .ref y_snow, .ref y_lineFrom, .ref y_lineTo, .ref y_codes, .int (nI y_code), .int y_toldLines, .ref y_opened, .ref y_compared, .ref y_kept, .ref y_keptBy, .ref y_ahead, .ref y_against, .ref y_sum, .ref y_sumBy, .ref y_term, .ref y_termBy, .ref y_byNot, .ref y_valueOf, .int y_given, .ref y_lines, .ref y_lineWhat, .ref y_lineA, .ref y_lineB, .ref y_seens, .ref y_seenIn, .ref y_seenYards, .ref y_seenNear, .ref y_s, .ref y_aside, .ref y_before, .ref y_marked, .ref y_undone, .ref y_isLaid, .int (nI y_done), .int y_snowNow, .int y_cameNow, .int y_cookThen, .int y_tasteThen, .ref y_places, .ref y_comesAt, .ref y_yardsIn, .long y_g]), (y_tape, kI k 1000 ay_tape_114)] H → va_D A [(y, kO 9 [.int 0, .int (nI fy_1_114), .ref y_tape, .int (nI y_size), .int (nI y_place), .int (nI y_begin), .int (nI y_token), .long y_word, .int y_told, .int y_wrong, .ref y_supper, .ref y_guestName, .ref y_kind, .ref y_offTold, .ref y_pace, .ref y_cooks, .ref y_snow, .ref y_lineFrom, .ref y_lineTo, .ref y_codes, .int (nI y_code), .int y_toldLines, .ref y_opened, .ref y_compared, .ref y_kept, .ref y_keptBy, .ref y_ahead, .ref y_against, .ref y_sum, .ref y_sumBy, .ref y_term, .ref y_termBy, .ref y_byNot, .ref y_valueOf, .int y_given, .ref y_lines, .ref y_lineWhat, .ref y_lineA, .ref y_lineB, .ref y_seens, .ref y_seenIn, .ref y_seenYards, .ref y_seenNear, .ref y_s, .ref y_aside, .ref y_before, .ref y_marked, .ref y_undone, .ref y_isLaid, .int (nI y_done), .int y_snowNow, .int y_cameNow, .int y_cookThen, .int y_tasteThen, .ref y_places, .ref y_comesAt, .ref y_yardsIn, .long y_g]), (y_tape, kI k 1000 ay_tape_114)] → va_S A s.heap H locs → lv_has ls 11 [(0, .ref y), (1, .long b1), (3, .long b2), (5, .long b3), (7, .int (nI l7_8)), (8, .long s0_39), (10, .int sg4)] → W p l e R s m args below meth c H locs 0 0 Q (F0 m 114 ls []) := by
            intro fy_1_114 ay_tape_114 H locs ls i_fy_1_114 v114_0 hP hD hS hl
            refine lv_iinc (v := (nI (l7_8 + 1))) (lv' := [(7, .int (nI (l7_8 + 1))), (0, .ref y), (1, .long b1), (3, .long b2), (5, .long b3), (8, .long s0_39), (10, .int sg4)]) hx hb dX9_feed_114 hl (k := 4) rfl (nI_1 _) (by decide) rfl (fun ls hl => ?_)
            refine lv_goto (tgt := 8) hx hb dX9_feed_117 (by decide) ?_
            exact ih8 (l7_8 + 1) fy_1_114 ay_tape_114 _ _ _ (by omega) (by first | omega | assumption) (by first | omega | assumption) (fed_step v8_0 v39_0 v114_0) (hP.sub [0, 1] rfl) (hD.sub [0, 1] (by decide) rfl) hS (lv_sub hl [1, 2, 3, 4, 0] rfl)
          refine lv_icmp_ge (tgt := 114) hx hb dX9_feed_69 (by decide) (fun c_6 => ?_) (fun c_6 => ?_)
          · skip
            have k_6 : 1000 ≤ fy_1_8 := (nI_leI (a := 1000) (b := fy_1_8) (by omega) (by omega)).mp c_6
            exact hj114_5 fy_1_8 ay_tape_8 _ _ _ (by first | omega | assumption) (by first | exact nx_tv es4 (by omega) (by omega) | exact nx_f2 (by omega) | exact nx_f1v es4 (by omega)) (hP.sub [0, 1] rfl) (hD.sub [0, 1] (by decide) rfl) hS (lv_sub hl [2, 3, 4, 5, 6, 1, 0] rfl)
          · skip
            have k_6 : ¬ (1000 ≤ fy_1_8) := fun h => c_6 ((nI_leI (a := 1000) (b := fy_1_8) (by omega) (by omega)).mpr h)
            refine lv_iload hx hb dX9_feed_72 (lv_at hl 0 rfl) ?_
            refine lv_bipush (v := 10) hx hb dX9_feed_74 (by decide) ?_
            refine lv_icmp_eq (tgt := 93) hx hb dX9_feed_76 (by decide) (fun c_7 => ?_) (fun c_7 => ?_)
            · skip
              have t_7 : (Int32.toInt sg4) = 10 := tI_eq rfl (by decide) c_7
              refine lv_aload_n hx hb dX9_feed_93 rfl (lv_at hl 2 rfl) ?_
              refine va_get (D := D) (ci := 9) (v := .ref y_tape) (C := RX9) (T := TX9) (N := 58) hx hb hts hi9 hown hK hP 0 rfl rfl 2 (by decide) lf7 (fun _ h9 => h9) rfl dX9_feed_94 ?_
              refine lv_aload_n hx hb dX9_feed_97 rfl (lv_at hl 2 rfl) ?_
              refine va_get (D := D) (ci := 9) (v := .int (nI fy_1_8)) (C := RX9) (T := TX9) (N := 58) hx hb hts hi9 hown hK hP 0 rfl rfl 1 (by decide) lf148 (fun _ h9 => h9) rfl dX9_feed_98 ?_
              refine lv_iload hx hb dX9_feed_101 (lv_at hl 0 rfl) ?_
              refine va_iast hx hb hK hP hD hS 1 0 rfl rfl (vp_in_nI (n := fy_1_8) (by omega) (by omega)) dX9_feed_103 (fun H locs hP hD hS => ?_)
              have hP : va_P D vwCl [(y, kO 9 [.int 0, .int (nI fy_1_8), .ref y_tape, .int (nI y_size), .int (nI y_place), .int (nI y_begin), .int (nI y_token), .long y_word, .int y_told, .int y_wrong, .ref y_supper, .ref y_guestName, .ref y_kind, .ref y_offTold, .ref y_pace, .ref y_cooks, .ref y_snow, .ref y_lineFrom, .ref y_lineTo, .ref y_codes, .int (nI y_code), .int y_toldLines, .ref y_opened, .ref y_compared, .ref y_kept, .ref y_keptBy, .ref y_ahead, .ref y_against, .ref y_sum, .ref y_sumBy, .ref y_term, .ref y_termBy, .ref y_byNot, .ref y_valueOf, .int y_given, .ref y_lines, .ref y_lineWhat, .ref y_lineA, .ref y_lineB, .ref y_seens, .ref y_seenIn, .ref y_seenYards, .ref y_seenNear, .ref y_s, .ref y_aside, .ref y_before, .ref y_marked, .ref y_undone, .ref y_isLaid, .int (nI y_done), .int y_snowNow, .int y_cameNow, .int y_cookThen, .int y_tasteThen, .ref y_places, .ref y_comesAt, .ref y_yardsIn, .long y_g]), (y_tape, kI k 1000 (upd ay_tape_8 (Int32.toNatClampNeg (nI fy_1_8)) sg4))] H := hP
              have hD : va_D A [(y, kO 9 [.int 0, .int (nI fy_1_8), .ref y_tape, .int (nI y_size), .int (nI y_place), .int (nI y_begin), .int (nI y_token), .long y_word, .int y_told, .int y_wrong, .ref y_supper, .ref y_guestName, .ref y_kind, .ref y_offTold, .ref y_pace, .ref y_cooks, .ref y_snow, .ref y_lineFrom, .ref y_lineTo, .ref y_codes, .int (nI y_code), .int y_toldLines, .ref y_opened, .ref y_compared, .ref y_kept, .ref y_keptBy, .ref y_ahead, .ref y_against, .ref y_sum, .ref y_sumBy, .ref y_term, .ref y_termBy, .ref y_byNot, .ref y_valueOf, .int y_given, .ref y_lines, .ref y_lineWhat, .ref y_lineA, .ref y_lineB, .ref y_seens, .ref y_seenIn, .ref y_seenYards, .ref y_seenNear, .ref y_s, .ref y_aside, .ref y_before, .ref y_marked, .ref y_undone, .ref y_isLaid, .int (nI y_done), .int y_snowNow, .int y_cameNow, .int y_cookThen, .int y_tasteThen, .ref y_places, .ref y_comesAt, .ref y_yardsIn, .long y_g]), (y_tape, kI k 1000 (upd ay_tape_8 (Int32.toNatClampNeg (nI fy_1_8)) sg4))] := hD
              refine lv_aload_n hx hb dX9_feed_104 rfl (lv_at hl 2 rfl) ?_
              refine lv_dup hx hb dX9_feed_105 rfl ?_
              refine va_get (D := D) (ci := 9) (v := .int (nI fy_1_8)) (C := RX9) (T := TX9) (N := 58) hx hb hts hi9 hown hK hP 0 rfl rfl 1 (by decide) lf148 (fun _ h9 => h9) rfl dX9_feed_106 ?_
              refine lv_iconst (v := 1) hx hb dX9_feed_109 (by decide) ?_
              refine lv_iadd hx hb dX9_feed_110 ?_
              refine lv_topi (fun x8 ex8 => ?_)
              obtain rfl : x8 = (nI (fy_1_8 + 1)) := ex8.trans (nI_add fy_1_8 1)
              refine va_put (D := D) (ci := 9) (v := .int (nI (fy_1_8 + 1))) (ty := .int) (C := RX9) (T := TX9) (N := 58) hx hb hts hi9 tyX9 tyX9_ok nmX9 hown hK hP hD hS 0 rfl rfl 1 (by decide) lf148 (fun _ h9 => h9) rfl (by decide +kernel) rfl rfl (Nat.le_of_ble_eq_true rfl) dX9_feed_111 (fun H locs hP hD hS => ?_)
              have hP : va_P D vwCl [(y, kO 9 [.int 0, .int (nI (fy_1_8 + 1)), .ref y_tape, .int (nI y_size), .int (nI y_place), .int (nI y_begin), .int (nI y_token), .long y_word, .int y_told, .int y_wrong, .ref y_supper, .ref y_guestName, .ref y_kind, .ref y_offTold, .ref y_pace, .ref y_cooks, .ref y_snow, .ref y_lineFrom, .ref y_lineTo, .ref y_codes, .int (nI y_code), .int y_toldLines, .ref y_opened, .ref y_compared, .ref y_kept, .ref y_keptBy, .ref y_ahead, .ref y_against, .ref y_sum, .ref y_sumBy, .ref y_term, .ref y_termBy, .ref y_byNot, .ref y_valueOf, .int y_given, .ref y_lines, .ref y_lineWhat, .ref y_lineA, .ref y_lineB, .ref y_seens, .ref y_seenIn, .ref y_seenYards, .ref y_seenNear, .ref y_s, .ref y_aside, .ref y_before, .ref y_marked, .ref y_undone, .ref y_isLaid, .int (nI y_done), .int y_snowNow, .int y_cameNow, .int y_cookThen, .int y_tasteThen, .ref y_places, .ref y_comesAt, .ref y_yardsIn, .long y_g]), (y_tape, kI k 1000 (upd ay_tape_8 (Int32.toNatClampNeg (nI fy_1_8)) sg4))] H := hP
              have hD : va_D A [(y, kO 9 [.int 0, .int (nI (fy_1_8 + 1)), .ref y_tape, .int (nI y_size), .int (nI y_place), .int (nI y_begin), .int (nI y_token), .long y_word, .int y_told, .int y_wrong, .ref y_supper, .ref y_guestName, .ref y_kind, .ref y_offTold, .ref y_pace, .ref y_cooks, .ref y_snow, .ref y_lineFrom, .ref y_lineTo, .ref y_codes, .int (nI y_code), .int y_toldLines, .ref y_opened, .ref y_compared, .ref y_kept, .ref y_keptBy, .ref y_ahead, .ref y_against, .ref y_sum, .ref y_sumBy, .ref y_term, .ref y_termBy, .ref y_byNot, .ref y_valueOf, .int y_given, .ref y_lines, .ref y_lineWhat, .ref y_lineA, .ref y_lineB, .ref y_seens, .ref y_seenIn, .ref y_seenYards, .ref y_seenNear, .ref y_s, .ref y_aside, .ref y_before, .ref y_marked, .ref y_undone, .ref y_isLaid, .int (nI y_done), .int y_snowNow, .int y_cameNow, .int y_cookThen, .int y_tasteThen, .ref y_places, .ref y_comesAt, .ref y_yardsIn, .long y_g]), (y_tape, kI k 1000 (upd ay_tape_8 (Int32.toNatClampNeg (nI fy_1_8)) sg4))] := hD
              exact hj114_5 (fy_1_8 + 1) (upd ay_tape_8 (Int32.toNatClampNeg (nI fy_1_8)) sg4) _ _ _ (by first | omega | assumption) (by first | exact nx_tv es4 (by omega) (by omega) | exact nx_f2 (by omega) | exact nx_f1v es4 (by omega)) (hP.sub [0, 1] rfl) (hD.sub [0, 1] (by decide) rfl) hS (lv_sub hl [2, 3, 4, 5, 6, 1, 0] rfl)
            · skip
              have t_7 : (Int32.toInt sg4) ≠ 10 := tI_ne rfl (by decide) c_7
              refine lv_iload hx hb dX9_feed_79 (lv_at hl 0 rfl) ?_
              refine lv_bipush (v := 32) hx hb dX9_feed_81 (by decide) ?_
              refine lv_icmp_lt (tgt := 114) hx hb dX9_feed_83 (by decide) (fun c_9 => ?_) (fun c_9 => ?_)
              · skip
                have t_9 : (Int32.toInt sg4) < 32 := tI_lt rfl (by decide) c_9
                exact hj114_5 fy_1_8 ay_tape_8 _ _ _ (by first | omega | assumption) (by first | exact nx_tv es4 (by omega) (by omega) | exact nx_f2 (by omega) | exact nx_f1v es4 (by omega)) (hP.sub [0, 1] rfl) (hD.sub [0, 1] (by decide) rfl) hS (lv_sub hl [2, 3, 4, 5, 6, 1, 0] rfl)
              · skip
                have t_9 : (Int32.toInt sg4) ≥ 32 := tI_nlt rfl (by decide) c_9
                refine lv_iload hx hb dX9_feed_86 (lv_at hl 0 rfl) ?_
                refine lv_bipush (v := 126) hx hb dX9_feed_88 (by decide) ?_
                refine lv_icmp_gt (tgt := 114) hx hb dX9_feed_90 (by decide) (fun c_10 => ?_) (fun c_10 => ?_)
                · skip
                  have t_10 : 126 < (Int32.toInt sg4) := tI_lt (by decide) rfl c_10
                  exact hj114_5 fy_1_8 ay_tape_8 _ _ _ (by first | omega | assumption) (by first | exact nx_tv es4 (by omega) (by omega) | exact nx_f2 (by omega) | exact nx_f1v es4 (by omega)) (hP.sub [0, 1] rfl) (hD.sub [0, 1] (by decide) rfl) hS (lv_sub hl [2, 3, 4, 5, 6, 1, 0] rfl)
                · skip
                  have t_10 : 126 ≥ (Int32.toInt sg4) := tI_nlt (by decide) rfl c_10
                  refine lv_aload_n hx hb dX9_feed_93 rfl (lv_at hl 2 rfl) ?_
                  refine va_get (D := D) (ci := 9) (v := .ref y_tape) (C := RX9) (T := TX9) (N := 58) hx hb hts hi9 hown hK hP 0 rfl rfl 2 (by decide) lf7 (fun _ h9 => h9) rfl dX9_feed_94 ?_
                  refine lv_aload_n hx hb dX9_feed_97 rfl (lv_at hl 2 rfl) ?_
                  refine va_get (D := D) (ci := 9) (v := .int (nI fy_1_8)) (C := RX9) (T := TX9) (N := 58) hx hb hts hi9 hown hK hP 0 rfl rfl 1 (by decide) lf148 (fun _ h9 => h9) rfl dX9_feed_98 ?_
                  refine lv_iload hx hb dX9_feed_101 (lv_at hl 0 rfl) ?_
                  refine va_iast hx hb hK hP hD hS 1 0 rfl rfl (vp_in_nI (n := fy_1_8) (by omega) (by omega)) dX9_feed_103 (fun H locs hP hD hS => ?_)
                  have hP : va_P D vwCl [(y, kO 9 [.int 0, .int (nI fy_1_8), .ref y_tape, .int (nI y_size), .int (nI y_place), .int (nI y_begin), .int (nI y_token), .long y_word, .int y_told, .int y_wrong, .ref y_supper, .ref y_guestName, .ref y_kind, .ref y_offTold, .ref y_pace, .ref y_cooks, .ref y_snow, .ref y_lineFrom, .ref y_lineTo, .ref y_codes, .int (nI y_code), .int y_toldLines, .ref y_opened, .ref y_compared, .ref y_kept, .ref y_keptBy, .ref y_ahead, .ref y_against, .ref y_sum, .ref y_sumBy, .ref y_term, .ref y_termBy, .ref y_byNot, .ref y_valueOf, .int y_given, .ref y_lines, .ref y_lineWhat, .ref y_lineA, .ref y_lineB, .ref y_seens, .ref y_seenIn, .ref y_seenYards, .ref y_seenNear, .ref y_s, .ref y_aside, .ref y_before, .ref y_marked, .ref y_undone, .ref y_isLaid, .int (nI y_done), .int y_snowNow, .int y_cameNow, .int y_cookThen, .int y_tasteThen, .ref y_places, .ref y_comesAt, .ref y_yardsIn, .long y_g]), (y_tape, kI k 1000 (upd ay_tape_8 (Int32.toNatClampNeg (nI fy_1_8)) sg4))] H := hP
                  have hD : va_D A [(y, kO 9 [.int 0, .int (nI fy_1_8), .ref y_tape, .int (nI y_size), .int (nI y_place), .int (nI y_begin), .int (nI y_token), .long y_word, .int y_told, .int y_wrong, .ref y_supper, .ref y_guestName, .ref y_kind, .ref y_offTold, .ref y_pace, .ref y_cooks, .ref y_snow, .ref y_lineFrom, .ref y_lineTo, .ref y_codes, .int (nI y_code), .int y_toldLines, .ref y_opened, .ref y_compared, .ref y_kept, .ref y_keptBy, .ref y_ahead, .ref y_against, .ref y_sum, .ref y_sumBy, .ref y_term, .ref y_termBy, .ref y_byNot, .ref y_valueOf, .int y_given, .ref y_lines, .ref y_lineWhat, .ref y_lineA, .ref y_lineB, .ref y_seens, .ref y_seenIn, .ref y_seenYards, .ref y_seenNear, .ref y_s, .ref y_aside, .ref y_before, .ref y_marked, .ref y_undone, .ref y_isLaid, .int (nI y_done), .int y_snowNow, .int y_cameNow, .int y_cookThen, .int y_tasteThen, .ref y_places, .ref y_comesAt, .ref y_yardsIn, .long y_g]), (y_tape, kI k 1000 (upd ay_tape_8 (Int32.toNatClampNeg (nI fy_1_8)) sg4))] := hD
                  refine lv_aload_n hx hb dX9_feed_104 rfl (lv_at hl 2 rfl) ?_
                  refine lv_dup hx hb dX9_feed_105 rfl ?_
                  refine va_get (D := D) (ci := 9) (v := .int (nI fy_1_8)) (C := RX9) (T := TX9) (N := 58) hx hb hts hi9 hown hK hP 0 rfl rfl 1 (by decide) lf148 (fun _ h9 => h9) rfl dX9_feed_106 ?_
                  refine lv_iconst (v := 1) hx hb dX9_feed_109 (by decide) ?_
                  refine lv_iadd hx hb dX9_feed_110 ?_
                  refine lv_topi (fun x11 ex11 => ?_)
                  obtain rfl : x11 = (nI (fy_1_8 + 1)) := ex11.trans (nI_add fy_1_8 1)
                  refine va_put (D := D) (ci := 9) (v := .int (nI (fy_1_8 + 1))) (ty := .int) (C := RX9) (T := TX9) (N := 58) hx hb hts hi9 tyX9 tyX9_ok nmX9 hown hK hP hD hS 0 rfl rfl 1 (by decide) lf148 (fun _ h9 => h9) rfl (by decide +kernel) rfl rfl (Nat.le_of_ble_eq_true rfl) dX9_feed_111 (fun H locs hP hD hS => ?_)
                  have hP : va_P D vwCl [(y, kO 9 [.int 0, .int (nI (fy_1_8 + 1)), .ref y_tape, .int (nI y_size), .int (nI y_place), .int (nI y_begin), .int (nI y_token), .long y_word, .int y_told, .int y_wrong, .ref y_supper, .ref y_guestName, .ref y_kind, .ref y_offTold, .ref y_pace, .ref y_cooks, .ref y_snow, .ref y_lineFrom, .ref y_lineTo, .ref y_codes, .int (nI y_code), .int y_toldLines, .ref y_opened, .ref y_compared, .ref y_kept, .ref y_keptBy, .ref y_ahead, .ref y_against, .ref y_sum, .ref y_sumBy, .ref y_term, .ref y_termBy, .ref y_byNot, .ref y_valueOf, .int y_given, .ref y_lines, .ref y_lineWhat, .ref y_lineA, .ref y_lineB, .ref y_seens, .ref y_seenIn, .ref y_seenYards, .ref y_seenNear, .ref y_s, .ref y_aside, .ref y_before, .ref y_marked, .ref y_undone, .ref y_isLaid, .int (nI y_done), .int y_snowNow, .int y_cameNow, .int y_cookThen, .int y_tasteThen, .ref y_places, .ref y_comesAt, .ref y_yardsIn, .long y_g]), (y_tape, kI k 1000 (upd ay_tape_8 (Int32.toNatClampNeg (nI fy_1_8)) sg4))] H := hP
                  have hD : va_D A [(y, kO 9 [.int 0, .int (nI (fy_1_8 + 1)), .ref y_tape, .int (nI y_size), .int (nI y_place), .int (nI y_begin), .int (nI y_token), .long y_word, .int y_told, .int y_wrong, .ref y_supper, .ref y_guestName, .ref y_kind, .ref y_offTold, .ref y_pace, .ref y_cooks, .ref y_snow, .ref y_lineFrom, .ref y_lineTo, .ref y_codes, .int (nI y_code), .int y_toldLines, .ref y_opened, .ref y_compared, .ref y_kept, .ref y_keptBy, .ref y_ahead, .ref y_against, .ref y_sum, .ref y_sumBy, .ref y_term, .ref y_termBy, .ref y_byNot, .ref y_valueOf, .int y_given, .ref y_lines, .ref y_lineWhat, .ref y_lineA, .ref y_lineB, .ref y_seens, .ref y_seenIn, .ref y_seenYards, .ref y_seenNear, .ref y_s, .ref y_aside, .ref y_before, .ref y_marked, .ref y_undone, .ref y_isLaid, .int (nI y_done), .int y_snowNow, .int y_cameNow, .int y_cookThen, .int y_tasteThen, .ref y_places, .ref y_comesAt, .ref y_yardsIn, .long y_g]), (y_tape, kI k 1000 (upd ay_tape_8 (Int32.toNatClampNeg (nI fy_1_8)) sg4))] := hD
                  exact hj114_5 (fy_1_8 + 1) (upd ay_tape_8 (Int32.toNatClampNeg (nI fy_1_8)) sg4) _ _ _ (by first | omega | assumption) (by first | exact nx_tv es4 (by omega) (by omega) | exact nx_f2 (by omega) | exact nx_f1v es4 (by omega)) (hP.sub [0, 1] rfl) (hD.sub [0, 1] (by decide) rfl) hS (lv_sub hl [2, 3, 4, 5, 6, 1, 0] rfl)
        refine lv_icmp_ge (tgt := 26) hx hb dX9_feed_19 (by decide) (fun c_12 => ?_) (fun c_12 => ?_)
        · skip
          have k_12 : 8 ≤ l7_8 := (nI_leI (a := 8) (b := l7_8) (by omega) (by omega)).mp c_12
          refine lv_iload hx hb dX9_feed_26 (lv_at hl 4 rfl) ?_
          refine lv_bipush (v := 16) hx hb dX9_feed_28 (by decide) ?_
          refine lv_icmp_ge (tgt := 37) hx hb dX9_feed_30 (by decide) (fun c_13 => ?_) (fun c_13 => ?_)
          · skip
            have k_13 : 16 ≤ l7_8 := (nI_leI (a := 16) (b := l7_8) (by omega) (by omega)).mp c_13
            refine lv_lload hx hb dX9_feed_37 (lv_at hl 3 rfl) ?_
            exact hj39_2 b3 _ _ _ (by first | exact (if_pos (by omega)).symm | exact ((if_neg (by omega)).trans (if_pos (by omega))).symm | exact ((if_neg (by omega)).trans (if_neg (by omega))).symm) (hP.sub [0, 1] rfl) (hD.sub [0, 1] (by decide) rfl) hS (lv_sub hl [0, 1, 2, 3, 4] rfl)
          · skip
            have k_13 : ¬ (16 ≤ l7_8) := fun h => c_13 ((nI_leI (a := 16) (b := l7_8) (by omega) (by omega)).mpr h)
            refine lv_lload_n hx hb dX9_feed_33 rfl (lv_at hl 2 rfl) ?_
            refine lv_goto (tgt := 39) hx hb dX9_feed_34 (by decide) ?_
            exact hj39_2 b2 _ _ _ (by first | exact (if_pos (by omega)).symm | exact ((if_neg (by omega)).trans (if_pos (by omega))).symm | exact ((if_neg (by omega)).trans (if_neg (by omega))).symm) (hP.sub [0, 1] rfl) (hD.sub [0, 1] (by decide) rfl) hS (lv_sub hl [0, 1, 2, 3, 4] rfl)
        · skip
          have k_12 : ¬ (8 ≤ l7_8) := fun h => c_12 ((nI_leI (a := 8) (b := l7_8) (by omega) (by omega)).mpr h)
          refine lv_lload_n hx hb dX9_feed_22 rfl (lv_at hl 1 rfl) ?_
          refine lv_goto (tgt := 39) hx hb dX9_feed_23 (by decide) ?_
          exact hj39_2 b1 _ _ _ (by first | exact (if_pos (by omega)).symm | exact ((if_neg (by omega)).trans (if_pos (by omega))).symm | exact ((if_neg (by omega)).trans (if_neg (by omega))).symm) (hP.sub [0, 1] rfl) (hD.sub [0, 1] (by decide) rfl) hS (lv_sub hl [0, 1, 2, 3, 4] rfl)
  exact hloop8 ((24 + 1 - 0) + 1) 0 y_taped y_tapeF _ _ _ (Nat.lt_succ_self _) (by first | omega | assumption) (by first | omega | assumption) rfl (hP.sub [0, 1] rfl) (hD.sub [0, 1] (by decide) rfl) hS (lv_sub hl [1, 2, 3, 4, 0] rfl)
