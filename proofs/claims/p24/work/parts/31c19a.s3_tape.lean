theorem dX6_put_0 : decode cX6_put 0 = .ok (.bipush 56, 2) := dk_bipush (by decide +kernel)
theorem dX6_put_2 : decode cX6_put 2 = .ok (.istore_n 3, 1) := dk_istore_n_3 (by decide +kernel)
theorem dX6_put_3 : decode cX6_put 3 = .ok (.iload_n 3, 1) := dk_iload_n_3 (by decide +kernel)
theorem dX6_put_4 : decode cX6_put 4 = .ok (.ifCond .lt 86, 3) := dk_ifCond_lt (by decide +kernel)
theorem dX6_put_7 : decode cX6_put 7 = .ok (.lload_n 1, 1) := dk_lload_n_1 (by decide +kernel)
theorem dX6_put_8 : decode cX6_put 8 = .ok (.iload_n 3, 1) := dk_iload_n_3 (by decide +kernel)
theorem dX6_put_9 : decode cX6_put 9 = .ok (.lushr, 1) := dk_lushr (by decide +kernel)
theorem dX6_put_10 : decode cX6_put 10 = .ok (.ldc2_w 39, 3) := dk_ldc2_w (by decide +kernel)
theorem dX6_put_13 : decode cX6_put 13 = .ok (.land, 1) := dk_land (by decide +kernel)
theorem dX6_put_14 : decode cX6_put 14 = .ok (.l2i, 1) := dk_l2i (by decide +kernel)
theorem dX6_put_15 : decode cX6_put 15 = .ok (.istore 4, 2) := dk_istore (by decide +kernel)
theorem dX6_put_17 : decode cX6_put 17 = .ok (.iload 4, 2) := dk_iload (by decide +kernel)
theorem dX6_put_19 : decode cX6_put 19 = .ok (.bipush 10, 2) := dk_bipush (by decide +kernel)
theorem dX6_put_21 : decode cX6_put 21 = .ok (.if_icmp .eq 17, 3) := dk_if_icmp_eq (by decide +kernel)
theorem dX6_put_24 : decode cX6_put 24 = .ok (.iload 4, 2) := dk_iload (by decide +kernel)
theorem dX6_put_26 : decode cX6_put 26 = .ok (.bipush 32, 2) := dk_bipush (by decide +kernel)
theorem dX6_put_28 : decode cX6_put 28 = .ok (.if_icmp .lt 14, 3) := dk_if_icmp_lt (by decide +kernel)
theorem dX6_put_31 : decode cX6_put 31 = .ok (.iload 4, 2) := dk_iload (by decide +kernel)
theorem dX6_put_33 : decode cX6_put 33 = .ok (.bipush 126, 2) := dk_bipush (by decide +kernel)
theorem dX6_put_35 : decode cX6_put 35 = .ok (.if_icmp .gt 7, 3) := dk_if_icmp_gt (by decide +kernel)
theorem dX6_put_38 : decode cX6_put 38 = .ok (.iconst 1, 1) := dk_iconst_1 (by decide +kernel)
theorem dX6_put_39 : decode cX6_put 39 = .ok (.goto 4, 3) := dk_goto (by decide +kernel)
theorem dX6_put_42 : decode cX6_put 42 = .ok (.iconst 0, 1) := dk_iconst_0 (by decide +kernel)
theorem dX6_put_43 : decode cX6_put 43 = .ok (.istore 5, 2) := dk_istore (by decide +kernel)
theorem dX6_put_45 : decode cX6_put 45 = .ok (.iload 5, 2) := dk_iload (by decide +kernel)
theorem dX6_put_47 : decode cX6_put 47 = .ok (.ifCond .eq 37, 3) := dk_ifCond_eq (by decide +kernel)
theorem dX6_put_50 : decode cX6_put 50 = .ok (.aload_n 0, 1) := dk_aload_n_0 (by decide +kernel)
theorem dX6_put_51 : decode cX6_put 51 = .ok (.getfield 41, 3) := dk_getfield (by decide +kernel)
theorem dX6_put_54 : decode cX6_put 54 = .ok (.aload_n 0, 1) := dk_aload_n_0 (by decide +kernel)
theorem dX6_put_55 : decode cX6_put 55 = .ok (.getfield 11, 3) := dk_getfield (by decide +kernel)
theorem dX6_put_58 : decode cX6_put 58 = .ok (.arraylength, 1) := dk_arraylength (by decide +kernel)
theorem dX6_put_59 : decode cX6_put 59 = .ok (.if_icmp .ge 25, 3) := dk_if_icmp_ge (by decide +kernel)
theorem dX6_put_62 : decode cX6_put 62 = .ok (.aload_n 0, 1) := dk_aload_n_0 (by decide +kernel)
theorem dX6_put_63 : decode cX6_put 63 = .ok (.getfield 11, 3) := dk_getfield (by decide +kernel)
theorem dX6_put_66 : decode cX6_put 66 = .ok (.aload_n 0, 1) := dk_aload_n_0 (by decide +kernel)
theorem dX6_put_67 : decode cX6_put 67 = .ok (.getfield 41, 3) := dk_getfield (by decide +kernel)
theorem dX6_put_70 : decode cX6_put 70 = .ok (.iload 4, 2) := dk_iload (by decide +kernel)
theorem dX6_put_72 : decode cX6_put 72 = .ok (.i2b, 1) := dk_i2b (by decide +kernel)
theorem dX6_put_73 : decode cX6_put 73 = .ok (.bastore, 1) := dk_bastore (by decide +kernel)
theorem dX6_put_74 : decode cX6_put 74 = .ok (.aload_n 0, 1) := dk_aload_n_0 (by decide +kernel)
theorem dX6_put_75 : decode cX6_put 75 = .ok (.dup, 1) := dk_dup (by decide +kernel)
theorem dX6_put_76 : decode cX6_put 76 = .ok (.getfield 41, 3) := dk_getfield (by decide +kernel)
theorem dX6_put_79 : decode cX6_put 79 = .ok (.iconst 1, 1) := dk_iconst_1 (by decide +kernel)
theorem dX6_put_80 : decode cX6_put 80 = .ok (.iadd, 1) := dk_iadd (by decide +kernel)
theorem dX6_put_81 : decode cX6_put 81 = .ok (.putfield 41, 3) := dk_putfield (by decide +kernel)
theorem dX6_put_84 : decode cX6_put 84 = .ok (.iinc 3 (-8), 3) := dk_iinc (by decide +kernel)
theorem dX6_put_87 : decode cX6_put 87 = .ok (.goto (-84), 3) := dk_goto (by decide +kernel)
theorem dX6_put_90 : decode cX6_put 90 = .ok (.return_, 1) := dk_return_ (by decide +kernel)
set_option maxHeartbeats 4000000 in
set_option maxRecDepth 100000 in
theorem sX6_put (l : Launch) (D : va_G) (k : Nat → ClassId) (sz : Nat) (ta : Nat) (by_ : Int64) (ta_signs : Nat) (ta_words : Nat) (ta_length : Nat) (ta_next : Nat) (ta_place : Int32) (ta_kind : Int32) (ta_value : Int32) (ta_letters : Int64) (ta_fault : Int32) (ta_signsF : Nat → Int32) (h_ta_length : ta_length ≤ 1000) (h_ta_next : ta_next ≤ 1000) : Met l yX6_put wsX6_put ({ frames := 0, cells := 0, slots := 0, locals := 0 }) (va_Pc [.ref ta, .long by_] (kz_Pre D k [(ta, kO 6 [.ref ta_signs, .ref ta_words, .int (nI ta_length), .int (nI ta_next), .int ta_place, .int ta_kind, .int ta_value, .long ta_letters, .int ta_fault]), (ta_signs, kB k 1000 ta_signsF)] sz)) (va_Qv (fun (uu : Nat × (Nat → Int32)) => (uu.1 ≤ 1000) ∧ ((uu.1, uu.2) = (fX6_put by_ ta_length ta_signsF))) (fun uu zt => kz_B D (va_A [(ta, kO 6 [.ref ta_signs, .ref ta_words, .int (nI ta_length), .int (nI ta_next), .int ta_place, .int ta_kind, .int ta_value, .long ta_letters, .int ta_fault]), (ta_signs, kB k 1000 ta_signsF)] sz) [(ta, kO 6 [.ref ta_signs, .ref ta_words, .int (nI uu.1), .int (nI ta_next), .int ta_place, .int ta_kind, .int ta_value, .long ta_letters, .int ta_fault]), (ta_signs, kB k 1000 uu.2)] zt) (va_A [(ta, kO 6 [.ref ta_signs, .ref ta_words, .int (nI ta_length), .int (nI ta_next), .int ta_place, .int ta_kind, .int ta_value, .long ta_letters, .int ta_fault]), (ta_signs, kB k 1000 ta_signsF)] sz)) 0 0 (va_A [(ta, kO 6 [.ref ta_signs, .ref ta_words, .int (nI ta_length), .int (nI ta_next), .int ta_place, .int ta_kind, .int ta_value, .long ta_letters, .int ta_fault]), (ta_signs, kB k 1000 ta_signsF)] sz) := by
  refine Met.ofW (cc := cX6_put) (maxL := 6) (ret := none) (by decide) rfl ?_
  intro p e s m args below meth c s₁ B hml hv
  obtain ⟨hav, hsz, hP, hK, hD0, hE⟩ := hv
  have hx := B.exec
  have hb := B.bytes
  have hr := B.returns
  have hts := atoms_spec (ws := wsX6_put) B.pre
  have hown : s.vm.findClass RX6 = some m.cls := findClass_of_methodNamed B.named
  have hlocks := B.notSynchronized
  have hi6 : ∀ w ∈ u_ws RX6 TX6 9, w ∈ wsX6_put := fun w h9 => List.mem_cons_of_mem _ (List.mem_append_right _ h9)
  have lc39 := hts (.constantLong RX6 39 (255)) (List.mem_cons_of_mem _ (List.mem_append_left _ (List.mem_of_getElem? (i := 0) rfl)))
  have lf41 := hts (.fieldLink RX6 41 "LastCook$Tape" "length" "I") (List.mem_cons_of_mem _ (List.mem_append_left _ (List.mem_of_getElem? (i := 1) rfl)))
  have lf11 := hts (.fieldLink RX6 11 "LastCook$Tape" "signs" "[B") (List.mem_cons_of_mem _ (List.mem_append_left _ (List.mem_of_getElem? (i := 2) rfl)))
  subst hsz
  have hD := hD0.self (sz := s.heap.size)
  generalize hAe : va_A [(ta, kO 6 [.ref ta_signs, .ref ta_words, .int (nI ta_length), .int (nI ta_next), .int ta_place, .int ta_kind, .int ta_value, .long ta_letters, .int ta_fault]), (ta_signs, kB k 1000 ta_signsF)] s.heap.size = A at hD ⊢
  have hA : ∀ q : Nat, s.heap.size ≤ q → A q := fun q h => by rw [← hAe]; exact Or.inr h
  have hS : va_S A s.heap s.heap [] := va_S.rf
  have hl := lv_entry ([.ref ta, .long by_]) (n := 6) (Nat.le_of_ble_eq_true rfl)
  rw [show entryFrame m args 6 = entryFrame m ([.ref ta, .long by_] : List Value).toArray 6 by rw [hav], lg_entry_eq]
  generalize (lg_sl ([.ref ta, .long by_]) ++ List.replicate (6 - (lg_sl ([.ref ta, .long by_])).length) Slot.unset).toArray = ls at hl ⊢
  have hl : lv_has ls 6 [(0, .ref ta), (1, .long by_)] := hl
  obtain ⟨R, hR⟩ : ∃ R, R = (headSpec wsX6_put ({ frames := 0, cells := 0, slots := 0, locals := 0 } : Room)).room := ⟨_, rfl⟩
  rw [← hR]
  generalize hQ : MQ below _ args s 0 0 A = Q
  replace hQ := hQ.symm
  obtain ⟨H, hH⟩ : ∃ H, H = s.heap := ⟨_, rfl⟩
  rw [← hH] at hP ⊢
  have hS : va_S A s.heap H [] := by rw [hH]; exact hS
  obtain ⟨E0, hE0⟩ : ∃ E0 : Nat × (Nat → Int32), E0 = (fX6_put by_ ta_length ta_signsF) := ⟨_, rfl⟩
  have hZ : (fX6_put by_ ta_length ta_signsF) = E0 := hE0.symm
  refine lv_bipush (v := 56) hx hb dX6_put_0 (by decide) ?_
  refine lv_istore_n (lv' := [(3, .int 56), (0, .ref ta), (1, .long by_)]) hx hb dX6_put_2 rfl hl (by decide) rfl (fun ls hl => ?_)
  exact by
   have hloop3 : ∀ (nq : Nat) (l3_3 : Int32) (fta_2_3 : Nat) (ata_signs_3 : Nat → Int32) (H : Heap) (locs : List Loc) (ls : Array Slot), (Int32.toInt l3_3 - ((-8)) + 1).toNat < nq → ((-8) ≤ Int32.toInt l3_3 ∧ Int32.toInt l3_3 ≤ 56) → (fta_2_3 ≤ 1000) → (lp (fun _ _ _ => (0, (fun _ => 0))) (fX6_put_B3a by_) nq l3_3 fta_2_3 ata_signs_3 = E0) → va_P D vwCl [(ta, kO 6 [.ref ta_signs, .ref ta_words, .int (nI fta_2_3), .int (nI ta_next), .int ta_place, .int ta_kind, .int ta_value, .long ta_letters, .int ta_fault]), (ta_signs, kB k 1000 ata_signs_3)] H → va_D A [(ta, kO 6 [.ref ta_signs, .ref ta_words, .int (nI fta_2_3), .int (nI ta_next), .int ta_place, .int ta_kind, .int ta_value, .long ta_letters, .int ta_fault]), (ta_signs, kB k 1000 ata_signs_3)] → va_S A s.heap H locs → lv_has ls 6 [(0, .ref ta), (1, .long by_), (3, .int l3_3)] → W p l e R s m args below meth c H locs 0 0 Q (F0 m 3 ls []) := by
     intro n3
     induction n3 with
     | zero => intro l3_3 fta_2_3 ata_signs_3 H locs ls hm; exact absurd hm (Nat.not_lt_zero _)
     | succ n3 ih3 =>
       intro l3_3 fta_2_3 ata_signs_3 H locs ls hm3 i_l3_3 i_fta_2_3 hZ hP hD hS hl
       obtain ⟨rc3_1, hrc3_1⟩ : ∃ r : Int32 → Nat → (Nat → Int32) → Nat × (Nat → Int32), r = lp (fun _ _ _ => (0, (fun _ => 0))) (fX6_put_B3a by_) n3 := ⟨_, rfl⟩
       have hZ : (fX6_put_B3a by_) rc3_1 l3_3 fta_2_3 ata_signs_3 = E0 := by rw [hrc3_1]; exact hZ
       refine lv_iload_n hx hb dX6_put_3 rfl (lv_at hl 2 rfl) ?_
       refine lv_if_lt (tgt := 90) hx hb dX6_put_4 (by decide) (fun c_2 => ?_) (fun c_2 => ?_)
       · exact by
          have t_2 : (Int32.toInt l3_3) < 0 := tI_lt rfl (by decide) c_2
          have hZ := (if_pos c_2).symm.trans hZ
          rw [hQ]
          have hP9 := hP.sub (ws' := [(ta, kO 6 [.ref ta_signs, .ref ta_words, .int (nI fta_2_3), .int (nI ta_next), .int ta_place, .int ta_kind, .int ta_value, .long ta_letters, .int ta_fault]), (ta_signs, kB k 1000 ata_signs_3)]) [0, 1] rfl
          have hD9 := hD.sub (ws' := [(ta, kO 6 [.ref ta_signs, .ref ta_words, .int (nI fta_2_3), .int (nI ta_next), .int ta_place, .int ta_kind, .int ta_value, .long ta_letters, .int ta_fault]), (ta_signs, kB k 1000 ata_signs_3)]) [0, 1] (by decide +kernel) rfl
          exact W.vret hx hb hr (fun zt ht hW => ⟨⟨⟨fta_2_3, ata_signs_3⟩, rfl, ⟨(by first | omega | (dsimp only; omega) | assumption), (hZ.trans hE0)⟩, by rw [ht]; exact hP9, hD9⟩, hS.F ht⟩) hS.2.2 dX6_put_90
       · exact by
          have t_2 : (Int32.toInt l3_3) ≥ 0 := tI_nlt rfl (by decide) c_2
          have hZ := (if_neg c_2).symm.trans hZ
          refine lv_lload_n hx hb dX6_put_7 rfl (lv_at hl 1 rfl) ?_
          refine lv_iload_n hx hb dX6_put_8 rfl (lv_at hl 2 rfl) ?_
          refine lv_lushr hx hb dX6_put_9 rfl ?_
          refine lv_ldc2 hx hb hown lc39 dX6_put_10 ?_
          refine lv_land hx hb dX6_put_13 ?_
          refine lv_l2i hx hb dX6_put_14 rfl ?_
          refine lv_istore (lv' := [(4, .int ((((by_.toUInt64 >>> (l3_3.toInt64.toUInt64 &&& Int64.toUInt64 63)).toInt64) &&& 255).toInt32)), (0, .ref ta), (1, .long by_), (3, .int l3_3)]) hx hb dX6_put_15 hl (by decide) rfl (fun ls hl => ?_)
          exact by
           refine lv_iload hx hb dX6_put_17 (lv_at hl 0 rfl) ?_
           refine lv_bipush (v := 10) hx hb dX6_put_19 (by decide) ?_
           have hj43_3 : ∀ (s0_43 : Bool) (H : Heap) (locs : List Loc) (ls : Array Slot), ((fX6_put_J43a by_ l3_3 fta_2_3 ata_signs_3 rc3_1) s0_43 = E0) → va_P D vwCl [(ta, kO 6 [.ref ta_signs, .ref ta_words, .int (nI fta_2_3), .int (nI ta_next), .int ta_place, .int ta_kind, .int ta_value, .long ta_letters, .int ta_fault]), (ta_signs, kB k 1000 ata_signs_3)] H → va_D A [(ta, kO 6 [.ref ta_signs, .ref ta_words, .int (nI fta_2_3), .int (nI ta_next), .int ta_place, .int ta_kind, .int ta_value, .long ta_letters, .int ta_fault]), (ta_signs, kB k 1000 ata_signs_3)] → va_S A s.heap H locs → lv_has ls 6 [(0, .ref ta), (1, .long by_), (3, .int l3_3), (4, .int ((((by_.toUInt64 >>> (l3_3.toInt64.toUInt64 &&& Int64.toUInt64 63)).toInt64) &&& 255).toInt32))] → W p l e R s m args below meth c H locs 0 0 Q (F0 m 43 ls [.int (bB s0_43)]) := by
             intro s0_43 H locs ls hZ hP hD hS hl
             refine lv_istore (lv' := [(5, .int (bB s0_43)), (0, .ref ta), (1, .long by_), (3, .int l3_3), (4, .int ((((by_.toUInt64 >>> (l3_3.toInt64.toUInt64 &&& Int64.toUInt64 63)).toInt64) &&& 255).toInt32))]) hx hb dX6_put_43 hl (by decide) rfl (fun ls hl => ?_)
             exact by
              refine lv_iload hx hb dX6_put_45 (lv_at hl 0 rfl) ?_
              have hj84_4 : ∀ (fta_2_84 : Nat) (ata_signs_84 : Nat → Int32) (H : Heap) (locs : List Loc) (ls : Array Slot), (fta_2_84 ≤ 1000) → ((fX6_put_J84a l3_3 rc3_1) fta_2_84 ata_signs_84 = E0) → va_P D vwCl [(ta, kO 6 [.ref ta_signs, .ref ta_words, .int (nI fta_2_84), .int (nI ta_next), .int ta_place, .int ta_kind, .int ta_value, .long ta_letters, .int ta_fault]), (ta_signs, kB k 1000 ata_signs_84)] H → va_D A [(ta, kO 6 [.ref ta_signs, .ref ta_words, .int (nI fta_2_84), .int (nI ta_next), .int ta_place, .int ta_kind, .int ta_value, .long ta_letters, .int ta_fault]), (ta_signs, kB k 1000 ata_signs_84)] → va_S A s.heap H locs → lv_has ls 6 [(0, .ref ta), (1, .long by_), (3, .int l3_3), (4, .int ((((by_.toUInt64 >>> (l3_3.toInt64.toUInt64 &&& Int64.toUInt64 63)).toInt64) &&& 255).toInt32)), (5, .int (bB s0_43))] → W p l e R s m args below meth c H locs 0 0 Q (F0 m 84 ls []) := by
                intro fta_2_84 ata_signs_84 H locs ls i_fta_2_84 hZ hP hD hS hl
                refine lv_iinc (v := (l3_3 + (-8))) (lv' := [(3, .int (l3_3 + (-8))), (0, .ref ta), (1, .long by_), (4, .int ((((by_.toUInt64 >>> (l3_3.toInt64.toUInt64 &&& Int64.toUInt64 63)).toInt64) &&& 255).toInt32)), (5, .int (bB s0_43))]) hx hb dX6_put_84 hl (k := 2) rfl rfl (by decide) rfl (fun ls hl => ?_)
                exact by
                 have ta_5 : Int32.toInt (l3_3 + (-8)) = (Int32.toInt l3_3) + (-8) := tI_add rfl (by decide) (by omega) (by omega)
                 refine lv_goto (tgt := 3) hx hb dX6_put_87 (by decide) ?_
                 exact ih3 (l3_3 + (-8)) fta_2_84 ata_signs_84 _ _ _ (by omega) (by first | omega | assumption) (by first | omega | assumption) (by rw [← hrc3_1]; exact hZ) (hP.sub [0, 1] rfl) (hD.sub [0, 1] (by decide +kernel) rfl) hS (lv_sub hl [1, 2, 0] rfl)
              refine lv_if_eq (tgt := 84) hx hb dX6_put_47 (by decide) (fun c_6 => ?_) (fun c_6 => ?_)
              · exact by
                 have b_6 : s0_43 = false := bB_0 c_6
                 have hZ := (if_neg (bF b_6)).symm.trans hZ
                 exact hj84_4 fta_2_3 ata_signs_3 _ _ _ (by first | omega | assumption) hZ (hP.sub [0, 1] rfl) (hD.sub [0, 1] (by decide +kernel) rfl) hS (lv_sub hl [1, 2, 3, 4, 0] rfl)
              · exact by
                 have b_6 : s0_43 = true := bB_1 c_6
                 have hZ := (if_pos b_6).symm.trans hZ
                 refine lv_aload_n hx hb dX6_put_50 rfl (lv_at hl 1 rfl) ?_
                 refine va_get (D := D) (ci := 6) (v := .int (nI fta_2_3)) (C := RX6) (T := TX6) (N := 9) hx hb hts hi6 hown hK hP 0 rfl rfl 2 (by decide) lf41 (fun _ h9 => h9) rfl dX6_put_51 ?_
                 refine lv_aload_n hx hb dX6_put_54 rfl (lv_at hl 1 rfl) ?_
                 refine va_get (D := D) (ci := 6) (v := .ref ta_signs) (C := RX6) (T := TX6) (N := 9) hx hb hts hi6 hown hK hP 0 rfl rfl 0 (by decide) lf11 (fun _ h9 => h9) rfl dX6_put_55 ?_
                 refine va_alen (v := 1000) hx hb hK hP 1 2 rfl rfl rfl dX6_put_58 ?_
                 refine lv_icmp_ge (tgt := 84) hx hb dX6_put_59 (by decide) (fun c_7 => ?_) (fun c_7 => ?_)
                 · exact by
                    have k_7 : 1000 ≤ fta_2_3 := (nI_leI (a := 1000) (b := fta_2_3) (by omega) (by omega)).mp c_7
                    have hZ := (if_pos k_7).symm.trans hZ
                    exact hj84_4 fta_2_3 ata_signs_3 _ _ _ (by first | omega | assumption) hZ (hP.sub [0, 1] rfl) (hD.sub [0, 1] (by decide +kernel) rfl) hS (lv_sub hl [1, 2, 3, 4, 0] rfl)
                 · exact by
                    have k_7 : ¬ (1000 ≤ fta_2_3) := fun h => c_7 ((nI_leI (a := 1000) (b := fta_2_3) (by omega) (by omega)).mpr h)
                    have hZ := (if_neg k_7).symm.trans hZ
                    refine lv_aload_n hx hb dX6_put_62 rfl (lv_at hl 1 rfl) ?_
                    refine va_get (D := D) (ci := 6) (v := .ref ta_signs) (C := RX6) (T := TX6) (N := 9) hx hb hts hi6 hown hK hP 0 rfl rfl 0 (by decide) lf11 (fun _ h9 => h9) rfl dX6_put_63 ?_
                    refine lv_aload_n hx hb dX6_put_66 rfl (lv_at hl 1 rfl) ?_
                    refine va_get (D := D) (ci := 6) (v := .int (nI fta_2_3)) (C := RX6) (T := TX6) (N := 9) hx hb hts hi6 hown hK hP 0 rfl rfl 2 (by decide) lf41 (fun _ h9 => h9) rfl dX6_put_67 ?_
                    refine lv_iload hx hb dX6_put_70 (lv_at hl 4 rfl) ?_
                    refine lv_i2b hx hb dX6_put_72 rfl ?_
                    refine va_bast hx hb hK hP hD hS 1 2 rfl rfl (vp_in_nI (n := fta_2_3) (by omega) (by omega)) dX6_put_73 (fun H locs hP hD hS => ?_)
                    exact by
                     have hP : va_P D vwCl [(ta, kO 6 [.ref ta_signs, .ref ta_words, .int (nI fta_2_3), .int (nI ta_next), .int ta_place, .int ta_kind, .int ta_value, .long ta_letters, .int ta_fault]), (ta_signs, kB k 1000 (upd ata_signs_3 (Int32.toNatClampNeg (nI fta_2_3)) (vp_nar .byte (((((by_.toUInt64 >>> (l3_3.toInt64.toUInt64 &&& Int64.toUInt64 63)).toInt64) &&& 255).toInt32).toInt8.toInt32))))] H := hP
                     have hD : va_D A [(ta, kO 6 [.ref ta_signs, .ref ta_words, .int (nI fta_2_3), .int (nI ta_next), .int ta_place, .int ta_kind, .int ta_value, .long ta_letters, .int ta_fault]), (ta_signs, kB k 1000 (upd ata_signs_3 (Int32.toNatClampNeg (nI fta_2_3)) (vp_nar .byte (((((by_.toUInt64 >>> (l3_3.toInt64.toUInt64 &&& Int64.toUInt64 63)).toInt64) &&& 255).toInt32).toInt8.toInt32))))] := hD
                     refine lv_aload_n hx hb dX6_put_74 rfl (lv_at hl 1 rfl) ?_
                     refine lv_dup hx hb dX6_put_75 rfl ?_
                     refine va_get (D := D) (ci := 6) (v := .int (nI fta_2_3)) (C := RX6) (T := TX6) (N := 9) hx hb hts hi6 hown hK hP 0 rfl rfl 2 (by decide) lf41 (fun _ h9 => h9) rfl dX6_put_76 ?_
                     refine lv_iconst (v := 1) hx hb dX6_put_79 (by decide) ?_
                     refine lv_iadd hx hb dX6_put_80 ?_
                     refine lv_topi (fun x8 ex8 => ?_)
                     exact by
                      obtain rfl : x8 = (nI (fta_2_3 + 1)) := ex8.trans (nI_add fta_2_3 1)
                      refine va_put (D := D) (ci := 6) (v := .int (nI (fta_2_3 + 1))) (ty := .int) (C := RX6) (T := TX6) (N := 9) hx hb hts hi6 tyX6 tyX6_ok nmX6 hown hK hP hD hS 0 rfl rfl 2 (by decide) lf41 (fun _ h9 => h9) rfl (by decide +kernel) rfl rfl (Nat.le_of_ble_eq_true rfl) dX6_put_81 (fun H locs hP hD hS => ?_)
                      exact by
                       have hP : va_P D vwCl [(ta, kO 6 [.ref ta_signs, .ref ta_words, .int (nI (fta_2_3 + 1)), .int (nI ta_next), .int ta_place, .int ta_kind, .int ta_value, .long ta_letters, .int ta_fault]), (ta_signs, kB k 1000 (upd ata_signs_3 (Int32.toNatClampNeg (nI fta_2_3)) (vp_nar .byte (((((by_.toUInt64 >>> (l3_3.toInt64.toUInt64 &&& Int64.toUInt64 63)).toInt64) &&& 255).toInt32).toInt8.toInt32))))] H := hP
                       have hD : va_D A [(ta, kO 6 [.ref ta_signs, .ref ta_words, .int (nI (fta_2_3 + 1)), .int (nI ta_next), .int ta_place, .int ta_kind, .int ta_value, .long ta_letters, .int ta_fault]), (ta_signs, kB k 1000 (upd ata_signs_3 (Int32.toNatClampNeg (nI fta_2_3)) (vp_nar .byte (((((by_.toUInt64 >>> (l3_3.toInt64.toUInt64 &&& Int64.toUInt64 63)).toInt64) &&& 255).toInt32).toInt8.toInt32))))] := hD
                       exact hj84_4 (fta_2_3 + 1) (upd ata_signs_3 (Int32.toNatClampNeg (nI fta_2_3)) (vp_nar .byte (((((by_.toUInt64 >>> (l3_3.toInt64.toUInt64 &&& Int64.toUInt64 63)).toInt64) &&& 255).toInt32).toInt8.toInt32))) _ _ _ (by first | omega | assumption) hZ (hP.sub [0, 1] rfl) (hD.sub [0, 1] (by decide +kernel) rfl) hS (lv_sub hl [1, 2, 3, 4, 0] rfl)
           have hj38_9 : ∀ (H : Heap) (locs : List Loc) (ls : Array Slot), ((fX6_put_J38a by_ l3_3 fta_2_3 ata_signs_3 rc3_1) = E0) → va_P D vwCl [(ta, kO 6 [.ref ta_signs, .ref ta_words, .int (nI fta_2_3), .int (nI ta_next), .int ta_place, .int ta_kind, .int ta_value, .long ta_letters, .int ta_fault]), (ta_signs, kB k 1000 ata_signs_3)] H → va_D A [(ta, kO 6 [.ref ta_signs, .ref ta_words, .int (nI fta_2_3), .int (nI ta_next), .int ta_place, .int ta_kind, .int ta_value, .long ta_letters, .int ta_fault]), (ta_signs, kB k 1000 ata_signs_3)] → va_S A s.heap H locs → lv_has ls 6 [(0, .ref ta), (1, .long by_), (3, .int l3_3), (4, .int ((((by_.toUInt64 >>> (l3_3.toInt64.toUInt64 &&& Int64.toUInt64 63)).toInt64) &&& 255).toInt32))] → W p l e R s m args below meth c H locs 0 0 Q (F0 m 38 ls []) := by
             intro H locs ls hZ hP hD hS hl
             refine lv_iconst (v := 1) hx hb dX6_put_38 (by decide) ?_
             refine lv_goto (tgt := 43) hx hb dX6_put_39 (by decide) ?_
             exact hj43_3 true _ _ _ hZ (hP.sub [0, 1] rfl) (hD.sub [0, 1] (by decide +kernel) rfl) hS (lv_sub hl [0, 1, 2, 3] rfl)
           refine lv_icmp_eq (tgt := 38) hx hb dX6_put_21 (by decide) (fun c_10 => ?_) (fun c_10 => ?_)
           · exact by
              have hZ := (if_pos c_10).symm.trans hZ
              exact hj38_9 _ _ _ hZ (hP.sub [0, 1] rfl) (hD.sub [0, 1] (by decide +kernel) rfl) hS (lv_sub hl [1, 2, 3, 0] rfl)
           · exact by
              have hZ := (if_neg c_10).symm.trans hZ
              refine lv_iload hx hb dX6_put_24 (lv_at hl 0 rfl) ?_
              refine lv_bipush (v := 32) hx hb dX6_put_26 (by decide) ?_
              have hj42_11 : ∀ (H : Heap) (locs : List Loc) (ls : Array Slot), ((fX6_put_J42a by_ l3_3 fta_2_3 ata_signs_3 rc3_1) = E0) → va_P D vwCl [(ta, kO 6 [.ref ta_signs, .ref ta_words, .int (nI fta_2_3), .int (nI ta_next), .int ta_place, .int ta_kind, .int ta_value, .long ta_letters, .int ta_fault]), (ta_signs, kB k 1000 ata_signs_3)] H → va_D A [(ta, kO 6 [.ref ta_signs, .ref ta_words, .int (nI fta_2_3), .int (nI ta_next), .int ta_place, .int ta_kind, .int ta_value, .long ta_letters, .int ta_fault]), (ta_signs, kB k 1000 ata_signs_3)] → va_S A s.heap H locs → lv_has ls 6 [(0, .ref ta), (1, .long by_), (3, .int l3_3), (4, .int ((((by_.toUInt64 >>> (l3_3.toInt64.toUInt64 &&& Int64.toUInt64 63)).toInt64) &&& 255).toInt32))] → W p l e R s m args below meth c H locs 0 0 Q (F0 m 42 ls []) := by
                intro H locs ls hZ hP hD hS hl
                refine lv_iconst (v := 0) hx hb dX6_put_42 (by decide) ?_
                exact hj43_3 false _ _ _ hZ (hP.sub [0, 1] rfl) (hD.sub [0, 1] (by decide +kernel) rfl) hS (lv_sub hl [0, 1, 2, 3] rfl)
              refine lv_icmp_lt (tgt := 42) hx hb dX6_put_28 (by decide) (fun c_12 => ?_) (fun c_12 => ?_)
              · exact by
                 have hZ := (if_pos c_12).symm.trans hZ
                 exact hj42_11 _ _ _ hZ (hP.sub [0, 1] rfl) (hD.sub [0, 1] (by decide +kernel) rfl) hS (lv_sub hl [1, 2, 3, 0] rfl)
              · exact by
                 have hZ := (if_neg c_12).symm.trans hZ
                 refine lv_iload hx hb dX6_put_31 (lv_at hl 0 rfl) ?_
                 refine lv_bipush (v := 126) hx hb dX6_put_33 (by decide) ?_
                 refine lv_icmp_gt (tgt := 42) hx hb dX6_put_35 (by decide) (fun c_13 => ?_) (fun c_13 => ?_)
                 · exact by
                    have hZ := (if_pos c_13).symm.trans hZ
                    exact hj42_11 _ _ _ hZ (hP.sub [0, 1] rfl) (hD.sub [0, 1] (by decide +kernel) rfl) hS (lv_sub hl [1, 2, 3, 0] rfl)
                 · exact by
                    have hZ := (if_neg c_13).symm.trans hZ
                    exact hj38_9 _ _ _ hZ (hP.sub [0, 1] rfl) (hD.sub [0, 1] (by decide +kernel) rfl) hS (lv_sub hl [1, 2, 3, 0] rfl)
   have tq14 : Int32.toInt 56 = 56 := by decide
   exact hloop3 (((Int32.toInt (56 : Int32) - ((-8)) + 1).toNat) + 1) (56 : Int32) ta_length ta_signsF _ _ _ (Nat.lt_succ_self _) (by first | omega | assumption) (by first | omega | assumption) hZ (hP.sub [0, 1] rfl) (hD.sub [0, 1] (by decide +kernel) rfl) hS (lv_sub hl [1, 2, 0] rfl)
theorem dX6_clear_0 : decode cX6_clear 0 = .ok (.aload_n 0, 1) := dk_aload_n_0 (by decide +kernel)
theorem dX6_clear_1 : decode cX6_clear 1 = .ok (.iconst 0, 1) := dk_iconst_0 (by decide +kernel)
theorem dX6_clear_2 : decode cX6_clear 2 = .ok (.putfield 41, 3) := dk_putfield (by decide +kernel)
theorem dX6_clear_5 : decode cX6_clear 5 = .ok (.return_, 1) := dk_return_ (by decide +kernel)
set_option maxHeartbeats 4000000 in
set_option maxRecDepth 100000 in
theorem sX6_clear (l : Launch) (D : va_G) (k : Nat → ClassId) (sz : Nat) (ta : Nat) (ta_signs : Nat) (ta_words : Nat) (ta_length : Nat) (ta_next : Nat) (ta_place : Int32) (ta_kind : Int32) (ta_value : Int32) (ta_letters : Int64) (ta_fault : Int32) (h_ta_length : ta_length ≤ 1000) (h_ta_next : ta_next ≤ 1000) : Met l yX6_clear wsX6_clear ({ frames := 0, cells := 0, slots := 0, locals := 0 }) (va_Pc [.ref ta] (kz_Pre D k [(ta, kO 6 [.ref ta_signs, .ref ta_words, .int (nI ta_length), .int (nI ta_next), .int ta_place, .int ta_kind, .int ta_value, .long ta_letters, .int ta_fault])] sz)) (va_Qv (fun (uu : Nat) => (uu ≤ 1000) ∧ (uu = 0) ∧ ((uu) = fX6_clear)) (fun uu zt => kz_B D (va_A [(ta, kO 6 [.ref ta_signs, .ref ta_words, .int (nI ta_length), .int (nI ta_next), .int ta_place, .int ta_kind, .int ta_value, .long ta_letters, .int ta_fault])] sz) [(ta, kO 6 [.ref ta_signs, .ref ta_words, .int (nI uu), .int (nI ta_next), .int ta_place, .int ta_kind, .int ta_value, .long ta_letters, .int ta_fault])] zt) (va_A [(ta, kO 6 [.ref ta_signs, .ref ta_words, .int (nI ta_length), .int (nI ta_next), .int ta_place, .int ta_kind, .int ta_value, .long ta_letters, .int ta_fault])] sz)) 0 0 (va_A [(ta, kO 6 [.ref ta_signs, .ref ta_words, .int (nI ta_length), .int (nI ta_next), .int ta_place, .int ta_kind, .int ta_value, .long ta_letters, .int ta_fault])] sz) := by
  refine Met.ofW (cc := cX6_clear) (maxL := 1) (ret := none) (by decide) rfl ?_
  intro p e s m args below meth c s₁ B hml hv
  obtain ⟨hav, hsz, hP, hK, hD0, hE⟩ := hv
  have hx := B.exec
  have hb := B.bytes
  have hr := B.returns
  have hts := atoms_spec (ws := wsX6_clear) B.pre
  have hown : s.vm.findClass RX6 = some m.cls := findClass_of_methodNamed B.named
  have hlocks := B.notSynchronized
  have hi6 : ∀ w ∈ u_ws RX6 TX6 9, w ∈ wsX6_clear := fun w h9 => List.mem_cons_of_mem _ (List.mem_append_right _ h9)
  have lf41 := hts (.fieldLink RX6 41 "LastCook$Tape" "length" "I") (List.mem_cons_of_mem _ (List.mem_append_left _ (List.mem_of_getElem? (i := 0) rfl)))
  subst hsz
  have hD := hD0.self (sz := s.heap.size)
  generalize hAe : va_A [(ta, kO 6 [.ref ta_signs, .ref ta_words, .int (nI ta_length), .int (nI ta_next), .int ta_place, .int ta_kind, .int ta_value, .long ta_letters, .int ta_fault])] s.heap.size = A at hD ⊢
  have hA : ∀ q : Nat, s.heap.size ≤ q → A q := fun q h => by rw [← hAe]; exact Or.inr h
  have hS : va_S A s.heap s.heap [] := va_S.rf
  have hl := lv_entry ([.ref ta]) (n := 1) (Nat.le_of_ble_eq_true rfl)
  rw [show entryFrame m args 1 = entryFrame m ([.ref ta] : List Value).toArray 1 by rw [hav], lg_entry_eq]
  generalize (lg_sl ([.ref ta]) ++ List.replicate (1 - (lg_sl ([.ref ta])).length) Slot.unset).toArray = ls at hl ⊢
  have hl : lv_has ls 1 [(0, .ref ta)] := hl
  obtain ⟨R, hR⟩ : ∃ R, R = (headSpec wsX6_clear ({ frames := 0, cells := 0, slots := 0, locals := 0 } : Room)).room := ⟨_, rfl⟩
  rw [← hR]
  generalize hQ : MQ below _ args s 0 0 A = Q
  replace hQ := hQ.symm
  obtain ⟨H, hH⟩ : ∃ H, H = s.heap := ⟨_, rfl⟩
  rw [← hH] at hP ⊢
  have hS : va_S A s.heap H [] := by rw [hH]; exact hS
  obtain ⟨E0, hE0⟩ : ∃ E0 : Nat, E0 = fX6_clear := ⟨_, rfl⟩
  have hZ : fX6_clear = E0 := hE0.symm
  refine lv_aload_n hx hb dX6_clear_0 rfl (lv_at hl 0 rfl) ?_
  refine lv_iconst (v := 0) hx hb dX6_clear_1 (by decide) ?_
  refine va_put (D := D) (ci := 6) (v := .int 0) (ty := .int) (C := RX6) (T := TX6) (N := 9) hx hb hts hi6 tyX6 tyX6_ok nmX6 hown hK hP hD hS 0 rfl rfl 2 (by decide) lf41 (fun _ h9 => h9) rfl (by decide +kernel) rfl rfl (Nat.le_of_ble_eq_true rfl) dX6_clear_2 (fun H locs hP hD hS => ?_)
  exact by
   have hP : va_P D vwCl [(ta, kO 6 [.ref ta_signs, .ref ta_words, .int 0, .int (nI ta_next), .int ta_place, .int ta_kind, .int ta_value, .long ta_letters, .int ta_fault])] H := hP
   have hD : va_D A [(ta, kO 6 [.ref ta_signs, .ref ta_words, .int 0, .int (nI ta_next), .int ta_place, .int ta_kind, .int ta_value, .long ta_letters, .int ta_fault])] := hD
   rw [hQ]
   have hP9 := hP.sub (ws' := [(ta, kO 6 [.ref ta_signs, .ref ta_words, .int (nI 0), .int (nI ta_next), .int ta_place, .int ta_kind, .int ta_value, .long ta_letters, .int ta_fault])]) [0] rfl
   have hD9 := hD.sub (ws' := [(ta, kO 6 [.ref ta_signs, .ref ta_words, .int (nI 0), .int (nI ta_next), .int ta_place, .int ta_kind, .int ta_value, .long ta_letters, .int ta_fault])]) [0] (by decide +kernel) rfl
   exact W.vret hx hb hr (fun zt ht hW => ⟨⟨0, rfl, ⟨(by first | omega | (dsimp only; omega) | assumption), (by first | omega | (dsimp only; omega) | assumption), (hZ.trans hE0)⟩, by rw [ht]; exact hP9, hD9⟩, hS.F ht⟩) hS.2.2 dX6_clear_5
theorem dX6_isLetter_0 : decode cX6_isLetter 0 = .ok (.iload_n 0, 1) := dk_iload_n_0 (by decide +kernel)
theorem dX6_isLetter_1 : decode cX6_isLetter 1 = .ok (.bipush 97, 2) := dk_bipush (by decide +kernel)
theorem dX6_isLetter_3 : decode cX6_isLetter 3 = .ok (.if_icmp .lt 13, 3) := dk_if_icmp_lt (by decide +kernel)
theorem dX6_isLetter_6 : decode cX6_isLetter 6 = .ok (.iload_n 0, 1) := dk_iload_n_0 (by decide +kernel)
theorem dX6_isLetter_7 : decode cX6_isLetter 7 = .ok (.bipush 122, 2) := dk_bipush (by decide +kernel)
theorem dX6_isLetter_9 : decode cX6_isLetter 9 = .ok (.if_icmp .gt 7, 3) := dk_if_icmp_gt (by decide +kernel)
theorem dX6_isLetter_12 : decode cX6_isLetter 12 = .ok (.iconst 1, 1) := dk_iconst_1 (by decide +kernel)
theorem dX6_isLetter_13 : decode cX6_isLetter 13 = .ok (.goto 4, 3) := dk_goto (by decide +kernel)
theorem dX6_isLetter_16 : decode cX6_isLetter 16 = .ok (.iconst 0, 1) := dk_iconst_0 (by decide +kernel)
theorem dX6_isLetter_17 : decode cX6_isLetter 17 = .ok (.ireturn, 1) := dk_ireturn (by decide +kernel)
set_option maxHeartbeats 4000000 in
set_option maxRecDepth 100000 in
theorem sX6_isLetter (l : Launch) (D : va_G) (k : Nat → ClassId) (sz : Nat) (x : Int32) : Met l yX6_isLetter wsX6_isLetter ({ frames := 0, cells := 0, slots := 0, locals := 0 }) (va_Pc [.int x] (kz_Pre D k [] sz)) (va_Qi (fun (rr : Int32) (uu : Bool) => rr = bB uu ∧ ((uu) = (fX6_isLetter x))) (fun uu zt => kz_B D (va_A [] sz) [] zt) (va_A [] sz)) 0 0 (va_A [] sz) := by
  refine Met.ofW (cc := cX6_isLetter) (maxL := 1) (ret := (some .boolean)) (by decide) rfl ?_
  intro p e s m args below meth c s₁ B hml hv
  obtain ⟨hav, hsz, hP, hK, hD0, hE⟩ := hv
  have hx := B.exec
  have hb := B.bytes
  have hr := B.returns
  have hts := atoms_spec (ws := wsX6_isLetter) B.pre
  have hown : s.vm.findClass RX6 = some m.cls := findClass_of_methodNamed B.named
  have hlocks := B.notSynchronized
  subst hsz
  have hD := hD0.self (sz := s.heap.size)
  generalize hAe : va_A [] s.heap.size = A at hD ⊢
  have hA : ∀ q : Nat, s.heap.size ≤ q → A q := fun q h => by rw [← hAe]; exact Or.inr h
  have hS : va_S A s.heap s.heap [] := va_S.rf
  have hl := lv_entry ([.int x]) (n := 1) (Nat.le_of_ble_eq_true rfl)
  rw [show entryFrame m args 1 = entryFrame m ([.int x] : List Value).toArray 1 by rw [hav], lg_entry_eq]
  generalize (lg_sl ([.int x]) ++ List.replicate (1 - (lg_sl ([.int x])).length) Slot.unset).toArray = ls at hl ⊢
  have hl : lv_has ls 1 [(0, .int x)] := hl
  obtain ⟨R, hR⟩ : ∃ R, R = (headSpec wsX6_isLetter ({ frames := 0, cells := 0, slots := 0, locals := 0 } : Room)).room := ⟨_, rfl⟩
  rw [← hR]
  generalize hQ : MQ below _ args s 0 0 A = Q
  replace hQ := hQ.symm
  obtain ⟨H, hH⟩ : ∃ H, H = s.heap := ⟨_, rfl⟩
  rw [← hH] at hP ⊢
  have hS : va_S A s.heap H [] := by rw [hH]; exact hS
  obtain ⟨E0, hE0⟩ : ∃ E0 : Bool, E0 = (fX6_isLetter x) := ⟨_, rfl⟩
  have hZ : (fX6_isLetter x) = E0 := hE0.symm
  refine lv_iload_n hx hb dX6_isLetter_0 rfl (lv_at hl 0 rfl) ?_
  refine lv_bipush (v := 97) hx hb dX6_isLetter_1 (by decide) ?_
  have hj17_1 : ∀ (s0_17 : Bool) (H : Heap) (locs : List Loc) (ls : Array Slot), (fX6_isLetter_J17a s0_17 = E0) → va_P D vwCl [] H → va_D A [] → va_S A s.heap H locs → lv_has ls 1 [(0, .int x)] → W p l e R s m args below meth c H locs 0 0 Q (F0 m 17 ls [.int (bB s0_17)]) := by
    intro s0_17 H locs ls hZ hP hD hS hl
    rw [hQ]
    have hP9 := hP.sub (ws' := []) [] rfl
    have hD9 := hD.sub (ws' := []) [] (by decide) rfl
    exact W.zret (v := (bB s0_17)) hx hb hr (narrow_bB _) (fun zt ht hW => ⟨⟨(bB s0_17), s0_17, rfl, ⟨rfl, (hZ.trans hE0)⟩, by rw [ht]; exact hP9, hD9⟩, hS.F ht⟩) hS.2.2 dX6_isLetter_17
  have hj16_2 : ∀ (H : Heap) (locs : List Loc) (ls : Array Slot), (fX6_isLetter_J16a = E0) → va_P D vwCl [] H → va_D A [] → va_S A s.heap H locs → lv_has ls 1 [(0, .int x)] → W p l e R s m args below meth c H locs 0 0 Q (F0 m 16 ls []) := by
    intro H locs ls hZ hP hD hS hl
    refine lv_iconst (v := 0) hx hb dX6_isLetter_16 (by decide) ?_
    exact hj17_1 false _ _ _ hZ (hP.sub [] rfl) (hD.sub [] (by decide) rfl) hS (lv_sub hl [0] rfl)
  refine lv_icmp_lt (tgt := 16) hx hb dX6_isLetter_3 (by decide) (fun c_3 => ?_) (fun c_3 => ?_)
  · exact by
     have t_3 : (Int32.toInt x) < 97 := tI_lt rfl (by decide) c_3
     have hZ := (if_pos c_3).symm.trans hZ
     exact hj16_2 _ _ _ hZ (hP.sub [] rfl) (hD.sub [] (by decide) rfl) hS (lv_sub hl [0] rfl)
  · exact by
     have t_3 : (Int32.toInt x) ≥ 97 := tI_nlt rfl (by decide) c_3
     have hZ := (if_neg c_3).symm.trans hZ
     refine lv_iload_n hx hb dX6_isLetter_6 rfl (lv_at hl 0 rfl) ?_
     refine lv_bipush (v := 122) hx hb dX6_isLetter_7 (by decide) ?_
     refine lv_icmp_gt (tgt := 16) hx hb dX6_isLetter_9 (by decide) (fun c_4 => ?_) (fun c_4 => ?_)
     · exact by
        have t_4 : 122 < (Int32.toInt x) := tI_lt (by decide) rfl c_4
        have hZ := (if_pos c_4).symm.trans hZ
        exact hj16_2 _ _ _ hZ (hP.sub [] rfl) (hD.sub [] (by decide) rfl) hS (lv_sub hl [0] rfl)
     · exact by
        have t_4 : 122 ≥ (Int32.toInt x) := tI_nlt (by decide) rfl c_4
        have hZ := (if_neg c_4).symm.trans hZ
        refine lv_iconst (v := 1) hx hb dX6_isLetter_12 (by decide) ?_
        refine lv_goto (tgt := 17) hx hb dX6_isLetter_13 (by decide) ?_
        exact hj17_1 true _ _ _ hZ (hP.sub [] rfl) (hD.sub [] (by decide) rfl) hS (lv_sub hl [0] rfl)
theorem dX6_isDigit_0 : decode cX6_isDigit 0 = .ok (.iload_n 0, 1) := dk_iload_n_0 (by decide +kernel)
theorem dX6_isDigit_1 : decode cX6_isDigit 1 = .ok (.bipush 48, 2) := dk_bipush (by decide +kernel)
theorem dX6_isDigit_3 : decode cX6_isDigit 3 = .ok (.if_icmp .lt 13, 3) := dk_if_icmp_lt (by decide +kernel)
theorem dX6_isDigit_6 : decode cX6_isDigit 6 = .ok (.iload_n 0, 1) := dk_iload_n_0 (by decide +kernel)
theorem dX6_isDigit_7 : decode cX6_isDigit 7 = .ok (.bipush 57, 2) := dk_bipush (by decide +kernel)
theorem dX6_isDigit_9 : decode cX6_isDigit 9 = .ok (.if_icmp .gt 7, 3) := dk_if_icmp_gt (by decide +kernel)
theorem dX6_isDigit_12 : decode cX6_isDigit 12 = .ok (.iconst 1, 1) := dk_iconst_1 (by decide +kernel)
theorem dX6_isDigit_13 : decode cX6_isDigit 13 = .ok (.goto 4, 3) := dk_goto (by decide +kernel)
theorem dX6_isDigit_16 : decode cX6_isDigit 16 = .ok (.iconst 0, 1) := dk_iconst_0 (by decide +kernel)
theorem dX6_isDigit_17 : decode cX6_isDigit 17 = .ok (.ireturn, 1) := dk_ireturn (by decide +kernel)
set_option maxHeartbeats 4000000 in
set_option maxRecDepth 100000 in
theorem sX6_isDigit (l : Launch) (D : va_G) (k : Nat → ClassId) (sz : Nat) (x : Int32) : Met l yX6_isDigit wsX6_isDigit ({ frames := 0, cells := 0, slots := 0, locals := 0 }) (va_Pc [.int x] (kz_Pre D k [] sz)) (va_Qi (fun (rr : Int32) (uu : Bool) => rr = bB uu ∧ ((uu) = (fX6_isDigit x))) (fun uu zt => kz_B D (va_A [] sz) [] zt) (va_A [] sz)) 0 0 (va_A [] sz) := by
  refine Met.ofW (cc := cX6_isDigit) (maxL := 1) (ret := (some .boolean)) (by decide) rfl ?_
  intro p e s m args below meth c s₁ B hml hv
  obtain ⟨hav, hsz, hP, hK, hD0, hE⟩ := hv
  have hx := B.exec
  have hb := B.bytes
  have hr := B.returns
  have hts := atoms_spec (ws := wsX6_isDigit) B.pre
  have hown : s.vm.findClass RX6 = some m.cls := findClass_of_methodNamed B.named
  have hlocks := B.notSynchronized
  subst hsz
  have hD := hD0.self (sz := s.heap.size)
  generalize hAe : va_A [] s.heap.size = A at hD ⊢
  have hA : ∀ q : Nat, s.heap.size ≤ q → A q := fun q h => by rw [← hAe]; exact Or.inr h
  have hS : va_S A s.heap s.heap [] := va_S.rf
  have hl := lv_entry ([.int x]) (n := 1) (Nat.le_of_ble_eq_true rfl)
  rw [show entryFrame m args 1 = entryFrame m ([.int x] : List Value).toArray 1 by rw [hav], lg_entry_eq]
  generalize (lg_sl ([.int x]) ++ List.replicate (1 - (lg_sl ([.int x])).length) Slot.unset).toArray = ls at hl ⊢
  have hl : lv_has ls 1 [(0, .int x)] := hl
  obtain ⟨R, hR⟩ : ∃ R, R = (headSpec wsX6_isDigit ({ frames := 0, cells := 0, slots := 0, locals := 0 } : Room)).room := ⟨_, rfl⟩
  rw [← hR]
  generalize hQ : MQ below _ args s 0 0 A = Q
  replace hQ := hQ.symm
  obtain ⟨H, hH⟩ : ∃ H, H = s.heap := ⟨_, rfl⟩
  rw [← hH] at hP ⊢
  have hS : va_S A s.heap H [] := by rw [hH]; exact hS
  obtain ⟨E0, hE0⟩ : ∃ E0 : Bool, E0 = (fX6_isDigit x) := ⟨_, rfl⟩
  have hZ : (fX6_isDigit x) = E0 := hE0.symm
  refine lv_iload_n hx hb dX6_isDigit_0 rfl (lv_at hl 0 rfl) ?_
  refine lv_bipush (v := 48) hx hb dX6_isDigit_1 (by decide) ?_
  have hj17_1 : ∀ (s0_17 : Bool) (H : Heap) (locs : List Loc) (ls : Array Slot), (fX6_isDigit_J17a s0_17 = E0) → va_P D vwCl [] H → va_D A [] → va_S A s.heap H locs → lv_has ls 1 [(0, .int x)] → W p l e R s m args below meth c H locs 0 0 Q (F0 m 17 ls [.int (bB s0_17)]) := by
    intro s0_17 H locs ls hZ hP hD hS hl
    rw [hQ]
    have hP9 := hP.sub (ws' := []) [] rfl
    have hD9 := hD.sub (ws' := []) [] (by decide) rfl
    exact W.zret (v := (bB s0_17)) hx hb hr (narrow_bB _) (fun zt ht hW => ⟨⟨(bB s0_17), s0_17, rfl, ⟨rfl, (hZ.trans hE0)⟩, by rw [ht]; exact hP9, hD9⟩, hS.F ht⟩) hS.2.2 dX6_isDigit_17
  have hj16_2 : ∀ (H : Heap) (locs : List Loc) (ls : Array Slot), (fX6_isDigit_J16a = E0) → va_P D vwCl [] H → va_D A [] → va_S A s.heap H locs → lv_has ls 1 [(0, .int x)] → W p l e R s m args below meth c H locs 0 0 Q (F0 m 16 ls []) := by
    intro H locs ls hZ hP hD hS hl
    refine lv_iconst (v := 0) hx hb dX6_isDigit_16 (by decide) ?_
    exact hj17_1 false _ _ _ hZ (hP.sub [] rfl) (hD.sub [] (by decide) rfl) hS (lv_sub hl [0] rfl)
  refine lv_icmp_lt (tgt := 16) hx hb dX6_isDigit_3 (by decide) (fun c_3 => ?_) (fun c_3 => ?_)
  · exact by
     have t_3 : (Int32.toInt x) < 48 := tI_lt rfl (by decide) c_3
     have hZ := (if_pos c_3).symm.trans hZ
     exact hj16_2 _ _ _ hZ (hP.sub [] rfl) (hD.sub [] (by decide) rfl) hS (lv_sub hl [0] rfl)
  · exact by
     have t_3 : (Int32.toInt x) ≥ 48 := tI_nlt rfl (by decide) c_3
     have hZ := (if_neg c_3).symm.trans hZ
     refine lv_iload_n hx hb dX6_isDigit_6 rfl (lv_at hl 0 rfl) ?_
     refine lv_bipush (v := 57) hx hb dX6_isDigit_7 (by decide) ?_
     refine lv_icmp_gt (tgt := 16) hx hb dX6_isDigit_9 (by decide) (fun c_4 => ?_) (fun c_4 => ?_)
     · exact by
        have t_4 : 57 < (Int32.toInt x) := tI_lt (by decide) rfl c_4
        have hZ := (if_pos c_4).symm.trans hZ
        exact hj16_2 _ _ _ hZ (hP.sub [] rfl) (hD.sub [] (by decide) rfl) hS (lv_sub hl [0] rfl)
     · exact by
        have t_4 : 57 ≥ (Int32.toInt x) := tI_nlt (by decide) rfl c_4
        have hZ := (if_neg c_4).symm.trans hZ
        refine lv_iconst (v := 1) hx hb dX6_isDigit_12 (by decide) ?_
        refine lv_goto (tgt := 17) hx hb dX6_isDigit_13 (by decide) ?_
        exact hj17_1 true _ _ _ hZ (hP.sub [] rfl) (hD.sub [] (by decide) rfl) hS (lv_sub hl [0] rfl)
theorem dX6_withLetter_0 : decode cX6_withLetter 0 = .ok (.lload_n 0, 1) := dk_lload_n_0 (by decide +kernel)
theorem dX6_withLetter_1 : decode cX6_withLetter 1 = .ok (.ldc2_w 81, 3) := dk_ldc2_w (by decide +kernel)
theorem dX6_withLetter_4 : decode cX6_withLetter 4 = .ok (.lmul, 1) := dk_lmul (by decide +kernel)
theorem dX6_withLetter_5 : decode cX6_withLetter 5 = .ok (.iload_n 2, 1) := dk_iload_n_2 (by decide +kernel)
theorem dX6_withLetter_6 : decode cX6_withLetter 6 = .ok (.bipush 97, 2) := dk_bipush (by decide +kernel)
theorem dX6_withLetter_8 : decode cX6_withLetter 8 = .ok (.isub, 1) := dk_isub (by decide +kernel)
theorem dX6_withLetter_9 : decode cX6_withLetter 9 = .ok (.iconst 1, 1) := dk_iconst_1 (by decide +kernel)
theorem dX6_withLetter_10 : decode cX6_withLetter 10 = .ok (.iadd, 1) := dk_iadd (by decide +kernel)
theorem dX6_withLetter_11 : decode cX6_withLetter 11 = .ok (.i2l, 1) := dk_i2l (by decide +kernel)
theorem dX6_withLetter_12 : decode cX6_withLetter 12 = .ok (.ladd, 1) := dk_ladd (by decide +kernel)
theorem dX6_withLetter_13 : decode cX6_withLetter 13 = .ok (.lreturn, 1) := dk_lreturn (by decide +kernel)
set_option maxHeartbeats 4000000 in
set_option maxRecDepth 100000 in
theorem sX6_withLetter (l : Launch) (D : va_G) (k : Nat → ClassId) (sz : Nat) (y_ : Int64) (x : Int32) : Met l yX6_withLetter wsX6_withLetter ({ frames := 0, cells := 0, slots := 0, locals := 0 }) (va_Pc [.long y_, .int x] (kz_Pre D k [] sz)) (va_Ql (fun (rr : Int64) (uu : Unit) => ((rr) = (fX6_withLetter y_ x))) (fun uu zt => kz_B D (va_A [] sz) [] zt) (va_A [] sz)) 0 0 (va_A [] sz) := by
  refine Met.ofW (cc := cX6_withLetter) (maxL := 3) (ret := (some .long)) (by decide) rfl ?_
  intro p e s m args below meth c s₁ B hml hv
  obtain ⟨hav, hsz, hP, hK, hD0, hE⟩ := hv
  have hx := B.exec
  have hb := B.bytes
  have hr := B.returns
  have hts := atoms_spec (ws := wsX6_withLetter) B.pre
  have hown : s.vm.findClass RX6 = some m.cls := findClass_of_methodNamed B.named
  have hlocks := B.notSynchronized
  have lc81 := hts (.constantLong RX6 81 (32)) (List.mem_cons_of_mem _ (List.mem_of_getElem? (i := 0) rfl))
  subst hsz
  have hD := hD0.self (sz := s.heap.size)
  generalize hAe : va_A [] s.heap.size = A at hD ⊢
  have hA : ∀ q : Nat, s.heap.size ≤ q → A q := fun q h => by rw [← hAe]; exact Or.inr h
  have hS : va_S A s.heap s.heap [] := va_S.rf
  have hl := lv_entry ([.long y_, .int x]) (n := 3) (Nat.le_of_ble_eq_true rfl)
  rw [show entryFrame m args 3 = entryFrame m ([.long y_, .int x] : List Value).toArray 3 by rw [hav], lg_entry_eq]
  generalize (lg_sl ([.long y_, .int x]) ++ List.replicate (3 - (lg_sl ([.long y_, .int x])).length) Slot.unset).toArray = ls at hl ⊢
  have hl : lv_has ls 3 [(0, .long y_), (2, .int x)] := hl
  obtain ⟨R, hR⟩ : ∃ R, R = (headSpec wsX6_withLetter ({ frames := 0, cells := 0, slots := 0, locals := 0 } : Room)).room := ⟨_, rfl⟩
  rw [← hR]
  generalize hQ : MQ below _ args s 0 0 A = Q
  replace hQ := hQ.symm
  obtain ⟨H, hH⟩ : ∃ H, H = s.heap := ⟨_, rfl⟩
  rw [← hH] at hP ⊢
  have hS : va_S A s.heap H [] := by rw [hH]; exact hS
  obtain ⟨E0, hE0⟩ : ∃ E0 : Int64, E0 = (fX6_withLetter y_ x) := ⟨_, rfl⟩
  have hZ : (fX6_withLetter y_ x) = E0 := hE0.symm
  refine lv_lload_n hx hb dX6_withLetter_0 rfl (lv_at hl 0 rfl) ?_
  refine lv_ldc2 hx hb hown lc81 dX6_withLetter_1 ?_
  refine lv_lmul hx hb dX6_withLetter_4 ?_
  refine lv_iload_n hx hb dX6_withLetter_5 rfl (lv_at hl 1 rfl) ?_
  refine lv_bipush (v := 97) hx hb dX6_withLetter_6 (by decide) ?_
  refine lv_isub hx hb dX6_withLetter_8 ?_
  refine lv_iconst (v := 1) hx hb dX6_withLetter_9 (by decide) ?_
  refine lv_iadd hx hb dX6_withLetter_10 ?_
  refine lv_i2l hx hb dX6_withLetter_11 rfl ?_
  refine lv_ladd hx hb dX6_withLetter_12 ?_
  rw [hQ]
  have hP9 := hP.sub (ws' := []) [] rfl
  have hD9 := hD.sub (ws' := []) [] (by decide) rfl
  exact W.lret (v := ((y_ * 32) + (((x - 97) + 1).toInt64))) hx hb hr (fun zt ht hW => ⟨⟨((y_ * 32) + (((x - 97) + 1).toInt64)), (), rfl, (hZ.trans hE0), by rw [ht]; exact hP9, hD9⟩, hS.F ht⟩) hS.2.2 dX6_withLetter_13
theorem dX6_readWord_0 : decode cX6_readWord 0 = .ok (.aload_n 0, 1) := dk_aload_n_0 (by decide +kernel)
theorem dX6_readWord_1 : decode cX6_readWord 1 = .ok (.lconst 0, 1) := dk_lconst_0 (by decide +kernel)
theorem dX6_readWord_2 : decode cX6_readWord 2 = .ok (.putfield 77, 3) := dk_putfield (by decide +kernel)
theorem dX6_readWord_5 : decode cX6_readWord 5 = .ok (.aload_n 0, 1) := dk_aload_n_0 (by decide +kernel)
theorem dX6_readWord_6 : decode cX6_readWord 6 = .ok (.getfield 44, 3) := dk_getfield (by decide +kernel)
theorem dX6_readWord_9 : decode cX6_readWord 9 = .ok (.aload_n 0, 1) := dk_aload_n_0 (by decide +kernel)
theorem dX6_readWord_10 : decode cX6_readWord 10 = .ok (.getfield 41, 3) := dk_getfield (by decide +kernel)
theorem dX6_readWord_13 : decode cX6_readWord 13 = .ok (.if_icmp .ge 51, 3) := dk_if_icmp_ge (by decide +kernel)
theorem dX6_readWord_16 : decode cX6_readWord 16 = .ok (.aload_n 0, 1) := dk_aload_n_0 (by decide +kernel)
theorem dX6_readWord_17 : decode cX6_readWord 17 = .ok (.getfield 11, 3) := dk_getfield (by decide +kernel)
theorem dX6_readWord_20 : decode cX6_readWord 20 = .ok (.aload_n 0, 1) := dk_aload_n_0 (by decide +kernel)
theorem dX6_readWord_21 : decode cX6_readWord 21 = .ok (.getfield 44, 3) := dk_getfield (by decide +kernel)
theorem dX6_readWord_24 : decode cX6_readWord 24 = .ok (.baload, 1) := dk_baload (by decide +kernel)
theorem dX6_readWord_25 : decode cX6_readWord 25 = .ok (.invokestatic 31, 3) := dk_invokestatic (by decide +kernel)
theorem dX6_readWord_28 : decode cX6_readWord 28 = .ok (.ifCond .eq 36, 3) := dk_ifCond_eq (by decide +kernel)
theorem dX6_readWord_31 : decode cX6_readWord 31 = .ok (.aload_n 0, 1) := dk_aload_n_0 (by decide +kernel)
theorem dX6_readWord_32 : decode cX6_readWord 32 = .ok (.aload_n 0, 1) := dk_aload_n_0 (by decide +kernel)
theorem dX6_readWord_33 : decode cX6_readWord 33 = .ok (.getfield 77, 3) := dk_getfield (by decide +kernel)
theorem dX6_readWord_36 : decode cX6_readWord 36 = .ok (.aload_n 0, 1) := dk_aload_n_0 (by decide +kernel)
theorem dX6_readWord_37 : decode cX6_readWord 37 = .ok (.getfield 11, 3) := dk_getfield (by decide +kernel)
theorem dX6_readWord_40 : decode cX6_readWord 40 = .ok (.aload_n 0, 1) := dk_aload_n_0 (by decide +kernel)
theorem dX6_readWord_41 : decode cX6_readWord 41 = .ok (.getfield 44, 3) := dk_getfield (by decide +kernel)
theorem dX6_readWord_44 : decode cX6_readWord 44 = .ok (.baload, 1) := dk_baload (by decide +kernel)
theorem dX6_readWord_45 : decode cX6_readWord 45 = .ok (.invokestatic 35, 3) := dk_invokestatic (by decide +kernel)
theorem dX6_readWord_48 : decode cX6_readWord 48 = .ok (.putfield 77, 3) := dk_putfield (by decide +kernel)
theorem dX6_readWord_51 : decode cX6_readWord 51 = .ok (.aload_n 0, 1) := dk_aload_n_0 (by decide +kernel)
theorem dX6_readWord_52 : decode cX6_readWord 52 = .ok (.dup, 1) := dk_dup (by decide +kernel)
theorem dX6_readWord_53 : decode cX6_readWord 53 = .ok (.getfield 44, 3) := dk_getfield (by decide +kernel)
theorem dX6_readWord_56 : decode cX6_readWord 56 = .ok (.iconst 1, 1) := dk_iconst_1 (by decide +kernel)
theorem dX6_readWord_57 : decode cX6_readWord 57 = .ok (.iadd, 1) := dk_iadd (by decide +kernel)
theorem dX6_readWord_58 : decode cX6_readWord 58 = .ok (.putfield 44, 3) := dk_putfield (by decide +kernel)
theorem dX6_readWord_61 : decode cX6_readWord 61 = .ok (.goto (-56), 3) := dk_goto (by decide +kernel)
theorem dX6_readWord_64 : decode cX6_readWord 64 = .ok (.aload_n 0, 1) := dk_aload_n_0 (by decide +kernel)
theorem dX6_readWord_65 : decode cX6_readWord 65 = .ok (.aload_n 0, 1) := dk_aload_n_0 (by decide +kernel)
theorem dX6_readWord_66 : decode cX6_readWord 66 = .ok (.getfield 44, 3) := dk_getfield (by decide +kernel)
theorem dX6_readWord_69 : decode cX6_readWord 69 = .ok (.aload_n 0, 1) := dk_aload_n_0 (by decide +kernel)
theorem dX6_readWord_70 : decode cX6_readWord 70 = .ok (.getfield 53, 3) := dk_getfield (by decide +kernel)
theorem dX6_readWord_73 : decode cX6_readWord 73 = .ok (.isub, 1) := dk_isub (by decide +kernel)
theorem dX6_readWord_74 : decode cX6_readWord 74 = .ok (.bipush 8, 2) := dk_bipush (by decide +kernel)
theorem dX6_readWord_76 : decode cX6_readWord 76 = .ok (.if_icmp .gt 7, 3) := dk_if_icmp_gt (by decide +kernel)
theorem dX6_readWord_79 : decode cX6_readWord 79 = .ok (.iconst 1, 1) := dk_iconst_1 (by decide +kernel)
theorem dX6_readWord_80 : decode cX6_readWord 80 = .ok (.goto 4, 3) := dk_goto (by decide +kernel)
theorem dX6_readWord_83 : decode cX6_readWord 83 = .ok (.iconst 4, 1) := dk_iconst_4 (by decide +kernel)
theorem dX6_readWord_84 : decode cX6_readWord 84 = .ok (.putfield 59, 3) := dk_putfield (by decide +kernel)
theorem dX6_readWord_87 : decode cX6_readWord 87 = .ok (.iconst 0, 1) := dk_iconst_0 (by decide +kernel)
theorem dX6_readWord_88 : decode cX6_readWord 88 = .ok (.istore_n 1, 1) := dk_istore_n_1 (by decide +kernel)
theorem dX6_readWord_89 : decode cX6_readWord 89 = .ok (.iload_n 1, 1) := dk_iload_n_1 (by decide +kernel)
theorem dX6_readWord_90 : decode cX6_readWord 90 = .ok (.aload_n 0, 1) := dk_aload_n_0 (by decide +kernel)
theorem dX6_readWord_91 : decode cX6_readWord 91 = .ok (.getfield 15, 3) := dk_getfield (by decide +kernel)
theorem dX6_readWord_94 : decode cX6_readWord 94 = .ok (.arraylength, 1) := dk_arraylength (by decide +kernel)
theorem dX6_readWord_95 : decode cX6_readWord 95 = .ok (.if_icmp .ge 36, 3) := dk_if_icmp_ge (by decide +kernel)
theorem dX6_readWord_98 : decode cX6_readWord 98 = .ok (.aload_n 0, 1) := dk_aload_n_0 (by decide +kernel)
theorem dX6_readWord_99 : decode cX6_readWord 99 = .ok (.getfield 59, 3) := dk_getfield (by decide +kernel)
theorem dX6_readWord_102 : decode cX6_readWord 102 = .ok (.iconst 1, 1) := dk_iconst_1 (by decide +kernel)
theorem dX6_readWord_103 : decode cX6_readWord 103 = .ok (.if_icmp .ne 28, 3) := dk_if_icmp_ne (by decide +kernel)
theorem dX6_readWord_106 : decode cX6_readWord 106 = .ok (.aload_n 0, 1) := dk_aload_n_0 (by decide +kernel)
theorem dX6_readWord_107 : decode cX6_readWord 107 = .ok (.getfield 15, 3) := dk_getfield (by decide +kernel)
theorem dX6_readWord_110 : decode cX6_readWord 110 = .ok (.iload_n 1, 1) := dk_iload_n_1 (by decide +kernel)
theorem dX6_readWord_111 : decode cX6_readWord 111 = .ok (.laload, 1) := dk_laload (by decide +kernel)
theorem dX6_readWord_112 : decode cX6_readWord 112 = .ok (.aload_n 0, 1) := dk_aload_n_0 (by decide +kernel)
theorem dX6_readWord_113 : decode cX6_readWord 113 = .ok (.getfield 77, 3) := dk_getfield (by decide +kernel)
theorem dX6_readWord_116 : decode cX6_readWord 116 = .ok (.lcmp, 1) := dk_lcmp (by decide +kernel)
theorem dX6_readWord_117 : decode cX6_readWord 117 = .ok (.ifCond .ne 8, 3) := dk_ifCond_ne (by decide +kernel)
theorem dX6_readWord_120 : decode cX6_readWord 120 = .ok (.aload_n 0, 1) := dk_aload_n_0 (by decide +kernel)
theorem dX6_readWord_121 : decode cX6_readWord 121 = .ok (.iload_n 1, 1) := dk_iload_n_1 (by decide +kernel)
theorem dX6_readWord_122 : decode cX6_readWord 122 = .ok (.putfield 56, 3) := dk_putfield (by decide +kernel)
theorem dX6_readWord_125 : decode cX6_readWord 125 = .ok (.iinc 1 1, 3) := dk_iinc (by decide +kernel)
theorem dX6_readWord_128 : decode cX6_readWord 128 = .ok (.goto (-39), 3) := dk_goto (by decide +kernel)
theorem dX6_readWord_131 : decode cX6_readWord 131 = .ok (.return_, 1) := dk_return_ (by decide +kernel)
set_option maxRecDepth 20000 in
theorem ggX6_readWord_X6_isLetter : GoodIn wsX6_readWord wsX6_isLetter := goodIn_sub (sub_cons (List.mem_cons_of_mem _ (List.mem_append_left _ (List.mem_of_getElem? (i := 11) rfl))) sub_nil) gw_X6_isLetter
set_option maxRecDepth 20000 in
theorem gX6_readWord_X6_isLetter : GoodIn wsX6_readWord (va_wsS RX6 31 yX6_isLetter wsX6_isLetter) := goodIn_app (goodIn_of _ (by decide +kernel)) ggX6_readWord_X6_isLetter
set_option maxRecDepth 20000 in
theorem ggX6_readWord_X6_withLetter : GoodIn wsX6_readWord wsX6_withLetter := goodIn_sub (sub_cons (List.mem_cons_of_mem _ (List.mem_append_left _ (List.mem_of_getElem? (i := 14) rfl))) (sub_cons (List.mem_cons_of_mem _ (List.mem_append_left _ (List.mem_of_getElem? (i := 15) rfl))) sub_nil)) gw_X6_withLetter
set_option maxRecDepth 20000 in
theorem gX6_readWord_X6_withLetter : GoodIn wsX6_readWord (va_wsS RX6 35 yX6_withLetter wsX6_withLetter) := goodIn_app (goodIn_of _ (by decide +kernel)) ggX6_readWord_X6_withLetter
set_option maxHeartbeats 4000000 in
set_option maxRecDepth 100000 in
theorem sX6_readWord (l : Launch) (D : va_G) (k : Nat → ClassId) (sz : Nat) (ta : Nat) (ta_signs : Nat) (ta_words : Nat) (ta_length : Nat) (ta_next : Nat) (ta_place : Int32) (ta_kind : Int32) (ta_value : Int32) (ta_letters : Int64) (ta_fault : Int32) (ta_signsF : Nat → Int32) (ta_wordsF : Nat → Int64) (h_ta_length : ta_length ≤ 1000) (h_ta_next : ta_next ≤ 1000) : Met l yX6_readWord wsX6_readWord ({ frames := 1, cells := 0, slots := 0, locals := 70 }) (va_Pc [.ref ta] (kz_Pre D k [(ta, kO 6 [.ref ta_signs, .ref ta_words, .int (nI ta_length), .int (nI ta_next), .int ta_place, .int ta_kind, .int ta_value, .long ta_letters, .int ta_fault]), (ta_signs, kB k 1000 ta_signsF), (ta_words, kJ k 23 ta_wordsF)] sz)) (va_Qv (fun (uu : Nat × Int32 × Int32 × Int64) => (uu.1 ≤ 1000) ∧ ((uu.1, uu.2.1, uu.2.2.1, uu.2.2.2) = (fX6_readWord ta_length ta_next ta_place ta_value ta_signsF ta_wordsF))) (fun uu zt => kz_B D (va_A [(ta, kO 6 [.ref ta_signs, .ref ta_words, .int (nI ta_length), .int (nI ta_next), .int ta_place, .int ta_kind, .int ta_value, .long ta_letters, .int ta_fault]), (ta_signs, kB k 1000 ta_signsF), (ta_words, kJ k 23 ta_wordsF)] sz) [(ta, kO 6 [.ref ta_signs, .ref ta_words, .int (nI ta_length), .int (nI uu.1), .int ta_place, .int uu.2.1, .int uu.2.2.1, .long uu.2.2.2, .int ta_fault]), (ta_signs, kB k 1000 ta_signsF), (ta_words, kJ k 23 ta_wordsF)] zt) (va_A [(ta, kO 6 [.ref ta_signs, .ref ta_words, .int (nI ta_length), .int (nI ta_next), .int ta_place, .int ta_kind, .int ta_value, .long ta_letters, .int ta_fault]), (ta_signs, kB k 1000 ta_signsF), (ta_words, kJ k 23 ta_wordsF)] sz)) 0 0 (va_A [(ta, kO 6 [.ref ta_signs, .ref ta_words, .int (nI ta_length), .int (nI ta_next), .int ta_place, .int ta_kind, .int ta_value, .long ta_letters, .int ta_fault]), (ta_signs, kB k 1000 ta_signsF), (ta_words, kJ k 23 ta_wordsF)] sz) := by
  refine Met.ofW (cc := cX6_readWord) (maxL := 2) (ret := none) (by decide) rfl ?_
  intro p e s m args below meth c s₁ B hml hv
  obtain ⟨hav, hsz, hP, hK, hD0, hE⟩ := hv
  have hx := B.exec
  have hb := B.bytes
  have hr := B.returns
  have hts := atoms_spec (ws := wsX6_readWord) B.pre
  have hown : s.vm.findClass RX6 = some m.cls := findClass_of_methodNamed B.named
  have hlocks := B.notSynchronized
  have hi6 : ∀ w ∈ u_ws RX6 TX6 9, w ∈ wsX6_readWord := fun w h9 => List.mem_cons_of_mem _ (List.mem_append_right _ h9)
  have lf77 := hts (.fieldLink RX6 77 "LastCook$Tape" "letters" "J") (List.mem_cons_of_mem _ (List.mem_append_left _ (List.mem_of_getElem? (i := 0) rfl)))
  have lf44 := hts (.fieldLink RX6 44 "LastCook$Tape" "next" "I") (List.mem_cons_of_mem _ (List.mem_append_left _ (List.mem_of_getElem? (i := 1) rfl)))
  have lf41 := hts (.fieldLink RX6 41 "LastCook$Tape" "length" "I") (List.mem_cons_of_mem _ (List.mem_append_left _ (List.mem_of_getElem? (i := 2) rfl)))
  have lf53 := hts (.fieldLink RX6 53 "LastCook$Tape" "place" "I") (List.mem_cons_of_mem _ (List.mem_append_left _ (List.mem_of_getElem? (i := 4) rfl)))
  have lf59 := hts (.fieldLink RX6 59 "LastCook$Tape" "kind" "I") (List.mem_cons_of_mem _ (List.mem_append_left _ (List.mem_of_getElem? (i := 5) rfl)))
  have lf15 := hts (.fieldLink RX6 15 "LastCook$Tape" "words" "[J") (List.mem_cons_of_mem _ (List.mem_append_left _ (List.mem_of_getElem? (i := 6) rfl)))
  have lf56 := hts (.fieldLink RX6 56 "LastCook$Tape" "value" "I") (List.mem_cons_of_mem _ (List.mem_append_left _ (List.mem_of_getElem? (i := 7) rfl)))
  have lf11 := hts (.fieldLink RX6 11 "LastCook$Tape" "signs" "[B") (List.mem_cons_of_mem _ (List.mem_append_left _ (List.mem_of_getElem? (i := 3) rfl)))
  subst hsz
  have hD := hD0.self (sz := s.heap.size)
  generalize hAe : va_A [(ta, kO 6 [.ref ta_signs, .ref ta_words, .int (nI ta_length), .int (nI ta_next), .int ta_place, .int ta_kind, .int ta_value, .long ta_letters, .int ta_fault]), (ta_signs, kB k 1000 ta_signsF), (ta_words, kJ k 23 ta_wordsF)] s.heap.size = A at hD ⊢
  have hA : ∀ q : Nat, s.heap.size ≤ q → A q := fun q h => by rw [← hAe]; exact Or.inr h
  have hS : va_S A s.heap s.heap [] := va_S.rf
  have hl := lv_entry ([.ref ta]) (n := 2) (Nat.le_of_ble_eq_true rfl)
  rw [show entryFrame m args 2 = entryFrame m ([.ref ta] : List Value).toArray 2 by rw [hav], lg_entry_eq]
  generalize (lg_sl ([.ref ta]) ++ List.replicate (2 - (lg_sl ([.ref ta])).length) Slot.unset).toArray = ls at hl ⊢
  have hl : lv_has ls 2 [(0, .ref ta)] := hl
  obtain ⟨R, hR⟩ : ∃ R, R = (headSpec wsX6_readWord ({ frames := 1, cells := 0, slots := 0, locals := 70 } : Room)).room := ⟨_, rfl⟩
  rw [← hR]
  generalize hQ : MQ below _ args s 0 0 A = Q
  replace hQ := hQ.symm
  obtain ⟨H, hH⟩ : ∃ H, H = s.heap := ⟨_, rfl⟩
  rw [← hH] at hP ⊢
  have hS : va_S A s.heap H [] := by rw [hH]; exact hS
  obtain ⟨E0, hE0⟩ : ∃ E0 : Nat × Int32 × Int32 × Int64, E0 = (fX6_readWord ta_length ta_next ta_place ta_value ta_signsF ta_wordsF) := ⟨_, rfl⟩
  have hZ : (fX6_readWord ta_length ta_next ta_place ta_value ta_signsF ta_wordsF) = E0 := hE0.symm
  refine lv_aload_n hx hb dX6_readWord_0 rfl (lv_at hl 0 rfl) ?_
  refine lv_lconst (v := 0) hx hb dX6_readWord_1 (by decide) ?_
  refine va_put (D := D) (ci := 6) (v := .long 0) (ty := .long) (C := RX6) (T := TX6) (N := 9) hx hb hts hi6 tyX6 tyX6_ok nmX6 hown hK hP hD hS 0 rfl rfl 7 (by decide) lf77 (fun _ h9 => h9) rfl (by decide +kernel) rfl rfl (Nat.le_of_ble_eq_true rfl) dX6_readWord_2 (fun H locs hP hD hS => ?_)
  exact by
   have hP : va_P D vwCl [(ta, kO 6 [.ref ta_signs, .ref ta_words, .int (nI ta_length), .int (nI ta_next), .int ta_place, .int ta_kind, .int ta_value, .long 0, .int ta_fault]), (ta_signs, kB k 1000 ta_signsF), (ta_words, kJ k 23 ta_wordsF)] H := hP
   have hD : va_D A [(ta, kO 6 [.ref ta_signs, .ref ta_words, .int (nI ta_length), .int (nI ta_next), .int ta_place, .int ta_kind, .int ta_value, .long 0, .int ta_fault]), (ta_signs, kB k 1000 ta_signsF), (ta_words, kJ k 23 ta_wordsF)] := hD
   have hloop5 : ∀ (nq : Nat) (fta_3_5 : Nat) (fta_7_5 : Int64) (H : Heap) (locs : List Loc) (ls : Array Slot), (1000 + 1 - fta_3_5) < nq → (fta_3_5 ≤ 1000) → (lp (fun _ _ => (0, (0 : Int32), (0 : Int32), (0 : Int64))) (fX6_readWord_B5a ta_length ta_place ta_value ta_signsF ta_wordsF) nq fta_3_5 fta_7_5 = E0) → va_P D vwCl [(ta, kO 6 [.ref ta_signs, .ref ta_words, .int (nI ta_length), .int (nI fta_3_5), .int ta_place, .int ta_kind, .int ta_value, .long fta_7_5, .int ta_fault]), (ta_signs, kB k 1000 ta_signsF), (ta_words, kJ k 23 ta_wordsF)] H → va_D A [(ta, kO 6 [.ref ta_signs, .ref ta_words, .int (nI ta_length), .int (nI fta_3_5), .int ta_place, .int ta_kind, .int ta_value, .long fta_7_5, .int ta_fault]), (ta_signs, kB k 1000 ta_signsF), (ta_words, kJ k 23 ta_wordsF)] → va_S A s.heap H locs → lv_has ls 2 [(0, .ref ta)] → W p l e R s m args below meth c H locs 0 0 Q (F0 m 5 ls []) := by
     intro n5
     induction n5 with
     | zero => intro fta_3_5 fta_7_5 H locs ls hm; exact absurd hm (Nat.not_lt_zero _)
     | succ n5 ih5 =>
       intro fta_3_5 fta_7_5 H locs ls hm5 i_fta_3_5 hZ hP hD hS hl
       obtain ⟨rc5_1, hrc5_1⟩ : ∃ r : Nat → Int64 → Nat × Int32 × Int32 × Int64, r = lp (fun _ _ => (0, (0 : Int32), (0 : Int32), (0 : Int64))) (fX6_readWord_B5a ta_length ta_place ta_value ta_signsF ta_wordsF) n5 := ⟨_, rfl⟩
       have hZ : (fX6_readWord_B5a ta_length ta_place ta_value ta_signsF ta_wordsF) rc5_1 fta_3_5 fta_7_5 = E0 := by rw [hrc5_1]; exact hZ
       refine lv_aload_n hx hb dX6_readWord_5 rfl (lv_at hl 0 rfl) ?_
       refine va_get (D := D) (ci := 6) (v := .int (nI fta_3_5)) (C := RX6) (T := TX6) (N := 9) hx hb hts hi6 hown hK hP 0 rfl rfl 3 (by decide) lf44 (fun _ h9 => h9) rfl dX6_readWord_6 ?_
       refine lv_aload_n hx hb dX6_readWord_9 rfl (lv_at hl 0 rfl) ?_
       refine va_get (D := D) (ci := 6) (v := .int (nI ta_length)) (C := RX6) (T := TX6) (N := 9) hx hb hts hi6 hown hK hP 0 rfl rfl 2 (by decide) lf41 (fun _ h9 => h9) rfl dX6_readWord_10 ?_
       have hj64_2 : ∀ (H : Heap) (locs : List Loc) (ls : Array Slot), ((fX6_readWord_J64a ta_place ta_value ta_wordsF fta_3_5 fta_7_5) = E0) → va_P D vwCl [(ta, kO 6 [.ref ta_signs, .ref ta_words, .int (nI ta_length), .int (nI fta_3_5), .int ta_place, .int ta_kind, .int ta_value, .long fta_7_5, .int ta_fault]), (ta_signs, kB k 1000 ta_signsF), (ta_words, kJ k 23 ta_wordsF)] H → va_D A [(ta, kO 6 [.ref ta_signs, .ref ta_words, .int (nI ta_length), .int (nI fta_3_5), .int ta_place, .int ta_kind, .int ta_value, .long fta_7_5, .int ta_fault]), (ta_signs, kB k 1000 ta_signsF), (ta_words, kJ k 23 ta_wordsF)] → va_S A s.heap H locs → lv_has ls 2 [(0, .ref ta)] → W p l e R s m args below meth c H locs 0 0 Q (F0 m 64 ls []) := by
         intro H locs ls hZ hP hD hS hl
         refine lv_aload_n hx hb dX6_readWord_64 rfl (lv_at hl 0 rfl) ?_
         refine lv_aload_n hx hb dX6_readWord_65 rfl (lv_at hl 0 rfl) ?_
         refine va_get (D := D) (ci := 6) (v := .int (nI fta_3_5)) (C := RX6) (T := TX6) (N := 9) hx hb hts hi6 hown hK hP 0 rfl rfl 3 (by decide) lf44 (fun _ h9 => h9) rfl dX6_readWord_66 ?_
         refine lv_aload_n hx hb dX6_readWord_69 rfl (lv_at hl 0 rfl) ?_
         refine va_get (D := D) (ci := 6) (v := .int ta_place) (C := RX6) (T := TX6) (N := 9) hx hb hts hi6 hown hK hP 0 rfl rfl 4 (by decide) lf53 (fun _ h9 => h9) rfl dX6_readWord_70 ?_
         refine lv_isub hx hb dX6_readWord_73 ?_
         refine lv_bipush (v := 8) hx hb dX6_readWord_74 (by decide) ?_
         have hj84_3 : ∀ (s1_84 : Int32) (H : Heap) (locs : List Loc) (ls : Array Slot), ((fX6_readWord_J84a ta_value ta_wordsF fta_3_5 fta_7_5) s1_84 = E0) → va_P D vwCl [(ta, kO 6 [.ref ta_signs, .ref ta_words, .int (nI ta_length), .int (nI fta_3_5), .int ta_place, .int ta_kind, .int ta_value, .long fta_7_5, .int ta_fault]), (ta_signs, kB k 1000 ta_signsF), (ta_words, kJ k 23 ta_wordsF)] H → va_D A [(ta, kO 6 [.ref ta_signs, .ref ta_words, .int (nI ta_length), .int (nI fta_3_5), .int ta_place, .int ta_kind, .int ta_value, .long fta_7_5, .int ta_fault]), (ta_signs, kB k 1000 ta_signsF), (ta_words, kJ k 23 ta_wordsF)] → va_S A s.heap H locs → lv_has ls 2 [(0, .ref ta)] → W p l e R s m args below meth c H locs 0 0 Q (F0 m 84 ls [.int s1_84, .ref ta]) := by
           intro s1_84 H locs ls hZ hP hD hS hl
           refine va_put (D := D) (ci := 6) (v := .int s1_84) (ty := .int) (C := RX6) (T := TX6) (N := 9) hx hb hts hi6 tyX6 tyX6_ok nmX6 hown hK hP hD hS 0 rfl rfl 5 (by decide) lf59 (fun _ h9 => h9) rfl (by decide +kernel) rfl rfl (Nat.le_of_ble_eq_true rfl) dX6_readWord_84 (fun H locs hP hD hS => ?_)
           exact by
            have hP : va_P D vwCl [(ta, kO 6 [.ref ta_signs, .ref ta_words, .int (nI ta_length), .int (nI fta_3_5), .int ta_place, .int s1_84, .int ta_value, .long fta_7_5, .int ta_fault]), (ta_signs, kB k 1000 ta_signsF), (ta_words, kJ k 23 ta_wordsF)] H := hP
            have hD : va_D A [(ta, kO 6 [.ref ta_signs, .ref ta_words, .int (nI ta_length), .int (nI fta_3_5), .int ta_place, .int s1_84, .int ta_value, .long fta_7_5, .int ta_fault]), (ta_signs, kB k 1000 ta_signsF), (ta_words, kJ k 23 ta_wordsF)] := hD
            refine lv_iconst (v := 0) hx hb dX6_readWord_87 (by decide) ?_
            refine lv_istore_n (lv' := [(1, .int 0), (0, .ref ta)]) hx hb dX6_readWord_88 rfl hl (by decide) rfl (fun ls hl => ?_)
            exact by
             have hloop89 : ∀ (nq : Nat) (l1_89 : Nat) (fta_6_89 : Int32) (H : Heap) (locs : List Loc) (ls : Array Slot), (23 + 1 - l1_89) < nq → (l1_89 ≤ 23) → (lp (fun _ _ => (0, (0 : Int32), (0 : Int32), (0 : Int64))) (fX6_readWord_B89a ta_wordsF fta_3_5 fta_7_5 s1_84) nq l1_89 fta_6_89 = E0) → va_P D vwCl [(ta, kO 6 [.ref ta_signs, .ref ta_words, .int (nI ta_length), .int (nI fta_3_5), .int ta_place, .int s1_84, .int fta_6_89, .long fta_7_5, .int ta_fault]), (ta_signs, kB k 1000 ta_signsF), (ta_words, kJ k 23 ta_wordsF)] H → va_D A [(ta, kO 6 [.ref ta_signs, .ref ta_words, .int (nI ta_length), .int (nI fta_3_5), .int ta_place, .int s1_84, .int fta_6_89, .long fta_7_5, .int ta_fault]), (ta_signs, kB k 1000 ta_signsF), (ta_words, kJ k 23 ta_wordsF)] → va_S A s.heap H locs → lv_has ls 2 [(0, .ref ta), (1, .int (nI l1_89))] → W p l e R s m args below meth c H locs 0 0 Q (F0 m 89 ls []) := by
               intro n89
               induction n89 with
               | zero => intro l1_89 fta_6_89 H locs ls hm; exact absurd hm (Nat.not_lt_zero _)
               | succ n89 ih89 =>
                 intro l1_89 fta_6_89 H locs ls hm89 i_l1_89 hZ hP hD hS hl
                 obtain ⟨rc89_4, hrc89_4⟩ : ∃ r : Nat → Int32 → Nat × Int32 × Int32 × Int64, r = lp (fun _ _ => (0, (0 : Int32), (0 : Int32), (0 : Int64))) (fX6_readWord_B89a ta_wordsF fta_3_5 fta_7_5 s1_84) n89 := ⟨_, rfl⟩
                 have hZ : (fX6_readWord_B89a ta_wordsF fta_3_5 fta_7_5 s1_84) rc89_4 l1_89 fta_6_89 = E0 := by rw [hrc89_4]; exact hZ
                 refine lv_iload_n hx hb dX6_readWord_89 rfl (lv_at hl 1 rfl) ?_
                 refine lv_aload_n hx hb dX6_readWord_90 rfl (lv_at hl 0 rfl) ?_
                 refine va_get (D := D) (ci := 6) (v := .ref ta_words) (C := RX6) (T := TX6) (N := 9) hx hb hts hi6 hown hK hP 0 rfl rfl 1 (by decide) lf15 (fun _ h9 => h9) rfl dX6_readWord_91 ?_
                 refine va_alen (v := 23) hx hb hK hP 2 1 rfl rfl rfl dX6_readWord_94 ?_
                 have hj131_5 : ∀ (H : Heap) (locs : List Loc) (ls : Array Slot), ((fX6_readWord_J131a fta_3_5 fta_7_5 s1_84 fta_6_89) = E0) → va_P D vwCl [(ta, kO 6 [.ref ta_signs, .ref ta_words, .int (nI ta_length), .int (nI fta_3_5), .int ta_place, .int s1_84, .int fta_6_89, .long fta_7_5, .int ta_fault]), (ta_signs, kB k 1000 ta_signsF), (ta_words, kJ k 23 ta_wordsF)] H → va_D A [(ta, kO 6 [.ref ta_signs, .ref ta_words, .int (nI ta_length), .int (nI fta_3_5), .int ta_place, .int s1_84, .int fta_6_89, .long fta_7_5, .int ta_fault]), (ta_signs, kB k 1000 ta_signsF), (ta_words, kJ k 23 ta_wordsF)] → va_S A s.heap H locs → lv_has ls 2 [(0, .ref ta), (1, .int (nI l1_89))] → W p l e R s m args below meth c H locs 0 0 Q (F0 m 131 ls []) := by
                   intro H locs ls hZ hP hD hS hl
                   rw [hQ]
                   have hP9 := hP.sub (ws' := [(ta, kO 6 [.ref ta_signs, .ref ta_words, .int (nI ta_length), .int (nI fta_3_5), .int ta_place, .int s1_84, .int fta_6_89, .long fta_7_5, .int ta_fault]), (ta_signs, kB k 1000 ta_signsF), (ta_words, kJ k 23 ta_wordsF)]) [0, 1, 2] rfl
                   have hD9 := hD.sub (ws' := [(ta, kO 6 [.ref ta_signs, .ref ta_words, .int (nI ta_length), .int (nI fta_3_5), .int ta_place, .int s1_84, .int fta_6_89, .long fta_7_5, .int ta_fault]), (ta_signs, kB k 1000 ta_signsF), (ta_words, kJ k 23 ta_wordsF)]) [0, 1, 2] (by decide +kernel) rfl
                   exact W.vret hx hb hr (fun zt ht hW => ⟨⟨⟨fta_3_5, s1_84, fta_6_89, fta_7_5⟩, rfl, ⟨(by first | omega | (dsimp only; omega) | assumption), (hZ.trans hE0)⟩, by rw [ht]; exact hP9, hD9⟩, hS.F ht⟩) hS.2.2 dX6_readWord_131
                 refine lv_icmp_ge (tgt := 131) hx hb dX6_readWord_95 (by decide) (fun c_6 => ?_) (fun c_6 => ?_)
                 · exact by
                    have k_6 : 23 ≤ l1_89 := (nI_leI (a := 23) (b := l1_89) (by omega) (by omega)).mp c_6
                    have hZ := (if_pos k_6).symm.trans hZ
                    exact hj131_5 _ _ _ hZ (hP.sub [0, 1, 2] rfl) (hD.sub [0, 1, 2] (by decide +kernel) rfl) hS (lv_sub hl [0, 1] rfl)
                 · exact by
                    have k_6 : ¬ (23 ≤ l1_89) := fun h => c_6 ((nI_leI (a := 23) (b := l1_89) (by omega) (by omega)).mpr h)
                    have hZ := (if_neg k_6).symm.trans hZ
                    refine lv_aload_n hx hb dX6_readWord_98 rfl (lv_at hl 0 rfl) ?_
                    refine va_get (D := D) (ci := 6) (v := .int s1_84) (C := RX6) (T := TX6) (N := 9) hx hb hts hi6 hown hK hP 0 rfl rfl 5 (by decide) lf59 (fun _ h9 => h9) rfl dX6_readWord_99 ?_
                    refine lv_iconst (v := 1) hx hb dX6_readWord_102 (by decide) ?_
                    refine lv_icmp_ne (tgt := 131) hx hb dX6_readWord_103 (by decide) (fun c_7 => ?_) (fun c_7 => ?_)
                    · exact by
                       have t_7 : (Int32.toInt s1_84) ≠ 1 := tI_ne rfl (by decide) c_7
                       have hZ := (if_neg c_7).symm.trans hZ
                       exact hj131_5 _ _ _ hZ (hP.sub [0, 1, 2] rfl) (hD.sub [0, 1, 2] (by decide +kernel) rfl) hS (lv_sub hl [0, 1] rfl)
                    · exact by
                       have t_7 : (Int32.toInt s1_84) = 1 := tI_eq rfl (by decide) c_7
                       have hZ := (if_pos c_7).symm.trans hZ
                       refine lv_aload_n hx hb dX6_readWord_106 rfl (lv_at hl 0 rfl) ?_
                       refine va_get (D := D) (ci := 6) (v := .ref ta_words) (C := RX6) (T := TX6) (N := 9) hx hb hts hi6 hown hK hP 0 rfl rfl 1 (by decide) lf15 (fun _ h9 => h9) rfl dX6_readWord_107 ?_
                       refine lv_iload_n hx hb dX6_readWord_110 rfl (lv_at hl 1 rfl) ?_
                       refine va_lald hx hb hK hP 2 1 rfl rfl (vp_in_nI (n := l1_89) (by omega) (by omega)) dX6_readWord_111 ?_
                       refine lv_aload_n hx hb dX6_readWord_112 rfl (lv_at hl 0 rfl) ?_
                       refine va_get (D := D) (ci := 6) (v := .long fta_7_5) (C := RX6) (T := TX6) (N := 9) hx hb hts hi6 hown hK hP 0 rfl rfl 7 (by decide) lf77 (fun _ h9 => h9) rfl dX6_readWord_113 ?_
                       refine W.lcmp hx hb dX6_readWord_116 ?_
                       have hj125_8 : ∀ (fta_6_125 : Int32) (H : Heap) (locs : List Loc) (ls : Array Slot), ((fX6_readWord_J125a l1_89 rc89_4) fta_6_125 = E0) → va_P D vwCl [(ta, kO 6 [.ref ta_signs, .ref ta_words, .int (nI ta_length), .int (nI fta_3_5), .int ta_place, .int s1_84, .int fta_6_125, .long fta_7_5, .int ta_fault]), (ta_signs, kB k 1000 ta_signsF), (ta_words, kJ k 23 ta_wordsF)] H → va_D A [(ta, kO 6 [.ref ta_signs, .ref ta_words, .int (nI ta_length), .int (nI fta_3_5), .int ta_place, .int s1_84, .int fta_6_125, .long fta_7_5, .int ta_fault]), (ta_signs, kB k 1000 ta_signsF), (ta_words, kJ k 23 ta_wordsF)] → va_S A s.heap H locs → lv_has ls 2 [(0, .ref ta), (1, .int (nI l1_89))] → W p l e R s m args below meth c H locs 0 0 Q (F0 m 125 ls []) := by
                         intro fta_6_125 H locs ls hZ hP hD hS hl
                         refine lv_iinc (v := (nI (l1_89 + 1))) (lv' := [(1, .int (nI (l1_89 + 1))), (0, .ref ta)]) hx hb dX6_readWord_125 hl (k := 1) rfl (nI_1 _) (by decide) rfl (fun ls hl => ?_)
                         exact by
                          refine lv_goto (tgt := 89) hx hb dX6_readWord_128 (by decide) ?_
                          exact ih89 (l1_89 + 1) fta_6_125 _ _ _ (by omega) (by first | omega | assumption) (by rw [← hrc89_4]; exact hZ) (hP.sub [0, 1, 2] rfl) (hD.sub [0, 1, 2] (by decide +kernel) rfl) hS (lv_sub hl [1, 0] rfl)
                       refine lv_if_ne (tgt := 125) hx hb dX6_readWord_117 (by decide) (fun c_9 => ?_) (fun c_9 => ?_)
                       · exact by
                          have hZ := (if_neg c_9).symm.trans hZ
                          exact hj125_8 fta_6_89 _ _ _ hZ (hP.sub [0, 1, 2] rfl) (hD.sub [0, 1, 2] (by decide +kernel) rfl) hS (lv_sub hl [0, 1] rfl)
                       · exact by
                          have hZ := (if_pos c_9).symm.trans hZ
                          refine lv_aload_n hx hb dX6_readWord_120 rfl (lv_at hl 0 rfl) ?_
                          refine lv_iload_n hx hb dX6_readWord_121 rfl (lv_at hl 1 rfl) ?_
                          refine va_put (D := D) (ci := 6) (v := .int (nI l1_89)) (ty := .int) (C := RX6) (T := TX6) (N := 9) hx hb hts hi6 tyX6 tyX6_ok nmX6 hown hK hP hD hS 0 rfl rfl 6 (by decide) lf56 (fun _ h9 => h9) rfl (by decide +kernel) rfl rfl (Nat.le_of_ble_eq_true rfl) dX6_readWord_122 (fun H locs hP hD hS => ?_)
                          exact by
                           have hP : va_P D vwCl [(ta, kO 6 [.ref ta_signs, .ref ta_words, .int (nI ta_length), .int (nI fta_3_5), .int ta_place, .int s1_84, .int (nI l1_89), .long fta_7_5, .int ta_fault]), (ta_signs, kB k 1000 ta_signsF), (ta_words, kJ k 23 ta_wordsF)] H := hP
                           have hD : va_D A [(ta, kO 6 [.ref ta_signs, .ref ta_words, .int (nI ta_length), .int (nI fta_3_5), .int ta_place, .int s1_84, .int (nI l1_89), .long fta_7_5, .int ta_fault]), (ta_signs, kB k 1000 ta_signsF), (ta_words, kJ k 23 ta_wordsF)] := hD
                           exact hj125_8 (nI l1_89) _ _ _ hZ (hP.sub [0, 1, 2] rfl) (hD.sub [0, 1, 2] (by decide +kernel) rfl) hS (lv_sub hl [0, 1] rfl)
             exact hloop89 ((23 + 1 - 0) + 1) 0 ta_value _ _ _ (Nat.lt_succ_self _) (by first | omega | assumption) hZ (hP.sub [0, 1, 2] rfl) (hD.sub [0, 1, 2] (by decide +kernel) rfl) hS (lv_sub hl [1, 0] rfl)
         refine lv_icmp_gt (tgt := 83) hx hb dX6_readWord_76 (by decide) (fun c_10 => ?_) (fun c_10 => ?_)
         · exact by
            have hZ := (if_pos c_10).symm.trans hZ
            refine lv_iconst (v := 4) hx hb dX6_readWord_83 (by decide) ?_
            exact hj84_3 (4 : Int32) _ _ _ hZ (hP.sub [0, 1, 2] rfl) (hD.sub [0, 1, 2] (by decide +kernel) rfl) hS (lv_sub hl [0] rfl)
         · exact by
            have hZ := (if_neg c_10).symm.trans hZ
            refine lv_iconst (v := 1) hx hb dX6_readWord_79 (by decide) ?_
            refine lv_goto (tgt := 84) hx hb dX6_readWord_80 (by decide) ?_
            exact hj84_3 (1 : Int32) _ _ _ hZ (hP.sub [0, 1, 2] rfl) (hD.sub [0, 1, 2] (by decide +kernel) rfl) hS (lv_sub hl [0] rfl)
       refine lv_icmp_ge (tgt := 64) hx hb dX6_readWord_13 (by decide) (fun c_11 => ?_) (fun c_11 => ?_)
       · exact by
          have k_11 : ta_length ≤ fta_3_5 := (nI_leI (a := ta_length) (b := fta_3_5) (by omega) (by omega)).mp c_11
          have hZ := (if_pos k_11).symm.trans hZ
          exact hj64_2 _ _ _ hZ (hP.sub [0, 1, 2] rfl) (hD.sub [0, 1, 2] (by decide +kernel) rfl) hS (lv_sub hl [0] rfl)
       · exact by
          have k_11 : ¬ (ta_length ≤ fta_3_5) := fun h => c_11 ((nI_leI (a := ta_length) (b := fta_3_5) (by omega) (by omega)).mpr h)
          have hZ := (if_neg k_11).symm.trans hZ
          refine lv_aload_n hx hb dX6_readWord_16 rfl (lv_at hl 0 rfl) ?_
          refine va_get (D := D) (ci := 6) (v := .ref ta_signs) (C := RX6) (T := TX6) (N := 9) hx hb hts hi6 hown hK hP 0 rfl rfl 0 (by decide) lf11 (fun _ h9 => h9) rfl dX6_readWord_17 ?_
          refine lv_aload_n hx hb dX6_readWord_20 rfl (lv_at hl 0 rfl) ?_
          refine va_get (D := D) (ci := 6) (v := .int (nI fta_3_5)) (C := RX6) (T := TX6) (N := 9) hx hb hts hi6 hown hK hP 0 rfl rfl 3 (by decide) lf44 (fun _ h9 => h9) rfl dX6_readWord_21 ?_
          refine va_bald hx hb hK hP 1 2 rfl rfl (vp_in_nI (n := fta_3_5) (by omega) (by omega)) dX6_readWord_24 ?_
          refine kz_Si (As := [.int (ta_signsF (Int32.toNatClampNeg (nI fta_3_5)))]) (rest := []) (wc := []) (wr := [(ta, kO 6 [.ref ta_signs, .ref ta_words, .int (nI ta_length), .int (nI fta_3_5), .int ta_place, .int ta_kind, .int ta_value, .long fta_7_5, .int ta_fault]), (ta_signs, kB k 1000 ta_signsF), (ta_words, kJ k 23 ta_wordsF)]) ⟨hx, hb, hml, hown, hts⟩ hK hE hP hD hS hA (sX6_isLetter l D k H.size (ta_signsF (Int32.toNatClampNeg (nI fta_3_5)))) (va_cwS 1 hts gX6_readWord_X6_isLetter rfl rfl rfl (by decide +kernel) (by rw [hR]; exact ⟨Nat.le_of_ble_eq_true rfl, Nat.le_of_ble_eq_true rfl⟩)) [] [0, 1, 2] rfl rfl (by decide +kernel) (by decide +kernel) (by decide +kernel) rfl hl.1 rfl (Nat.le_of_ble_eq_true rfl) dX6_readWord_25 (by rw [hR]; exact ⟨Nat.le_of_ble_eq_true rfl, Nat.le_of_ble_eq_true rfl⟩) (fun r12 u12 H locs hw12 hP hD hS => ?_)
          exact by
           try dsimp only at hw12
           obtain ⟨rfl, hw12⟩ := hw12
           have hP : va_P D vwCl [(ta, kO 6 [.ref ta_signs, .ref ta_words, .int (nI ta_length), .int (nI fta_3_5), .int ta_place, .int ta_kind, .int ta_value, .long fta_7_5, .int ta_fault]), (ta_signs, kB k 1000 ta_signsF), (ta_words, kJ k 23 ta_wordsF)] H := hP
           have hD : va_D A [(ta, kO 6 [.ref ta_signs, .ref ta_words, .int (nI ta_length), .int (nI fta_3_5), .int ta_place, .int ta_kind, .int ta_value, .long fta_7_5, .int ta_fault]), (ta_signs, kB k 1000 ta_signsF), (ta_words, kJ k 23 ta_wordsF)] := hD
           have hw12_0 := hw12
           have hZ := bn1_e hw12_0 hZ
           refine lv_if_eq (tgt := 64) hx hb dX6_readWord_28 (by decide) (fun c_13 => ?_) (fun c_13 => ?_)
           · exact by
              have b_13 : u12 = false := bB_0 c_13
              have hZ := (if_neg (bF b_13)).symm.trans hZ
              exact hj64_2 _ _ _ hZ (hP.sub [0, 1, 2] rfl) (hD.sub [0, 1, 2] (by decide +kernel) rfl) hS (lv_sub hl [0] rfl)
           · exact by
              have b_13 : u12 = true := bB_1 c_13
              have hZ := (if_pos b_13).symm.trans hZ
              refine lv_aload_n hx hb dX6_readWord_31 rfl (lv_at hl 0 rfl) ?_
              refine lv_aload_n hx hb dX6_readWord_32 rfl (lv_at hl 0 rfl) ?_
              refine va_get (D := D) (ci := 6) (v := .long fta_7_5) (C := RX6) (T := TX6) (N := 9) hx hb hts hi6 hown hK hP 0 rfl rfl 7 (by decide) lf77 (fun _ h9 => h9) rfl dX6_readWord_33 ?_
              refine lv_aload_n hx hb dX6_readWord_36 rfl (lv_at hl 0 rfl) ?_
              refine va_get (D := D) (ci := 6) (v := .ref ta_signs) (C := RX6) (T := TX6) (N := 9) hx hb hts hi6 hown hK hP 0 rfl rfl 0 (by decide) lf11 (fun _ h9 => h9) rfl dX6_readWord_37 ?_
              refine lv_aload_n hx hb dX6_readWord_40 rfl (lv_at hl 0 rfl) ?_
              refine va_get (D := D) (ci := 6) (v := .int (nI fta_3_5)) (C := RX6) (T := TX6) (N := 9) hx hb hts hi6 hown hK hP 0 rfl rfl 3 (by decide) lf44 (fun _ h9 => h9) rfl dX6_readWord_41 ?_
              refine va_bald hx hb hK hP 1 2 rfl rfl (vp_in_nI (n := fta_3_5) (by omega) (by omega)) dX6_readWord_44 ?_
              refine kz_Sl (As := [.long fta_7_5, .int (ta_signsF (Int32.toNatClampNeg (nI fta_3_5)))]) (rest := [.ref ta]) (wc := []) (wr := [(ta, kO 6 [.ref ta_signs, .ref ta_words, .int (nI ta_length), .int (nI fta_3_5), .int ta_place, .int ta_kind, .int ta_value, .long fta_7_5, .int ta_fault]), (ta_signs, kB k 1000 ta_signsF), (ta_words, kJ k 23 ta_wordsF)]) ⟨hx, hb, hml, hown, hts⟩ hK hE hP hD hS hA (sX6_withLetter l D k H.size fta_7_5 (ta_signsF (Int32.toNatClampNeg (nI fta_3_5)))) (va_cwS 2 hts gX6_readWord_X6_withLetter rfl rfl rfl (by decide +kernel) (by rw [hR]; exact ⟨Nat.le_of_ble_eq_true rfl, Nat.le_of_ble_eq_true rfl⟩)) [] [0, 1, 2] rfl rfl (by decide +kernel) (by decide +kernel) (by decide +kernel) rfl hl.1 rfl (Nat.le_of_ble_eq_true rfl) dX6_readWord_45 (by rw [hR]; exact ⟨Nat.le_of_ble_eq_true rfl, Nat.le_of_ble_eq_true rfl⟩) (fun r14 u14 H locs hw14 hP hD hS => ?_)
              exact by
               try dsimp only at hw14
               have hP : va_P D vwCl [(ta, kO 6 [.ref ta_signs, .ref ta_words, .int (nI ta_length), .int (nI fta_3_5), .int ta_place, .int ta_kind, .int ta_value, .long fta_7_5, .int ta_fault]), (ta_signs, kB k 1000 ta_signsF), (ta_words, kJ k 23 ta_wordsF)] H := hP
               have hD : va_D A [(ta, kO 6 [.ref ta_signs, .ref ta_words, .int (nI ta_length), .int (nI fta_3_5), .int ta_place, .int ta_kind, .int ta_value, .long fta_7_5, .int ta_fault]), (ta_signs, kB k 1000 ta_signsF), (ta_words, kJ k 23 ta_wordsF)] := hD
               have hw14_0 := hw14
               have hZ := bn1_e hw14_0 hZ
               refine va_put (D := D) (ci := 6) (v := .long r14) (ty := .long) (C := RX6) (T := TX6) (N := 9) hx hb hts hi6 tyX6 tyX6_ok nmX6 hown hK hP hD hS 0 rfl rfl 7 (by decide) lf77 (fun _ h9 => h9) rfl (by decide +kernel) rfl rfl (Nat.le_of_ble_eq_true rfl) dX6_readWord_48 (fun H locs hP hD hS => ?_)
               exact by
                have hP : va_P D vwCl [(ta, kO 6 [.ref ta_signs, .ref ta_words, .int (nI ta_length), .int (nI fta_3_5), .int ta_place, .int ta_kind, .int ta_value, .long r14, .int ta_fault]), (ta_signs, kB k 1000 ta_signsF), (ta_words, kJ k 23 ta_wordsF)] H := hP
                have hD : va_D A [(ta, kO 6 [.ref ta_signs, .ref ta_words, .int (nI ta_length), .int (nI fta_3_5), .int ta_place, .int ta_kind, .int ta_value, .long r14, .int ta_fault]), (ta_signs, kB k 1000 ta_signsF), (ta_words, kJ k 23 ta_wordsF)] := hD
                refine lv_aload_n hx hb dX6_readWord_51 rfl (lv_at hl 0 rfl) ?_
                refine lv_dup hx hb dX6_readWord_52 rfl ?_
                refine va_get (D := D) (ci := 6) (v := .int (nI fta_3_5)) (C := RX6) (T := TX6) (N := 9) hx hb hts hi6 hown hK hP 0 rfl rfl 3 (by decide) lf44 (fun _ h9 => h9) rfl dX6_readWord_53 ?_
                refine lv_iconst (v := 1) hx hb dX6_readWord_56 (by decide) ?_
                refine lv_iadd hx hb dX6_readWord_57 ?_
                refine lv_topi (fun x15 ex15 => ?_)
                exact by
                 obtain rfl : x15 = (nI (fta_3_5 + 1)) := ex15.trans (nI_add fta_3_5 1)
                 refine va_put (D := D) (ci := 6) (v := .int (nI (fta_3_5 + 1))) (ty := .int) (C := RX6) (T := TX6) (N := 9) hx hb hts hi6 tyX6 tyX6_ok nmX6 hown hK hP hD hS 0 rfl rfl 3 (by decide) lf44 (fun _ h9 => h9) rfl (by decide +kernel) rfl rfl (Nat.le_of_ble_eq_true rfl) dX6_readWord_58 (fun H locs hP hD hS => ?_)
                 exact by
                  have hP : va_P D vwCl [(ta, kO 6 [.ref ta_signs, .ref ta_words, .int (nI ta_length), .int (nI (fta_3_5 + 1)), .int ta_place, .int ta_kind, .int ta_value, .long r14, .int ta_fault]), (ta_signs, kB k 1000 ta_signsF), (ta_words, kJ k 23 ta_wordsF)] H := hP
                  have hD : va_D A [(ta, kO 6 [.ref ta_signs, .ref ta_words, .int (nI ta_length), .int (nI (fta_3_5 + 1)), .int ta_place, .int ta_kind, .int ta_value, .long r14, .int ta_fault]), (ta_signs, kB k 1000 ta_signsF), (ta_words, kJ k 23 ta_wordsF)] := hD
                  refine lv_goto (tgt := 5) hx hb dX6_readWord_61 (by decide) ?_
                  exact ih5 (fta_3_5 + 1) r14 _ _ _ (by omega) (by first | omega | assumption) (by rw [← hrc5_1]; exact hZ) (hP.sub [0, 1, 2] rfl) (hD.sub [0, 1, 2] (by decide +kernel) rfl) hS (lv_sub hl [0] rfl)
   exact hloop5 ((1000 + 1 - ta_next) + 1) ta_next (0 : Int64) _ _ _ (Nat.lt_succ_self _) (by first | omega | assumption) hZ (hP.sub [0, 1, 2] rfl) (hD.sub [0, 1, 2] (by decide +kernel) rfl) hS (lv_sub hl [0] rfl)
theorem dX6_readNumber_0 : decode cX6_readNumber 0 = .ok (.aload_n 0, 1) := dk_aload_n_0 (by decide +kernel)
theorem dX6_readNumber_1 : decode cX6_readNumber 1 = .ok (.iconst 0, 1) := dk_iconst_0 (by decide +kernel)
theorem dX6_readNumber_2 : decode cX6_readNumber 2 = .ok (.putfield 56, 3) := dk_putfield (by decide +kernel)
theorem dX6_readNumber_5 : decode cX6_readNumber 5 = .ok (.aload_n 0, 1) := dk_aload_n_0 (by decide +kernel)
theorem dX6_readNumber_6 : decode cX6_readNumber 6 = .ok (.getfield 44, 3) := dk_getfield (by decide +kernel)
theorem dX6_readNumber_9 : decode cX6_readNumber 9 = .ok (.aload_n 0, 1) := dk_aload_n_0 (by decide +kernel)
theorem dX6_readNumber_10 : decode cX6_readNumber 10 = .ok (.getfield 41, 3) := dk_getfield (by decide +kernel)
theorem dX6_readNumber_13 : decode cX6_readNumber 13 = .ok (.if_icmp .ge 55, 3) := dk_if_icmp_ge (by decide +kernel)
theorem dX6_readNumber_16 : decode cX6_readNumber 16 = .ok (.aload_n 0, 1) := dk_aload_n_0 (by decide +kernel)
theorem dX6_readNumber_17 : decode cX6_readNumber 17 = .ok (.getfield 11, 3) := dk_getfield (by decide +kernel)
theorem dX6_readNumber_20 : decode cX6_readNumber 20 = .ok (.aload_n 0, 1) := dk_aload_n_0 (by decide +kernel)
theorem dX6_readNumber_21 : decode cX6_readNumber 21 = .ok (.getfield 44, 3) := dk_getfield (by decide +kernel)
theorem dX6_readNumber_24 : decode cX6_readNumber 24 = .ok (.baload, 1) := dk_baload (by decide +kernel)
theorem dX6_readNumber_25 : decode cX6_readNumber 25 = .ok (.invokestatic 65, 3) := dk_invokestatic (by decide +kernel)
theorem dX6_readNumber_28 : decode cX6_readNumber 28 = .ok (.ifCond .eq 40, 3) := dk_ifCond_eq (by decide +kernel)
theorem dX6_readNumber_31 : decode cX6_readNumber 31 = .ok (.aload_n 0, 1) := dk_aload_n_0 (by decide +kernel)
theorem dX6_readNumber_32 : decode cX6_readNumber 32 = .ok (.aload_n 0, 1) := dk_aload_n_0 (by decide +kernel)
theorem dX6_readNumber_33 : decode cX6_readNumber 33 = .ok (.getfield 56, 3) := dk_getfield (by decide +kernel)
theorem dX6_readNumber_36 : decode cX6_readNumber 36 = .ok (.bipush 10, 2) := dk_bipush (by decide +kernel)
theorem dX6_readNumber_38 : decode cX6_readNumber 38 = .ok (.imul, 1) := dk_imul (by decide +kernel)
theorem dX6_readNumber_39 : decode cX6_readNumber 39 = .ok (.aload_n 0, 1) := dk_aload_n_0 (by decide +kernel)
theorem dX6_readNumber_40 : decode cX6_readNumber 40 = .ok (.getfield 11, 3) := dk_getfield (by decide +kernel)
theorem dX6_readNumber_43 : decode cX6_readNumber 43 = .ok (.aload_n 0, 1) := dk_aload_n_0 (by decide +kernel)
theorem dX6_readNumber_44 : decode cX6_readNumber 44 = .ok (.getfield 44, 3) := dk_getfield (by decide +kernel)
theorem dX6_readNumber_47 : decode cX6_readNumber 47 = .ok (.baload, 1) := dk_baload (by decide +kernel)
theorem dX6_readNumber_48 : decode cX6_readNumber 48 = .ok (.iadd, 1) := dk_iadd (by decide +kernel)
theorem dX6_readNumber_49 : decode cX6_readNumber 49 = .ok (.bipush 48, 2) := dk_bipush (by decide +kernel)
theorem dX6_readNumber_51 : decode cX6_readNumber 51 = .ok (.isub, 1) := dk_isub (by decide +kernel)
theorem dX6_readNumber_52 : decode cX6_readNumber 52 = .ok (.putfield 56, 3) := dk_putfield (by decide +kernel)
theorem dX6_readNumber_55 : decode cX6_readNumber 55 = .ok (.aload_n 0, 1) := dk_aload_n_0 (by decide +kernel)
theorem dX6_readNumber_56 : decode cX6_readNumber 56 = .ok (.dup, 1) := dk_dup (by decide +kernel)
theorem dX6_readNumber_57 : decode cX6_readNumber 57 = .ok (.getfield 44, 3) := dk_getfield (by decide +kernel)
theorem dX6_readNumber_60 : decode cX6_readNumber 60 = .ok (.iconst 1, 1) := dk_iconst_1 (by decide +kernel)
theorem dX6_readNumber_61 : decode cX6_readNumber 61 = .ok (.iadd, 1) := dk_iadd (by decide +kernel)
theorem dX6_readNumber_62 : decode cX6_readNumber 62 = .ok (.putfield 44, 3) := dk_putfield (by decide +kernel)
theorem dX6_readNumber_65 : decode cX6_readNumber 65 = .ok (.goto (-60), 3) := dk_goto (by decide +kernel)
theorem dX6_readNumber_68 : decode cX6_readNumber 68 = .ok (.aload_n 0, 1) := dk_aload_n_0 (by decide +kernel)
theorem dX6_readNumber_69 : decode cX6_readNumber 69 = .ok (.aload_n 0, 1) := dk_aload_n_0 (by decide +kernel)
theorem dX6_readNumber_70 : decode cX6_readNumber 70 = .ok (.getfield 44, 3) := dk_getfield (by decide +kernel)
theorem dX6_readNumber_73 : decode cX6_readNumber 73 = .ok (.aload_n 0, 1) := dk_aload_n_0 (by decide +kernel)
theorem dX6_readNumber_74 : decode cX6_readNumber 74 = .ok (.getfield 53, 3) := dk_getfield (by decide +kernel)
theorem dX6_readNumber_77 : decode cX6_readNumber 77 = .ok (.isub, 1) := dk_isub (by decide +kernel)
theorem dX6_readNumber_78 : decode cX6_readNumber 78 = .ok (.iconst 4, 1) := dk_iconst_4 (by decide +kernel)
theorem dX6_readNumber_79 : decode cX6_readNumber 79 = .ok (.if_icmp .gt 7, 3) := dk_if_icmp_gt (by decide +kernel)
theorem dX6_readNumber_82 : decode cX6_readNumber 82 = .ok (.iconst 2, 1) := dk_iconst_2 (by decide +kernel)
theorem dX6_readNumber_83 : decode cX6_readNumber 83 = .ok (.goto 4, 3) := dk_goto (by decide +kernel)
theorem dX6_readNumber_86 : decode cX6_readNumber 86 = .ok (.iconst 4, 1) := dk_iconst_4 (by decide +kernel)
theorem dX6_readNumber_87 : decode cX6_readNumber 87 = .ok (.putfield 59, 3) := dk_putfield (by decide +kernel)
theorem dX6_readNumber_90 : decode cX6_readNumber 90 = .ok (.return_, 1) := dk_return_ (by decide +kernel)
set_option maxRecDepth 20000 in
theorem ggX6_readNumber_X6_isDigit : GoodIn wsX6_readNumber wsX6_isDigit := goodIn_sub (sub_cons (List.mem_cons_of_mem _ (List.mem_append_left _ (List.mem_of_getElem? (i := 9) rfl))) sub_nil) gw_X6_isDigit
set_option maxRecDepth 20000 in
theorem gX6_readNumber_X6_isDigit : GoodIn wsX6_readNumber (va_wsS RX6 65 yX6_isDigit wsX6_isDigit) := goodIn_app (goodIn_of _ (by decide +kernel)) ggX6_readNumber_X6_isDigit
set_option maxHeartbeats 4000000 in
set_option maxRecDepth 100000 in
theorem sX6_readNumber (l : Launch) (D : va_G) (k : Nat → ClassId) (sz : Nat) (ta : Nat) (ta_signs : Nat) (ta_words : Nat) (ta_length : Nat) (ta_next : Nat) (ta_place : Int32) (ta_kind : Int32) (ta_value : Int32) (ta_letters : Int64) (ta_fault : Int32) (ta_signsF : Nat → Int32) (h_ta_length : ta_length ≤ 1000) (h_ta_next : ta_next ≤ 1000) : Met l yX6_readNumber wsX6_readNumber ({ frames := 1, cells := 0, slots := 0, locals := 70 }) (va_Pc [.ref ta] (kz_Pre D k [(ta, kO 6 [.ref ta_signs, .ref ta_words, .int (nI ta_length), .int (nI ta_next), .int ta_place, .int ta_kind, .int ta_value, .long ta_letters, .int ta_fault]), (ta_signs, kB k 1000 ta_signsF)] sz)) (va_Qv (fun (uu : Nat × Int32 × Int32) => (uu.1 ≤ 1000) ∧ ((uu.1, uu.2.1, uu.2.2) = (fX6_readNumber ta_length ta_next ta_place ta_signsF))) (fun uu zt => kz_B D (va_A [(ta, kO 6 [.ref ta_signs, .ref ta_words, .int (nI ta_length), .int (nI ta_next), .int ta_place, .int ta_kind, .int ta_value, .long ta_letters, .int ta_fault]), (ta_signs, kB k 1000 ta_signsF)] sz) [(ta, kO 6 [.ref ta_signs, .ref ta_words, .int (nI ta_length), .int (nI uu.1), .int ta_place, .int uu.2.1, .int uu.2.2, .long ta_letters, .int ta_fault]), (ta_signs, kB k 1000 ta_signsF)] zt) (va_A [(ta, kO 6 [.ref ta_signs, .ref ta_words, .int (nI ta_length), .int (nI ta_next), .int ta_place, .int ta_kind, .int ta_value, .long ta_letters, .int ta_fault]), (ta_signs, kB k 1000 ta_signsF)] sz)) 0 0 (va_A [(ta, kO 6 [.ref ta_signs, .ref ta_words, .int (nI ta_length), .int (nI ta_next), .int ta_place, .int ta_kind, .int ta_value, .long ta_letters, .int ta_fault]), (ta_signs, kB k 1000 ta_signsF)] sz) := by
  refine Met.ofW (cc := cX6_readNumber) (maxL := 1) (ret := none) (by decide) rfl ?_
  intro p e s m args below meth c s₁ B hml hv
  obtain ⟨hav, hsz, hP, hK, hD0, hE⟩ := hv
  have hx := B.exec
  have hb := B.bytes
  have hr := B.returns
  have hts := atoms_spec (ws := wsX6_readNumber) B.pre
  have hown : s.vm.findClass RX6 = some m.cls := findClass_of_methodNamed B.named
  have hlocks := B.notSynchronized
  have hi6 : ∀ w ∈ u_ws RX6 TX6 9, w ∈ wsX6_readNumber := fun w h9 => List.mem_cons_of_mem _ (List.mem_append_right _ h9)
  have lf56 := hts (.fieldLink RX6 56 "LastCook$Tape" "value" "I") (List.mem_cons_of_mem _ (List.mem_append_left _ (List.mem_of_getElem? (i := 0) rfl)))
  have lf44 := hts (.fieldLink RX6 44 "LastCook$Tape" "next" "I") (List.mem_cons_of_mem _ (List.mem_append_left _ (List.mem_of_getElem? (i := 1) rfl)))
  have lf41 := hts (.fieldLink RX6 41 "LastCook$Tape" "length" "I") (List.mem_cons_of_mem _ (List.mem_append_left _ (List.mem_of_getElem? (i := 2) rfl)))
  have lf53 := hts (.fieldLink RX6 53 "LastCook$Tape" "place" "I") (List.mem_cons_of_mem _ (List.mem_append_left _ (List.mem_of_getElem? (i := 4) rfl)))
  have lf59 := hts (.fieldLink RX6 59 "LastCook$Tape" "kind" "I") (List.mem_cons_of_mem _ (List.mem_append_left _ (List.mem_of_getElem? (i := 5) rfl)))
  have lf11 := hts (.fieldLink RX6 11 "LastCook$Tape" "signs" "[B") (List.mem_cons_of_mem _ (List.mem_append_left _ (List.mem_of_getElem? (i := 3) rfl)))
  subst hsz
  have hD := hD0.self (sz := s.heap.size)
  generalize hAe : va_A [(ta, kO 6 [.ref ta_signs, .ref ta_words, .int (nI ta_length), .int (nI ta_next), .int ta_place, .int ta_kind, .int ta_value, .long ta_letters, .int ta_fault]), (ta_signs, kB k 1000 ta_signsF)] s.heap.size = A at hD ⊢
  have hA : ∀ q : Nat, s.heap.size ≤ q → A q := fun q h => by rw [← hAe]; exact Or.inr h
  have hS : va_S A s.heap s.heap [] := va_S.rf
  have hl := lv_entry ([.ref ta]) (n := 1) (Nat.le_of_ble_eq_true rfl)
  rw [show entryFrame m args 1 = entryFrame m ([.ref ta] : List Value).toArray 1 by rw [hav], lg_entry_eq]
  generalize (lg_sl ([.ref ta]) ++ List.replicate (1 - (lg_sl ([.ref ta])).length) Slot.unset).toArray = ls at hl ⊢
  have hl : lv_has ls 1 [(0, .ref ta)] := hl
  obtain ⟨R, hR⟩ : ∃ R, R = (headSpec wsX6_readNumber ({ frames := 1, cells := 0, slots := 0, locals := 70 } : Room)).room := ⟨_, rfl⟩
  rw [← hR]
  generalize hQ : MQ below _ args s 0 0 A = Q
  replace hQ := hQ.symm
  obtain ⟨H, hH⟩ : ∃ H, H = s.heap := ⟨_, rfl⟩
  rw [← hH] at hP ⊢
  have hS : va_S A s.heap H [] := by rw [hH]; exact hS
  obtain ⟨E0, hE0⟩ : ∃ E0 : Nat × Int32 × Int32, E0 = (fX6_readNumber ta_length ta_next ta_place ta_signsF) := ⟨_, rfl⟩
  have hZ : (fX6_readNumber ta_length ta_next ta_place ta_signsF) = E0 := hE0.symm
  refine lv_aload_n hx hb dX6_readNumber_0 rfl (lv_at hl 0 rfl) ?_
  refine lv_iconst (v := 0) hx hb dX6_readNumber_1 (by decide) ?_
  refine va_put (D := D) (ci := 6) (v := .int 0) (ty := .int) (C := RX6) (T := TX6) (N := 9) hx hb hts hi6 tyX6 tyX6_ok nmX6 hown hK hP hD hS 0 rfl rfl 6 (by decide) lf56 (fun _ h9 => h9) rfl (by decide +kernel) rfl rfl (Nat.le_of_ble_eq_true rfl) dX6_readNumber_2 (fun H locs hP hD hS => ?_)
  exact by
   have hP : va_P D vwCl [(ta, kO 6 [.ref ta_signs, .ref ta_words, .int (nI ta_length), .int (nI ta_next), .int ta_place, .int ta_kind, .int 0, .long ta_letters, .int ta_fault]), (ta_signs, kB k 1000 ta_signsF)] H := hP
   have hD : va_D A [(ta, kO 6 [.ref ta_signs, .ref ta_words, .int (nI ta_length), .int (nI ta_next), .int ta_place, .int ta_kind, .int 0, .long ta_letters, .int ta_fault]), (ta_signs, kB k 1000 ta_signsF)] := hD
   have hloop5 : ∀ (nq : Nat) (fta_3_5 : Nat) (fta_6_5 : Int32) (H : Heap) (locs : List Loc) (ls : Array Slot), (1000 + 1 - fta_3_5) < nq → (fta_3_5 ≤ 1000) → (lp (fun _ _ => (0, (0 : Int32), (0 : Int32))) (fX6_readNumber_B5a ta_length ta_place ta_signsF) nq fta_3_5 fta_6_5 = E0) → va_P D vwCl [(ta, kO 6 [.ref ta_signs, .ref ta_words, .int (nI ta_length), .int (nI fta_3_5), .int ta_place, .int ta_kind, .int fta_6_5, .long ta_letters, .int ta_fault]), (ta_signs, kB k 1000 ta_signsF)] H → va_D A [(ta, kO 6 [.ref ta_signs, .ref ta_words, .int (nI ta_length), .int (nI fta_3_5), .int ta_place, .int ta_kind, .int fta_6_5, .long ta_letters, .int ta_fault]), (ta_signs, kB k 1000 ta_signsF)] → va_S A s.heap H locs → lv_has ls 1 [(0, .ref ta)] → W p l e R s m args below meth c H locs 0 0 Q (F0 m 5 ls []) := by
     intro n5
     induction n5 with
     | zero => intro fta_3_5 fta_6_5 H locs ls hm; exact absurd hm (Nat.not_lt_zero _)
     | succ n5 ih5 =>
       intro fta_3_5 fta_6_5 H locs ls hm5 i_fta_3_5 hZ hP hD hS hl
       obtain ⟨rc5_1, hrc5_1⟩ : ∃ r : Nat → Int32 → Nat × Int32 × Int32, r = lp (fun _ _ => (0, (0 : Int32), (0 : Int32))) (fX6_readNumber_B5a ta_length ta_place ta_signsF) n5 := ⟨_, rfl⟩
       have hZ : (fX6_readNumber_B5a ta_length ta_place ta_signsF) rc5_1 fta_3_5 fta_6_5 = E0 := by rw [hrc5_1]; exact hZ
       refine lv_aload_n hx hb dX6_readNumber_5 rfl (lv_at hl 0 rfl) ?_
       refine va_get (D := D) (ci := 6) (v := .int (nI fta_3_5)) (C := RX6) (T := TX6) (N := 9) hx hb hts hi6 hown hK hP 0 rfl rfl 3 (by decide) lf44 (fun _ h9 => h9) rfl dX6_readNumber_6 ?_
       refine lv_aload_n hx hb dX6_readNumber_9 rfl (lv_at hl 0 rfl) ?_
       refine va_get (D := D) (ci := 6) (v := .int (nI ta_length)) (C := RX6) (T := TX6) (N := 9) hx hb hts hi6 hown hK hP 0 rfl rfl 2 (by decide) lf41 (fun _ h9 => h9) rfl dX6_readNumber_10 ?_
       have hj68_2 : ∀ (H : Heap) (locs : List Loc) (ls : Array Slot), ((fX6_readNumber_J68a ta_place fta_3_5 fta_6_5) = E0) → va_P D vwCl [(ta, kO 6 [.ref ta_signs, .ref ta_words, .int (nI ta_length), .int (nI fta_3_5), .int ta_place, .int ta_kind, .int fta_6_5, .long ta_letters, .int ta_fault]), (ta_signs, kB k 1000 ta_signsF)] H → va_D A [(ta, kO 6 [.ref ta_signs, .ref ta_words, .int (nI ta_length), .int (nI fta_3_5), .int ta_place, .int ta_kind, .int fta_6_5, .long ta_letters, .int ta_fault]), (ta_signs, kB k 1000 ta_signsF)] → va_S A s.heap H locs → lv_has ls 1 [(0, .ref ta)] → W p l e R s m args below meth c H locs 0 0 Q (F0 m 68 ls []) := by
         intro H locs ls hZ hP hD hS hl
         refine lv_aload_n hx hb dX6_readNumber_68 rfl (lv_at hl 0 rfl) ?_
         refine lv_aload_n hx hb dX6_readNumber_69 rfl (lv_at hl 0 rfl) ?_
         refine va_get (D := D) (ci := 6) (v := .int (nI fta_3_5)) (C := RX6) (T := TX6) (N := 9) hx hb hts hi6 hown hK hP 0 rfl rfl 3 (by decide) lf44 (fun _ h9 => h9) rfl dX6_readNumber_70 ?_
         refine lv_aload_n hx hb dX6_readNumber_73 rfl (lv_at hl 0 rfl) ?_
         refine va_get (D := D) (ci := 6) (v := .int ta_place) (C := RX6) (T := TX6) (N := 9) hx hb hts hi6 hown hK hP 0 rfl rfl 4 (by decide) lf53 (fun _ h9 => h9) rfl dX6_readNumber_74 ?_
         refine lv_isub hx hb dX6_readNumber_77 ?_
         refine lv_iconst (v := 4) hx hb dX6_readNumber_78 (by decide) ?_
         have hj87_3 : ∀ (s1_87 : Int32) (H : Heap) (locs : List Loc) (ls : Array Slot), ((fX6_readNumber_J87a fta_3_5 fta_6_5) s1_87 = E0) → va_P D vwCl [(ta, kO 6 [.ref ta_signs, .ref ta_words, .int (nI ta_length), .int (nI fta_3_5), .int ta_place, .int ta_kind, .int fta_6_5, .long ta_letters, .int ta_fault]), (ta_signs, kB k 1000 ta_signsF)] H → va_D A [(ta, kO 6 [.ref ta_signs, .ref ta_words, .int (nI ta_length), .int (nI fta_3_5), .int ta_place, .int ta_kind, .int fta_6_5, .long ta_letters, .int ta_fault]), (ta_signs, kB k 1000 ta_signsF)] → va_S A s.heap H locs → lv_has ls 1 [(0, .ref ta)] → W p l e R s m args below meth c H locs 0 0 Q (F0 m 87 ls [.int s1_87, .ref ta]) := by
           intro s1_87 H locs ls hZ hP hD hS hl
           refine va_put (D := D) (ci := 6) (v := .int s1_87) (ty := .int) (C := RX6) (T := TX6) (N := 9) hx hb hts hi6 tyX6 tyX6_ok nmX6 hown hK hP hD hS 0 rfl rfl 5 (by decide) lf59 (fun _ h9 => h9) rfl (by decide +kernel) rfl rfl (Nat.le_of_ble_eq_true rfl) dX6_readNumber_87 (fun H locs hP hD hS => ?_)
           exact by
            have hP : va_P D vwCl [(ta, kO 6 [.ref ta_signs, .ref ta_words, .int (nI ta_length), .int (nI fta_3_5), .int ta_place, .int s1_87, .int fta_6_5, .long ta_letters, .int ta_fault]), (ta_signs, kB k 1000 ta_signsF)] H := hP
            have hD : va_D A [(ta, kO 6 [.ref ta_signs, .ref ta_words, .int (nI ta_length), .int (nI fta_3_5), .int ta_place, .int s1_87, .int fta_6_5, .long ta_letters, .int ta_fault]), (ta_signs, kB k 1000 ta_signsF)] := hD
            rw [hQ]
            have hP9 := hP.sub (ws' := [(ta, kO 6 [.ref ta_signs, .ref ta_words, .int (nI ta_length), .int (nI fta_3_5), .int ta_place, .int s1_87, .int fta_6_5, .long ta_letters, .int ta_fault]), (ta_signs, kB k 1000 ta_signsF)]) [0, 1] rfl
            have hD9 := hD.sub (ws' := [(ta, kO 6 [.ref ta_signs, .ref ta_words, .int (nI ta_length), .int (nI fta_3_5), .int ta_place, .int s1_87, .int fta_6_5, .long ta_letters, .int ta_fault]), (ta_signs, kB k 1000 ta_signsF)]) [0, 1] (by decide +kernel) rfl
            exact W.vret hx hb hr (fun zt ht hW => ⟨⟨⟨fta_3_5, s1_87, fta_6_5⟩, rfl, ⟨(by first | omega | (dsimp only; omega) | assumption), (hZ.trans hE0)⟩, by rw [ht]; exact hP9, hD9⟩, hS.F ht⟩) hS.2.2 dX6_readNumber_90
         refine lv_icmp_gt (tgt := 86) hx hb dX6_readNumber_79 (by decide) (fun c_4 => ?_) (fun c_4 => ?_)
         · exact by
            have hZ := (if_pos c_4).symm.trans hZ
            refine lv_iconst (v := 4) hx hb dX6_readNumber_86 (by decide) ?_
            exact hj87_3 (4 : Int32) _ _ _ hZ (hP.sub [0, 1] rfl) (hD.sub [0, 1] (by decide +kernel) rfl) hS (lv_sub hl [0] rfl)
         · exact by
            have hZ := (if_neg c_4).symm.trans hZ
            refine lv_iconst (v := 2) hx hb dX6_readNumber_82 (by decide) ?_
            refine lv_goto (tgt := 87) hx hb dX6_readNumber_83 (by decide) ?_
            exact hj87_3 (2 : Int32) _ _ _ hZ (hP.sub [0, 1] rfl) (hD.sub [0, 1] (by decide +kernel) rfl) hS (lv_sub hl [0] rfl)
       refine lv_icmp_ge (tgt := 68) hx hb dX6_readNumber_13 (by decide) (fun c_5 => ?_) (fun c_5 => ?_)
       · exact by
          have k_5 : ta_length ≤ fta_3_5 := (nI_leI (a := ta_length) (b := fta_3_5) (by omega) (by omega)).mp c_5
          have hZ := (if_pos k_5).symm.trans hZ
          exact hj68_2 _ _ _ hZ (hP.sub [0, 1] rfl) (hD.sub [0, 1] (by decide +kernel) rfl) hS (lv_sub hl [0] rfl)
       · exact by
          have k_5 : ¬ (ta_length ≤ fta_3_5) := fun h => c_5 ((nI_leI (a := ta_length) (b := fta_3_5) (by omega) (by omega)).mpr h)
          have hZ := (if_neg k_5).symm.trans hZ
          refine lv_aload_n hx hb dX6_readNumber_16 rfl (lv_at hl 0 rfl) ?_
          refine va_get (D := D) (ci := 6) (v := .ref ta_signs) (C := RX6) (T := TX6) (N := 9) hx hb hts hi6 hown hK hP 0 rfl rfl 0 (by decide) lf11 (fun _ h9 => h9) rfl dX6_readNumber_17 ?_
          refine lv_aload_n hx hb dX6_readNumber_20 rfl (lv_at hl 0 rfl) ?_
          refine va_get (D := D) (ci := 6) (v := .int (nI fta_3_5)) (C := RX6) (T := TX6) (N := 9) hx hb hts hi6 hown hK hP 0 rfl rfl 3 (by decide) lf44 (fun _ h9 => h9) rfl dX6_readNumber_21 ?_
          refine va_bald hx hb hK hP 1 2 rfl rfl (vp_in_nI (n := fta_3_5) (by omega) (by omega)) dX6_readNumber_24 ?_
          refine kz_Si (As := [.int (ta_signsF (Int32.toNatClampNeg (nI fta_3_5)))]) (rest := []) (wc := []) (wr := [(ta, kO 6 [.ref ta_signs, .ref ta_words, .int (nI ta_length), .int (nI fta_3_5), .int ta_place, .int ta_kind, .int fta_6_5, .long ta_letters, .int ta_fault]), (ta_signs, kB k 1000 ta_signsF)]) ⟨hx, hb, hml, hown, hts⟩ hK hE hP hD hS hA (sX6_isDigit l D k H.size (ta_signsF (Int32.toNatClampNeg (nI fta_3_5)))) (va_cwS 1 hts gX6_readNumber_X6_isDigit rfl rfl rfl (by decide +kernel) (by rw [hR]; exact ⟨Nat.le_of_ble_eq_true rfl, Nat.le_of_ble_eq_true rfl⟩)) [] [0, 1] rfl rfl (by decide +kernel) (by decide +kernel) (by decide +kernel) rfl hl.1 rfl (Nat.le_of_ble_eq_true rfl) dX6_readNumber_25 (by rw [hR]; exact ⟨Nat.le_of_ble_eq_true rfl, Nat.le_of_ble_eq_true rfl⟩) (fun r6 u6 H locs hw6 hP hD hS => ?_)
          exact by
           try dsimp only at hw6
           obtain ⟨rfl, hw6⟩ := hw6
           have hP : va_P D vwCl [(ta, kO 6 [.ref ta_signs, .ref ta_words, .int (nI ta_length), .int (nI fta_3_5), .int ta_place, .int ta_kind, .int fta_6_5, .long ta_letters, .int ta_fault]), (ta_signs, kB k 1000 ta_signsF)] H := hP
           have hD : va_D A [(ta, kO 6 [.ref ta_signs, .ref ta_words, .int (nI ta_length), .int (nI fta_3_5), .int ta_place, .int ta_kind, .int fta_6_5, .long ta_letters, .int ta_fault]), (ta_signs, kB k 1000 ta_signsF)] := hD
           have hw6_0 := hw6
           have hZ := bn1_e hw6_0 hZ
           refine lv_if_eq (tgt := 68) hx hb dX6_readNumber_28 (by decide) (fun c_7 => ?_) (fun c_7 => ?_)
           · exact by
              have b_7 : u6 = false := bB_0 c_7
              have hZ := (if_neg (bF b_7)).symm.trans hZ
              exact hj68_2 _ _ _ hZ (hP.sub [0, 1] rfl) (hD.sub [0, 1] (by decide +kernel) rfl) hS (lv_sub hl [0] rfl)
           · exact by
              have b_7 : u6 = true := bB_1 c_7
              have hZ := (if_pos b_7).symm.trans hZ
              refine lv_aload_n hx hb dX6_readNumber_31 rfl (lv_at hl 0 rfl) ?_
              refine lv_aload_n hx hb dX6_readNumber_32 rfl (lv_at hl 0 rfl) ?_
              refine va_get (D := D) (ci := 6) (v := .int fta_6_5) (C := RX6) (T := TX6) (N := 9) hx hb hts hi6 hown hK hP 0 rfl rfl 6 (by decide) lf56 (fun _ h9 => h9) rfl dX6_readNumber_33 ?_
              refine lv_bipush (v := 10) hx hb dX6_readNumber_36 (by decide) ?_
              refine lv_imul hx hb dX6_readNumber_38 ?_
              refine lv_aload_n hx hb dX6_readNumber_39 rfl (lv_at hl 0 rfl) ?_
              refine va_get (D := D) (ci := 6) (v := .ref ta_signs) (C := RX6) (T := TX6) (N := 9) hx hb hts hi6 hown hK hP 0 rfl rfl 0 (by decide) lf11 (fun _ h9 => h9) rfl dX6_readNumber_40 ?_
              refine lv_aload_n hx hb dX6_readNumber_43 rfl (lv_at hl 0 rfl) ?_
              refine va_get (D := D) (ci := 6) (v := .int (nI fta_3_5)) (C := RX6) (T := TX6) (N := 9) hx hb hts hi6 hown hK hP 0 rfl rfl 3 (by decide) lf44 (fun _ h9 => h9) rfl dX6_readNumber_44 ?_
              refine va_bald hx hb hK hP 1 2 rfl rfl (vp_in_nI (n := fta_3_5) (by omega) (by omega)) dX6_readNumber_47 ?_
              refine lv_iadd hx hb dX6_readNumber_48 ?_
              refine lv_bipush (v := 48) hx hb dX6_readNumber_49 (by decide) ?_
              refine lv_isub hx hb dX6_readNumber_51 ?_
              refine va_put (D := D) (ci := 6) (v := .int (((fta_6_5 * 10) + (ta_signsF (Int32.toNatClampNeg (nI fta_3_5)))) - 48)) (ty := .int) (C := RX6) (T := TX6) (N := 9) hx hb hts hi6 tyX6 tyX6_ok nmX6 hown hK hP hD hS 0 rfl rfl 6 (by decide) lf56 (fun _ h9 => h9) rfl (by decide +kernel) rfl rfl (Nat.le_of_ble_eq_true rfl) dX6_readNumber_52 (fun H locs hP hD hS => ?_)
              exact by
               have hP : va_P D vwCl [(ta, kO 6 [.ref ta_signs, .ref ta_words, .int (nI ta_length), .int (nI fta_3_5), .int ta_place, .int ta_kind, .int (((fta_6_5 * 10) + (ta_signsF (Int32.toNatClampNeg (nI fta_3_5)))) - 48), .long ta_letters, .int ta_fault]), (ta_signs, kB k 1000 ta_signsF)] H := hP
               have hD : va_D A [(ta, kO 6 [.ref ta_signs, .ref ta_words, .int (nI ta_length), .int (nI fta_3_5), .int ta_place, .int ta_kind, .int (((fta_6_5 * 10) + (ta_signsF (Int32.toNatClampNeg (nI fta_3_5)))) - 48), .long ta_letters, .int ta_fault]), (ta_signs, kB k 1000 ta_signsF)] := hD
               refine lv_aload_n hx hb dX6_readNumber_55 rfl (lv_at hl 0 rfl) ?_
               refine lv_dup hx hb dX6_readNumber_56 rfl ?_
               refine va_get (D := D) (ci := 6) (v := .int (nI fta_3_5)) (C := RX6) (T := TX6) (N := 9) hx hb hts hi6 hown hK hP 0 rfl rfl 3 (by decide) lf44 (fun _ h9 => h9) rfl dX6_readNumber_57 ?_
               refine lv_iconst (v := 1) hx hb dX6_readNumber_60 (by decide) ?_
               refine lv_iadd hx hb dX6_readNumber_61 ?_
               refine lv_topi (fun x8 ex8 => ?_)
               exact by
                obtain rfl : x8 = (nI (fta_3_5 + 1)) := ex8.trans (nI_add fta_3_5 1)
                refine va_put (D := D) (ci := 6) (v := .int (nI (fta_3_5 + 1))) (ty := .int) (C := RX6) (T := TX6) (N := 9) hx hb hts hi6 tyX6 tyX6_ok nmX6 hown hK hP hD hS 0 rfl rfl 3 (by decide) lf44 (fun _ h9 => h9) rfl (by decide +kernel) rfl rfl (Nat.le_of_ble_eq_true rfl) dX6_readNumber_62 (fun H locs hP hD hS => ?_)
                exact by
                 have hP : va_P D vwCl [(ta, kO 6 [.ref ta_signs, .ref ta_words, .int (nI ta_length), .int (nI (fta_3_5 + 1)), .int ta_place, .int ta_kind, .int (((fta_6_5 * 10) + (ta_signsF (Int32.toNatClampNeg (nI fta_3_5)))) - 48), .long ta_letters, .int ta_fault]), (ta_signs, kB k 1000 ta_signsF)] H := hP
                 have hD : va_D A [(ta, kO 6 [.ref ta_signs, .ref ta_words, .int (nI ta_length), .int (nI (fta_3_5 + 1)), .int ta_place, .int ta_kind, .int (((fta_6_5 * 10) + (ta_signsF (Int32.toNatClampNeg (nI fta_3_5)))) - 48), .long ta_letters, .int ta_fault]), (ta_signs, kB k 1000 ta_signsF)] := hD
                 refine lv_goto (tgt := 5) hx hb dX6_readNumber_65 (by decide) ?_
                 exact ih5 (fta_3_5 + 1) (((fta_6_5 * 10) + (ta_signsF (Int32.toNatClampNeg (nI fta_3_5)))) - 48) _ _ _ (by omega) (by first | omega | assumption) (by rw [← hrc5_1]; exact hZ) (hP.sub [0, 1] rfl) (hD.sub [0, 1] (by decide +kernel) rfl) hS (lv_sub hl [0] rfl)
   exact hloop5 ((1000 + 1 - ta_next) + 1) ta_next (0 : Int32) _ _ _ (Nat.lt_succ_self _) (by first | omega | assumption) hZ (hP.sub [0, 1] rfl) (hD.sub [0, 1] (by decide +kernel) rfl) hS (lv_sub hl [0] rfl)
theorem dX6_advance_0 : decode cX6_advance 0 = .ok (.aload_n 0, 1) := dk_aload_n_0 (by decide +kernel)
theorem dX6_advance_1 : decode cX6_advance 1 = .ok (.getfield 44, 3) := dk_getfield (by decide +kernel)
theorem dX6_advance_4 : decode cX6_advance 4 = .ok (.aload_n 0, 1) := dk_aload_n_0 (by decide +kernel)
theorem dX6_advance_5 : decode cX6_advance 5 = .ok (.getfield 41, 3) := dk_getfield (by decide +kernel)
theorem dX6_advance_8 : decode cX6_advance 8 = .ok (.if_icmp .ge 44, 3) := dk_if_icmp_ge (by decide +kernel)
theorem dX6_advance_11 : decode cX6_advance 11 = .ok (.aload_n 0, 1) := dk_aload_n_0 (by decide +kernel)
theorem dX6_advance_12 : decode cX6_advance 12 = .ok (.getfield 11, 3) := dk_getfield (by decide +kernel)
theorem dX6_advance_15 : decode cX6_advance 15 = .ok (.aload_n 0, 1) := dk_aload_n_0 (by decide +kernel)
theorem dX6_advance_16 : decode cX6_advance 16 = .ok (.getfield 44, 3) := dk_getfield (by decide +kernel)
theorem dX6_advance_19 : decode cX6_advance 19 = .ok (.baload, 1) := dk_baload (by decide +kernel)
theorem dX6_advance_20 : decode cX6_advance 20 = .ok (.bipush 10, 2) := dk_bipush (by decide +kernel)
theorem dX6_advance_22 : decode cX6_advance 22 = .ok (.if_icmp .eq 17, 3) := dk_if_icmp_eq (by decide +kernel)
theorem dX6_advance_25 : decode cX6_advance 25 = .ok (.aload_n 0, 1) := dk_aload_n_0 (by decide +kernel)
theorem dX6_advance_26 : decode cX6_advance 26 = .ok (.getfield 11, 3) := dk_getfield (by decide +kernel)
theorem dX6_advance_29 : decode cX6_advance 29 = .ok (.aload_n 0, 1) := dk_aload_n_0 (by decide +kernel)
theorem dX6_advance_30 : decode cX6_advance 30 = .ok (.getfield 44, 3) := dk_getfield (by decide +kernel)
theorem dX6_advance_33 : decode cX6_advance 33 = .ok (.baload, 1) := dk_baload (by decide +kernel)
theorem dX6_advance_34 : decode cX6_advance 34 = .ok (.bipush 32, 2) := dk_bipush (by decide +kernel)
theorem dX6_advance_36 : decode cX6_advance 36 = .ok (.if_icmp .ne 16, 3) := dk_if_icmp_ne (by decide +kernel)
theorem dX6_advance_39 : decode cX6_advance 39 = .ok (.aload_n 0, 1) := dk_aload_n_0 (by decide +kernel)
theorem dX6_advance_40 : decode cX6_advance 40 = .ok (.dup, 1) := dk_dup (by decide +kernel)
theorem dX6_advance_41 : decode cX6_advance 41 = .ok (.getfield 44, 3) := dk_getfield (by decide +kernel)
theorem dX6_advance_44 : decode cX6_advance 44 = .ok (.iconst 1, 1) := dk_iconst_1 (by decide +kernel)
theorem dX6_advance_45 : decode cX6_advance 45 = .ok (.iadd, 1) := dk_iadd (by decide +kernel)
theorem dX6_advance_46 : decode cX6_advance 46 = .ok (.putfield 44, 3) := dk_putfield (by decide +kernel)
theorem dX6_advance_49 : decode cX6_advance 49 = .ok (.goto (-49), 3) := dk_goto (by decide +kernel)
theorem dX6_advance_52 : decode cX6_advance 52 = .ok (.aload_n 0, 1) := dk_aload_n_0 (by decide +kernel)
theorem dX6_advance_53 : decode cX6_advance 53 = .ok (.aload_n 0, 1) := dk_aload_n_0 (by decide +kernel)
theorem dX6_advance_54 : decode cX6_advance 54 = .ok (.getfield 44, 3) := dk_getfield (by decide +kernel)
theorem dX6_advance_57 : decode cX6_advance 57 = .ok (.putfield 53, 3) := dk_putfield (by decide +kernel)
theorem dX6_advance_60 : decode cX6_advance 60 = .ok (.aload_n 0, 1) := dk_aload_n_0 (by decide +kernel)
theorem dX6_advance_61 : decode cX6_advance 61 = .ok (.iconst (-1), 1) := dk_iconst_m1 (by decide +kernel)
theorem dX6_advance_62 : decode cX6_advance 62 = .ok (.putfield 56, 3) := dk_putfield (by decide +kernel)
theorem dX6_advance_65 : decode cX6_advance 65 = .ok (.aload_n 0, 1) := dk_aload_n_0 (by decide +kernel)
theorem dX6_advance_66 : decode cX6_advance 66 = .ok (.getfield 44, 3) := dk_getfield (by decide +kernel)
theorem dX6_advance_69 : decode cX6_advance 69 = .ok (.aload_n 0, 1) := dk_aload_n_0 (by decide +kernel)
theorem dX6_advance_70 : decode cX6_advance 70 = .ok (.getfield 41, 3) := dk_getfield (by decide +kernel)
theorem dX6_advance_73 : decode cX6_advance 73 = .ok (.if_icmp .lt 11, 3) := dk_if_icmp_lt (by decide +kernel)
theorem dX6_advance_76 : decode cX6_advance 76 = .ok (.aload_n 0, 1) := dk_aload_n_0 (by decide +kernel)
theorem dX6_advance_77 : decode cX6_advance 77 = .ok (.iconst 0, 1) := dk_iconst_0 (by decide +kernel)
theorem dX6_advance_78 : decode cX6_advance 78 = .ok (.putfield 59, 3) := dk_putfield (by decide +kernel)
theorem dX6_advance_81 : decode cX6_advance 81 = .ok (.goto 92, 3) := dk_goto (by decide +kernel)
theorem dX6_advance_84 : decode cX6_advance 84 = .ok (.aload_n 0, 1) := dk_aload_n_0 (by decide +kernel)
theorem dX6_advance_85 : decode cX6_advance 85 = .ok (.getfield 11, 3) := dk_getfield (by decide +kernel)
theorem dX6_advance_88 : decode cX6_advance 88 = .ok (.aload_n 0, 1) := dk_aload_n_0 (by decide +kernel)
theorem dX6_advance_89 : decode cX6_advance 89 = .ok (.getfield 44, 3) := dk_getfield (by decide +kernel)
theorem dX6_advance_92 : decode cX6_advance 92 = .ok (.baload, 1) := dk_baload (by decide +kernel)
theorem dX6_advance_93 : decode cX6_advance 93 = .ok (.invokestatic 31, 3) := dk_invokestatic (by decide +kernel)
theorem dX6_advance_96 : decode cX6_advance 96 = .ok (.ifCond .eq 10, 3) := dk_ifCond_eq (by decide +kernel)
theorem dX6_advance_99 : decode cX6_advance 99 = .ok (.aload_n 0, 1) := dk_aload_n_0 (by decide +kernel)
theorem dX6_advance_100 : decode cX6_advance 100 = .ok (.invokevirtual 62, 3) := dk_invokevirtual (by decide +kernel)
theorem dX6_advance_103 : decode cX6_advance 103 = .ok (.goto 70, 3) := dk_goto (by decide +kernel)
theorem dX6_advance_106 : decode cX6_advance 106 = .ok (.aload_n 0, 1) := dk_aload_n_0 (by decide +kernel)
theorem dX6_advance_107 : decode cX6_advance 107 = .ok (.getfield 11, 3) := dk_getfield (by decide +kernel)
theorem dX6_advance_110 : decode cX6_advance 110 = .ok (.aload_n 0, 1) := dk_aload_n_0 (by decide +kernel)
theorem dX6_advance_111 : decode cX6_advance 111 = .ok (.getfield 44, 3) := dk_getfield (by decide +kernel)
theorem dX6_advance_114 : decode cX6_advance 114 = .ok (.baload, 1) := dk_baload (by decide +kernel)
theorem dX6_advance_115 : decode cX6_advance 115 = .ok (.invokestatic 65, 3) := dk_invokestatic (by decide +kernel)
theorem dX6_advance_118 : decode cX6_advance 118 = .ok (.ifCond .eq 10, 3) := dk_ifCond_eq (by decide +kernel)
theorem dX6_advance_121 : decode cX6_advance 121 = .ok (.aload_n 0, 1) := dk_aload_n_0 (by decide +kernel)
theorem dX6_advance_122 : decode cX6_advance 122 = .ok (.invokevirtual 68, 3) := dk_invokevirtual (by decide +kernel)
theorem dX6_advance_125 : decode cX6_advance 125 = .ok (.goto 48, 3) := dk_goto (by decide +kernel)
theorem dX6_advance_128 : decode cX6_advance 128 = .ok (.aload_n 0, 1) := dk_aload_n_0 (by decide +kernel)
theorem dX6_advance_129 : decode cX6_advance 129 = .ok (.aload_n 0, 1) := dk_aload_n_0 (by decide +kernel)
theorem dX6_advance_130 : decode cX6_advance 130 = .ok (.getfield 11, 3) := dk_getfield (by decide +kernel)
theorem dX6_advance_133 : decode cX6_advance 133 = .ok (.aload_n 0, 1) := dk_aload_n_0 (by decide +kernel)
theorem dX6_advance_134 : decode cX6_advance 134 = .ok (.getfield 44, 3) := dk_getfield (by decide +kernel)
theorem dX6_advance_137 : decode cX6_advance 137 = .ok (.baload, 1) := dk_baload (by decide +kernel)
theorem dX6_advance_138 : decode cX6_advance 138 = .ok (.putfield 56, 3) := dk_putfield (by decide +kernel)
theorem dX6_advance_141 : decode cX6_advance 141 = .ok (.aload_n 0, 1) := dk_aload_n_0 (by decide +kernel)
theorem dX6_advance_142 : decode cX6_advance 142 = .ok (.ldc 71, 2) := dk_ldc (by decide +kernel)
theorem dX6_advance_144 : decode cX6_advance 144 = .ok (.aload_n 0, 1) := dk_aload_n_0 (by decide +kernel)
theorem dX6_advance_145 : decode cX6_advance 145 = .ok (.getfield 56, 3) := dk_getfield (by decide +kernel)
theorem dX6_advance_148 : decode cX6_advance 148 = .ok (.i2c, 1) := dk_i2c (by decide +kernel)
theorem dX6_advance_149 : decode cX6_advance 149 = .ok (.invokevirtual 73, 3) := dk_invokevirtual (by decide +kernel)
theorem dX6_advance_152 : decode cX6_advance 152 = .ok (.ifCond .lt 7, 3) := dk_ifCond_lt (by decide +kernel)
theorem dX6_advance_155 : decode cX6_advance 155 = .ok (.iconst 3, 1) := dk_iconst_3 (by decide +kernel)
theorem dX6_advance_156 : decode cX6_advance 156 = .ok (.goto 4, 3) := dk_goto (by decide +kernel)
theorem dX6_advance_159 : decode cX6_advance 159 = .ok (.iconst 4, 1) := dk_iconst_4 (by decide +kernel)
theorem dX6_advance_160 : decode cX6_advance 160 = .ok (.putfield 59, 3) := dk_putfield (by decide +kernel)
theorem dX6_advance_163 : decode cX6_advance 163 = .ok (.aload_n 0, 1) := dk_aload_n_0 (by decide +kernel)
theorem dX6_advance_164 : decode cX6_advance 164 = .ok (.dup, 1) := dk_dup (by decide +kernel)
theorem dX6_advance_165 : decode cX6_advance 165 = .ok (.getfield 44, 3) := dk_getfield (by decide +kernel)
theorem dX6_advance_168 : decode cX6_advance 168 = .ok (.iconst 1, 1) := dk_iconst_1 (by decide +kernel)
theorem dX6_advance_169 : decode cX6_advance 169 = .ok (.iadd, 1) := dk_iadd (by decide +kernel)
theorem dX6_advance_170 : decode cX6_advance 170 = .ok (.putfield 44, 3) := dk_putfield (by decide +kernel)
theorem dX6_advance_173 : decode cX6_advance 173 = .ok (.return_, 1) := dk_return_ (by decide +kernel)
set_option maxRecDepth 20000 in
theorem ggX6_advance_X6_isLetter : GoodIn wsX6_advance wsX6_isLetter := goodIn_sub (sub_cons (List.mem_cons_of_mem _ (List.mem_append_left _ (List.mem_append_left _ (List.mem_of_getElem? (i := 9) rfl)))) sub_nil) gw_X6_isLetter
set_option maxRecDepth 20000 in
theorem gX6_advance_X6_isLetter : GoodIn wsX6_advance (va_wsS RX6 31 yX6_isLetter wsX6_isLetter) := goodIn_app (goodIn_of _ (by decide +kernel)) ggX6_advance_X6_isLetter
set_option maxRecDepth 20000 in
theorem ggX6_advance_X6_isDigit : GoodIn wsX6_advance wsX6_isDigit := goodIn_sub (sub_cons (List.mem_cons_of_mem _ (List.mem_append_left _ (List.mem_append_left _ (List.mem_of_getElem? (i := 22) rfl)))) sub_nil) gw_X6_isDigit
set_option maxRecDepth 20000 in
theorem gX6_advance_X6_isDigit : GoodIn wsX6_advance (va_wsS RX6 65 yX6_isDigit wsX6_isDigit) := goodIn_app (goodIn_of _ (by decide +kernel)) ggX6_advance_X6_isDigit
set_option maxRecDepth 20000 in
theorem ggX6_advance_J0_indexOf_0f7a4 : GoodIn wsX6_advance wsJ0_indexOf_0f7a4 := goodIn_sub (sub_cons (List.mem_cons_of_mem _ (List.mem_append_left _ (List.mem_append_right _ (List.mem_append_left _ (List.mem_of_getElem? (i := 7) rfl))))) (sub_app (sub_cons (List.mem_cons_of_mem _ (List.mem_append_left _ (List.mem_append_right _ (List.mem_append_left _ (List.mem_of_getElem? (i := 8) rfl))))) (sub_cons (List.mem_cons_of_mem _ (List.mem_append_left _ (List.mem_append_right _ (List.mem_append_left _ (List.mem_of_getElem? (i := 9) rfl))))) (sub_cons (List.mem_cons_of_mem _ (List.mem_append_left _ (List.mem_append_right _ (List.mem_append_left _ (List.mem_of_getElem? (i := 10) rfl))))) (sub_cons (List.mem_cons_of_mem _ (List.mem_append_left _ (List.mem_append_right _ (List.mem_append_left _ (List.mem_of_getElem? (i := 6) rfl))))) (sub_cons (List.mem_cons_of_mem _ (List.mem_append_left _ (List.mem_append_right _ (List.mem_append_left _ (List.mem_of_getElem? (i := 11) rfl))))) (sub_cons (List.mem_cons_of_mem _ (List.mem_append_left _ (List.mem_append_right _ (List.mem_append_left _ (List.mem_of_getElem? (i := 12) rfl))))) (sub_cons (List.mem_cons_of_mem _ (List.mem_append_left _ (List.mem_append_right _ (List.mem_append_left _ (List.mem_of_getElem? (i := 13) rfl))))) (sub_cons (List.mem_cons_of_mem _ (List.mem_append_left _ (List.mem_append_right _ (List.mem_append_left _ (List.mem_of_getElem? (i := 14) rfl))))) (sub_cons (List.mem_cons_of_mem _ (List.mem_append_left _ (List.mem_append_right _ (List.mem_append_left _ (List.mem_of_getElem? (i := 15) rfl))))) (sub_cons (List.mem_cons_of_mem _ (List.mem_append_left _ (List.mem_append_right _ (List.mem_append_left _ (List.mem_of_getElem? (i := 16) rfl))))) (sub_cons (List.mem_cons_of_mem _ (List.mem_append_left _ (List.mem_append_right _ (List.mem_append_left _ (List.mem_of_getElem? (i := 17) rfl))))) (sub_cons (List.mem_cons_of_mem _ (List.mem_append_left _ (List.mem_append_right _ (List.mem_append_left _ (List.mem_of_getElem? (i := 18) rfl))))) (sub_cons (List.mem_cons_of_mem _ (List.mem_append_left _ (List.mem_append_right _ (List.mem_append_left _ (List.mem_of_getElem? (i := 19) rfl))))) (sub_cons (List.mem_cons_of_mem _ (List.mem_append_left _ (List.mem_append_right _ (List.mem_append_left _ (List.mem_of_getElem? (i := 20) rfl))))) (sub_cons (List.mem_cons_of_mem _ (List.mem_append_left _ (List.mem_append_right _ (List.mem_append_left _ (List.mem_of_getElem? (i := 21) rfl))))) (sub_cons (List.mem_cons_of_mem _ (List.mem_append_left _ (List.mem_append_right _ (List.mem_append_left _ (List.mem_of_getElem? (i := 22) rfl))))) (sub_cons (List.mem_cons_of_mem _ (List.mem_append_left _ (List.mem_append_right _ (List.mem_append_left _ (List.mem_of_getElem? (i := 23) rfl))))) (sub_cons (List.mem_cons_of_mem _ (List.mem_append_left _ (List.mem_append_right _ (List.mem_append_right _ (List.mem_append_left _ (List.mem_of_getElem? (i := 0) rfl)))))) (sub_cons (List.mem_cons_of_mem _ (List.mem_append_left _ (List.mem_append_right _ (List.mem_append_right _ (List.mem_append_left _ (List.mem_of_getElem? (i := 1) rfl)))))) (sub_cons (List.mem_cons_of_mem _ (List.mem_append_left _ (List.mem_append_right _ (List.mem_append_right _ (List.mem_append_left _ (List.mem_of_getElem? (i := 2) rfl)))))) (sub_cons (List.mem_cons_of_mem _ (List.mem_append_left _ (List.mem_append_right _ (List.mem_append_right _ (List.mem_append_left _ (List.mem_of_getElem? (i := 3) rfl)))))) (sub_cons (List.mem_cons_of_mem _ (List.mem_append_left _ (List.mem_append_right _ (List.mem_append_right _ (List.mem_append_left _ (List.mem_of_getElem? (i := 4) rfl)))))) (sub_cons (List.mem_cons_of_mem _ (List.mem_append_left _ (List.mem_append_right _ (List.mem_append_right _ (List.mem_append_left _ (List.mem_of_getElem? (i := 5) rfl)))))) (sub_cons (List.mem_cons_of_mem _ (List.mem_append_left _ (List.mem_append_right _ (List.mem_append_right _ (List.mem_append_left _ (List.mem_of_getElem? (i := 6) rfl)))))) sub_nil)))))))))))))))))))))))) (sub_app (sub_cons (List.mem_cons_of_mem _ (List.mem_append_left _ (List.mem_append_right _ (List.mem_append_right _ (List.mem_append_left _ (List.mem_of_getElem? (i := 7) rfl)))))) (sub_cons (List.mem_cons_of_mem _ (List.mem_append_left _ (List.mem_append_right _ (List.mem_append_right _ (List.mem_append_left _ (List.mem_of_getElem? (i := 8) rfl)))))) (sub_cons (List.mem_cons_of_mem _ (List.mem_append_left _ (List.mem_append_right _ (List.mem_append_right _ (List.mem_append_left _ (List.mem_of_getElem? (i := 9) rfl)))))) (sub_cons (List.mem_cons_of_mem _ (List.mem_append_left _ (List.mem_append_right _ (List.mem_append_right _ (List.mem_append_left _ (List.mem_of_getElem? (i := 10) rfl)))))) (sub_cons (List.mem_cons_of_mem _ (List.mem_append_left _ (List.mem_append_right _ (List.mem_append_right _ (List.mem_append_left _ (List.mem_of_getElem? (i := 11) rfl)))))) (sub_cons (List.mem_cons_of_mem _ (List.mem_append_left _ (List.mem_append_right _ (List.mem_append_right _ (List.mem_append_left _ (List.mem_of_getElem? (i := 12) rfl)))))) (sub_cons (List.mem_cons_of_mem _ (List.mem_append_left _ (List.mem_append_right _ (List.mem_append_right _ (List.mem_append_left _ (List.mem_of_getElem? (i := 13) rfl)))))) (sub_cons (List.mem_cons_of_mem _ (List.mem_append_left _ (List.mem_append_right _ (List.mem_append_right _ (List.mem_append_left _ (List.mem_of_getElem? (i := 14) rfl)))))) (sub_cons (List.mem_cons_of_mem _ (List.mem_append_left _ (List.mem_append_right _ (List.mem_append_right _ (List.mem_append_left _ (List.mem_of_getElem? (i := 15) rfl)))))) (sub_cons (List.mem_cons_of_mem _ (List.mem_append_left _ (List.mem_append_right _ (List.mem_append_right _ (List.mem_append_left _ (List.mem_of_getElem? (i := 16) rfl)))))) (sub_cons (List.mem_cons_of_mem _ (List.mem_append_left _ (List.mem_append_right _ (List.mem_append_right _ (List.mem_append_left _ (List.mem_of_getElem? (i := 17) rfl)))))) (sub_cons (List.mem_cons_of_mem _ (List.mem_append_left _ (List.mem_append_right _ (List.mem_append_right _ (List.mem_append_left _ (List.mem_of_getElem? (i := 18) rfl)))))) (sub_cons (List.mem_cons_of_mem _ (List.mem_append_left _ (List.mem_append_right _ (List.mem_append_right _ (List.mem_append_left _ (List.mem_of_getElem? (i := 19) rfl)))))) (sub_cons (List.mem_cons_of_mem _ (List.mem_append_left _ (List.mem_append_right _ (List.mem_append_right _ (List.mem_append_left _ (List.mem_of_getElem? (i := 20) rfl)))))) (sub_cons (List.mem_cons_of_mem _ (List.mem_append_left _ (List.mem_append_right _ (List.mem_append_right _ (List.mem_append_left _ (List.mem_of_getElem? (i := 21) rfl)))))) (sub_cons (List.mem_cons_of_mem _ (List.mem_append_left _ (List.mem_append_right _ (List.mem_append_right _ (List.mem_append_left _ (List.mem_of_getElem? (i := 22) rfl)))))) (sub_cons (List.mem_cons_of_mem _ (List.mem_append_left _ (List.mem_append_right _ (List.mem_append_right _ (List.mem_append_left _ (List.mem_of_getElem? (i := 23) rfl)))))) (sub_cons (List.mem_cons_of_mem _ (List.mem_append_left _ (List.mem_append_right _ (List.mem_append_right _ (List.mem_append_right _ (List.mem_append_left _ (List.mem_of_getElem? (i := 0) rfl))))))) (sub_cons (List.mem_cons_of_mem _ (List.mem_append_left _ (List.mem_append_right _ (List.mem_append_right _ (List.mem_append_right _ (List.mem_append_left _ (List.mem_of_getElem? (i := 1) rfl))))))) (sub_cons (List.mem_cons_of_mem _ (List.mem_append_left _ (List.mem_append_right _ (List.mem_append_right _ (List.mem_append_right _ (List.mem_append_left _ (List.mem_of_getElem? (i := 2) rfl))))))) (sub_cons (List.mem_cons_of_mem _ (List.mem_append_left _ (List.mem_append_right _ (List.mem_append_right _ (List.mem_append_right _ (List.mem_append_left _ (List.mem_of_getElem? (i := 3) rfl))))))) (sub_cons (List.mem_cons_of_mem _ (List.mem_append_left _ (List.mem_append_right _ (List.mem_append_right _ (List.mem_append_right _ (List.mem_append_left _ (List.mem_of_getElem? (i := 4) rfl))))))) (sub_cons (List.mem_cons_of_mem _ (List.mem_append_left _ (List.mem_append_right _ (List.mem_append_right _ (List.mem_append_right _ (List.mem_append_left _ (List.mem_of_getElem? (i := 5) rfl))))))) (sub_cons (List.mem_cons_of_mem _ (List.mem_append_left _ (List.mem_append_right _ (List.mem_append_right _ (List.mem_append_right _ (List.mem_append_left _ (List.mem_of_getElem? (i := 6) rfl))))))) sub_nil)))))))))))))))))))))))) (sub_app (sub_cons (List.mem_cons_of_mem _ (List.mem_append_left _ (List.mem_append_right _ (List.mem_append_right _ (List.mem_append_right _ (List.mem_append_left _ (List.mem_of_getElem? (i := 7) rfl))))))) (sub_cons (List.mem_cons_of_mem _ (List.mem_append_left _ (List.mem_append_right _ (List.mem_append_right _ (List.mem_append_right _ (List.mem_append_left _ (List.mem_of_getElem? (i := 8) rfl))))))) (sub_cons (List.mem_cons_of_mem _ (List.mem_append_left _ (List.mem_append_right _ (List.mem_append_right _ (List.mem_append_right _ (List.mem_append_left _ (List.mem_of_getElem? (i := 9) rfl))))))) (sub_cons (List.mem_cons_of_mem _ (List.mem_append_left _ (List.mem_append_right _ (List.mem_append_right _ (List.mem_append_right _ (List.mem_append_left _ (List.mem_of_getElem? (i := 10) rfl))))))) (sub_cons (List.mem_cons_of_mem _ (List.mem_append_left _ (List.mem_append_right _ (List.mem_append_right _ (List.mem_append_right _ (List.mem_append_left _ (List.mem_of_getElem? (i := 11) rfl))))))) (sub_cons (List.mem_cons_of_mem _ (List.mem_append_left _ (List.mem_append_right _ (List.mem_append_right _ (List.mem_append_right _ (List.mem_append_left _ (List.mem_of_getElem? (i := 12) rfl))))))) (sub_cons (List.mem_cons_of_mem _ (List.mem_append_left _ (List.mem_append_right _ (List.mem_append_right _ (List.mem_append_right _ (List.mem_append_left _ (List.mem_of_getElem? (i := 13) rfl))))))) (sub_cons (List.mem_cons_of_mem _ (List.mem_append_left _ (List.mem_append_right _ (List.mem_append_right _ (List.mem_append_right _ (List.mem_append_left _ (List.mem_of_getElem? (i := 14) rfl))))))) (sub_cons (List.mem_cons_of_mem _ (List.mem_append_left _ (List.mem_append_right _ (List.mem_append_right _ (List.mem_append_right _ (List.mem_append_left _ (List.mem_of_getElem? (i := 15) rfl))))))) (sub_cons (List.mem_cons_of_mem _ (List.mem_append_left _ (List.mem_append_right _ (List.mem_append_right _ (List.mem_append_right _ (List.mem_append_left _ (List.mem_of_getElem? (i := 16) rfl))))))) (sub_cons (List.mem_cons_of_mem _ (List.mem_append_left _ (List.mem_append_right _ (List.mem_append_right _ (List.mem_append_right _ (List.mem_append_left _ (List.mem_of_getElem? (i := 17) rfl))))))) (sub_cons (List.mem_cons_of_mem _ (List.mem_append_left _ (List.mem_append_right _ (List.mem_append_right _ (List.mem_append_right _ (List.mem_append_left _ (List.mem_of_getElem? (i := 18) rfl))))))) (sub_cons (List.mem_cons_of_mem _ (List.mem_append_left _ (List.mem_append_right _ (List.mem_append_right _ (List.mem_append_right _ (List.mem_append_left _ (List.mem_of_getElem? (i := 19) rfl))))))) (sub_cons (List.mem_cons_of_mem _ (List.mem_append_left _ (List.mem_append_right _ (List.mem_append_right _ (List.mem_append_right _ (List.mem_append_left _ (List.mem_of_getElem? (i := 20) rfl))))))) (sub_cons (List.mem_cons_of_mem _ (List.mem_append_left _ (List.mem_append_right _ (List.mem_append_right _ (List.mem_append_right _ (List.mem_append_left _ (List.mem_of_getElem? (i := 21) rfl))))))) (sub_cons (List.mem_cons_of_mem _ (List.mem_append_left _ (List.mem_append_right _ (List.mem_append_right _ (List.mem_append_right _ (List.mem_append_left _ (List.mem_of_getElem? (i := 22) rfl))))))) (sub_cons (List.mem_cons_of_mem _ (List.mem_append_left _ (List.mem_append_right _ (List.mem_append_right _ (List.mem_append_right _ (List.mem_append_left _ (List.mem_of_getElem? (i := 23) rfl))))))) (sub_cons (List.mem_cons_of_mem _ (List.mem_append_left _ (List.mem_append_right _ (List.mem_append_right _ (List.mem_append_right _ (List.mem_append_right _ (List.mem_of_getElem? (i := 0) rfl))))))) (sub_cons (List.mem_cons_of_mem _ (List.mem_append_left _ (List.mem_append_right _ (List.mem_append_right _ (List.mem_append_right _ (List.mem_append_right _ (List.mem_of_getElem? (i := 1) rfl))))))) (sub_cons (List.mem_cons_of_mem _ (List.mem_append_left _ (List.mem_append_right _ (List.mem_append_right _ (List.mem_append_right _ (List.mem_append_right _ (List.mem_of_getElem? (i := 2) rfl))))))) (sub_cons (List.mem_cons_of_mem _ (List.mem_append_left _ (List.mem_append_right _ (List.mem_append_right _ (List.mem_append_right _ (List.mem_append_right _ (List.mem_of_getElem? (i := 3) rfl))))))) (sub_cons (List.mem_cons_of_mem _ (List.mem_append_left _ (List.mem_append_right _ (List.mem_append_right _ (List.mem_append_right _ (List.mem_append_right _ (List.mem_of_getElem? (i := 4) rfl))))))) (sub_cons (List.mem_cons_of_mem _ (List.mem_append_left _ (List.mem_append_right _ (List.mem_append_right _ (List.mem_append_right _ (List.mem_append_right _ (List.mem_of_getElem? (i := 5) rfl))))))) (sub_cons (List.mem_cons_of_mem _ (List.mem_append_left _ (List.mem_append_right _ (List.mem_append_right _ (List.mem_append_right _ (List.mem_append_right _ (List.mem_of_getElem? (i := 6) rfl))))))) sub_nil)))))))))))))))))))))))) (sub_cons (List.mem_cons_of_mem _ (List.mem_append_left _ (List.mem_append_right _ (List.mem_append_right _ (List.mem_append_right _ (List.mem_append_right _ (List.mem_of_getElem? (i := 7) rfl))))))) (sub_cons (List.mem_cons_of_mem _ (List.mem_append_left _ (List.mem_append_right _ (List.mem_append_right _ (List.mem_append_right _ (List.mem_append_right _ (List.mem_of_getElem? (i := 8) rfl))))))) (sub_cons (List.mem_cons_of_mem _ (List.mem_append_left _ (List.mem_append_right _ (List.mem_append_right _ (List.mem_append_right _ (List.mem_append_right _ (List.mem_of_getElem? (i := 9) rfl))))))) (sub_cons (List.mem_cons_of_mem _ (List.mem_append_left _ (List.mem_append_right _ (List.mem_append_right _ (List.mem_append_right _ (List.mem_append_right _ (List.mem_of_getElem? (i := 10) rfl))))))) (sub_cons (List.mem_cons_of_mem _ (List.mem_append_left _ (List.mem_append_right _ (List.mem_append_right _ (List.mem_append_right _ (List.mem_append_right _ (List.mem_of_getElem? (i := 11) rfl))))))) (sub_cons (List.mem_cons_of_mem _ (List.mem_append_left _ (List.mem_append_right _ (List.mem_append_right _ (List.mem_append_right _ (List.mem_append_right _ (List.mem_of_getElem? (i := 12) rfl))))))) (sub_cons (List.mem_cons_of_mem _ (List.mem_append_left _ (List.mem_append_right _ (List.mem_append_right _ (List.mem_append_right _ (List.mem_append_right _ (List.mem_of_getElem? (i := 13) rfl))))))) (sub_cons (List.mem_cons_of_mem _ (List.mem_append_left _ (List.mem_append_right _ (List.mem_append_right _ (List.mem_append_right _ (List.mem_append_right _ (List.mem_of_getElem? (i := 14) rfl))))))) (sub_cons (List.mem_cons_of_mem _ (List.mem_append_left _ (List.mem_append_right _ (List.mem_append_right _ (List.mem_append_right _ (List.mem_append_right _ (List.mem_of_getElem? (i := 15) rfl))))))) (sub_cons (List.mem_cons_of_mem _ (List.mem_append_left _ (List.mem_append_right _ (List.mem_append_right _ (List.mem_append_right _ (List.mem_append_right _ (List.mem_of_getElem? (i := 16) rfl))))))) (sub_cons (List.mem_cons_of_mem _ (List.mem_append_left _ (List.mem_append_right _ (List.mem_append_right _ (List.mem_append_right _ (List.mem_append_right _ (List.mem_of_getElem? (i := 17) rfl))))))) (sub_cons (List.mem_cons_of_mem _ (List.mem_append_left _ (List.mem_append_right _ (List.mem_append_right _ (List.mem_append_right _ (List.mem_append_right _ (List.mem_of_getElem? (i := 18) rfl))))))) (sub_cons (List.mem_cons_of_mem _ (List.mem_append_left _ (List.mem_append_right _ (List.mem_append_right _ (List.mem_append_right _ (List.mem_append_right _ (List.mem_of_getElem? (i := 19) rfl))))))) sub_nil))))))))))))))))) gw_J0_indexOf_0f7a4
set_option maxRecDepth 20000 in
theorem gX6_advance_J0_indexOf_0f7a4 : GoodIn wsX6_advance (wsV RX6 73 RJ0 yJ0_indexOf_0f7a4 wsJ0_indexOf_0f7a4) := goodIn_app (goodIn_sub (sub_cons (List.mem_cons_of_mem _ (List.mem_append_left _ (List.mem_append_right _ (List.mem_append_left _ (List.mem_of_getElem? (i := 3) rfl))))) (sub_cons (List.mem_cons_of_mem _ (List.mem_append_left _ (List.mem_append_right _ (List.mem_append_left _ (List.mem_of_getElem? (i := 4) rfl))))) (sub_cons (List.mem_cons_of_mem _ (List.mem_append_left _ (List.mem_append_right _ (List.mem_append_left _ (List.mem_of_getElem? (i := 5) rfl))))) (sub_cons (List.mem_cons_of_mem _ (List.mem_append_left _ (List.mem_append_right _ (List.mem_append_left _ (List.mem_of_getElem? (i := 6) rfl))))) sub_nil)))) (by decide +kernel)) ggX6_advance_J0_indexOf_0f7a4
set_option maxRecDepth 20000 in
theorem ggX6_advance_X6_readNumber : GoodIn wsX6_advance wsX6_readNumber := goodIn_sub (sub_cons (List.mem_cons_of_mem _ (List.mem_append_left _ (List.mem_append_right _ (List.mem_append_left _ (List.mem_of_getElem? (i := 2) rfl))))) (sub_app (sub_cons (List.mem_cons_of_mem _ (List.mem_append_left _ (List.mem_append_left _ (List.mem_of_getElem? (i := 4) rfl)))) (sub_cons (List.mem_cons_of_mem _ (List.mem_append_left _ (List.mem_append_left _ (List.mem_of_getElem? (i := 0) rfl)))) (sub_cons (List.mem_cons_of_mem _ (List.mem_append_left _ (List.mem_append_left _ (List.mem_of_getElem? (i := 1) rfl)))) (sub_cons (List.mem_cons_of_mem _ (List.mem_append_left _ (List.mem_append_left _ (List.mem_of_getElem? (i := 2) rfl)))) (sub_cons (List.mem_cons_of_mem _ (List.mem_append_left _ (List.mem_append_left _ (List.mem_of_getElem? (i := 3) rfl)))) (sub_cons (List.mem_cons_of_mem _ (List.mem_append_left _ (List.mem_append_left _ (List.mem_of_getElem? (i := 5) rfl)))) (sub_cons (List.mem_cons_of_mem _ (List.mem_append_left _ (List.mem_append_left _ (List.mem_of_getElem? (i := 20) rfl)))) (sub_cons (List.mem_cons_of_mem _ (List.mem_append_left _ (List.mem_append_left _ (List.mem_of_getElem? (i := 21) rfl)))) (sub_cons (List.mem_cons_of_mem _ (List.mem_append_left _ (List.mem_append_left _ (List.mem_of_getElem? (i := 8) rfl)))) (sub_cons (List.mem_cons_of_mem _ (List.mem_append_left _ (List.mem_append_left _ (List.mem_of_getElem? (i := 22) rfl)))) sub_nil)))))))))) (fun w h9 => (List.mem_cons_of_mem _ (List.mem_append_right _ h9))))) gw_X6_readNumber
set_option maxRecDepth 20000 in
theorem gX6_advance_X6_readNumber : GoodIn wsX6_advance (wsV RX6 68 RX6 yX6_readNumber wsX6_readNumber) := goodIn_app (goodIn_sub (sub_cons (List.mem_cons_of_mem _ (List.mem_append_left _ (List.mem_append_left _ (List.mem_of_getElem? (i := 23) rfl)))) (sub_cons (List.mem_cons_of_mem _ (List.mem_append_left _ (List.mem_append_right _ (List.mem_append_left _ (List.mem_of_getElem? (i := 0) rfl))))) (sub_cons (List.mem_cons_of_mem _ (List.mem_append_left _ (List.mem_append_right _ (List.mem_append_left _ (List.mem_of_getElem? (i := 1) rfl))))) (sub_cons (List.mem_cons_of_mem _ (List.mem_append_left _ (List.mem_append_left _ (List.mem_of_getElem? (i := 8) rfl)))) sub_nil)))) (by decide +kernel)) ggX6_advance_X6_readNumber
set_option maxRecDepth 20000 in
theorem ggX6_advance_X6_readWord : GoodIn wsX6_advance wsX6_readWord := goodIn_sub (sub_cons (List.mem_cons_of_mem _ (List.mem_append_left _ (List.mem_append_left _ (List.mem_of_getElem? (i := 13) rfl)))) (sub_app (sub_cons (List.mem_cons_of_mem _ (List.mem_append_left _ (List.mem_append_left _ (List.mem_of_getElem? (i := 14) rfl)))) (sub_cons (List.mem_cons_of_mem _ (List.mem_append_left _ (List.mem_append_left _ (List.mem_of_getElem? (i := 0) rfl)))) (sub_cons (List.mem_cons_of_mem _ (List.mem_append_left _ (List.mem_append_left _ (List.mem_of_getElem? (i := 1) rfl)))) (sub_cons (List.mem_cons_of_mem _ (List.mem_append_left _ (List.mem_append_left _ (List.mem_of_getElem? (i := 2) rfl)))) (sub_cons (List.mem_cons_of_mem _ (List.mem_append_left _ (List.mem_append_left _ (List.mem_of_getElem? (i := 3) rfl)))) (sub_cons (List.mem_cons_of_mem _ (List.mem_append_left _ (List.mem_append_left _ (List.mem_of_getElem? (i := 5) rfl)))) (sub_cons (List.mem_cons_of_mem _ (List.mem_append_left _ (List.mem_append_left _ (List.mem_of_getElem? (i := 15) rfl)))) (sub_cons (List.mem_cons_of_mem _ (List.mem_append_left _ (List.mem_append_left _ (List.mem_of_getElem? (i := 4) rfl)))) (sub_cons (List.mem_cons_of_mem _ (List.mem_append_left _ (List.mem_append_left _ (List.mem_of_getElem? (i := 6) rfl)))) (sub_cons (List.mem_cons_of_mem _ (List.mem_append_left _ (List.mem_append_left _ (List.mem_of_getElem? (i := 7) rfl)))) (sub_cons (List.mem_cons_of_mem _ (List.mem_append_left _ (List.mem_append_left _ (List.mem_of_getElem? (i := 8) rfl)))) (sub_cons (List.mem_cons_of_mem _ (List.mem_append_left _ (List.mem_append_left _ (List.mem_of_getElem? (i := 9) rfl)))) (sub_cons (List.mem_cons_of_mem _ (List.mem_append_left _ (List.mem_append_left _ (List.mem_of_getElem? (i := 16) rfl)))) (sub_cons (List.mem_cons_of_mem _ (List.mem_append_left _ (List.mem_append_left _ (List.mem_of_getElem? (i := 17) rfl)))) (sub_cons (List.mem_cons_of_mem _ (List.mem_append_left _ (List.mem_append_left _ (List.mem_of_getElem? (i := 18) rfl)))) (sub_cons (List.mem_cons_of_mem _ (List.mem_append_left _ (List.mem_append_left _ (List.mem_of_getElem? (i := 19) rfl)))) sub_nil)))))))))))))))) (fun w h9 => (List.mem_cons_of_mem _ (List.mem_append_right _ h9))))) gw_X6_readWord
set_option maxRecDepth 20000 in
theorem gX6_advance_X6_readWord : GoodIn wsX6_advance (wsV RX6 62 RX6 yX6_readWord wsX6_readWord) := goodIn_app (goodIn_sub (sub_cons (List.mem_cons_of_mem _ (List.mem_append_left _ (List.mem_append_left _ (List.mem_of_getElem? (i := 10) rfl)))) (sub_cons (List.mem_cons_of_mem _ (List.mem_append_left _ (List.mem_append_left _ (List.mem_of_getElem? (i := 11) rfl)))) (sub_cons (List.mem_cons_of_mem _ (List.mem_append_left _ (List.mem_append_left _ (List.mem_of_getElem? (i := 12) rfl)))) (sub_cons (List.mem_cons_of_mem _ (List.mem_append_left _ (List.mem_append_left _ (List.mem_of_getElem? (i := 8) rfl)))) sub_nil)))) (by decide +kernel)) ggX6_advance_X6_readWord
set_option maxHeartbeats 4000000 in
set_option maxRecDepth 100000 in
theorem sX6_advance (l : Launch) (D : va_G) (k : Nat → ClassId) (a0 sa sv : Nat) (f : Nat → Int32) (sz : Nat) (ta : Nat) (ta_signs : Nat) (ta_words : Nat) (ta_length : Nat) (ta_next : Nat) (ta_place : Int32) (ta_kind : Int32) (ta_value : Int32) (ta_letters : Int64) (ta_fault : Int32) (ta_signsF : Nat → Int32) (ta_wordsF : Nat → Int64) (h_ta_length : ta_length ≤ 1000) (h_ta_next : ta_next ≤ 1000) : Met l yX6_advance wsX6_advance ({ frames := 4, cells := 0, slots := 0, locals := 280 }) (va_Pc [.ref ta] (kz_PreY D k [(ta, kO 6 [.ref ta_signs, .ref ta_words, .int (nI ta_length), .int (nI ta_next), .int ta_place, .int ta_kind, .int ta_value, .long ta_letters, .int ta_fault]), (ta_signs, kB k 1000 ta_signsF), (ta_words, kJ k 23 ta_wordsF)] a0 sa sv f sz)) (va_Qv (fun (uu : Nat × Int32 × Int32 × Int32 × Int64) => (uu.1 ≤ 1000) ∧ ((uu.1, uu.2.1, uu.2.2.1, uu.2.2.2.1, uu.2.2.2.2) = (fX6_advance ta_length ta_next ta_letters ta_signsF ta_wordsF f))) (fun uu zt => kz_B D (va_A [(ta, kO 6 [.ref ta_signs, .ref ta_words, .int (nI ta_length), .int (nI ta_next), .int ta_place, .int ta_kind, .int ta_value, .long ta_letters, .int ta_fault]), (ta_signs, kB k 1000 ta_signsF), (ta_words, kJ k 23 ta_wordsF)] sz) [(ta, kO 6 [.ref ta_signs, .ref ta_words, .int (nI ta_length), .int (nI uu.1), .int uu.2.1, .int uu.2.2.1, .int uu.2.2.2.1, .long uu.2.2.2.2, .int ta_fault]), (ta_signs, kB k 1000 ta_signsF), (ta_words, kJ k 23 ta_wordsF)] zt) (va_A [(ta, kO 6 [.ref ta_signs, .ref ta_words, .int (nI ta_length), .int (nI ta_next), .int ta_place, .int ta_kind, .int ta_value, .long ta_letters, .int ta_fault]), (ta_signs, kB k 1000 ta_signsF), (ta_words, kJ k 23 ta_wordsF)] sz)) 0 0 (va_A [(ta, kO 6 [.ref ta_signs, .ref ta_words, .int (nI ta_length), .int (nI ta_next), .int ta_place, .int ta_kind, .int ta_value, .long ta_letters, .int ta_fault]), (ta_signs, kB k 1000 ta_signsF), (ta_words, kJ k 23 ta_wordsF)] sz) := by
  refine Met.ofW (cc := cX6_advance) (maxL := 1) (ret := none) (by decide) rfl ?_
  intro p e s m args below meth c s₁ B hml hv
  obtain ⟨hav, ⟨hsz, hP, hK, hD0, hE⟩, ha0, hDa, hX⟩ := hv
  have hx := B.exec
  have hb := B.bytes
  have hr := B.returns
  have hts := atoms_spec (ws := wsX6_advance) B.pre
  have hown : s.vm.findClass RX6 = some m.cls := findClass_of_methodNamed B.named
  have hlocks := B.notSynchronized
  have hi6 : ∀ w ∈ u_ws RX6 TX6 9, w ∈ wsX6_advance := fun w h9 => List.mem_cons_of_mem _ (List.mem_append_right _ h9)
  have lf44 := hts (.fieldLink RX6 44 "LastCook$Tape" "next" "I") (List.mem_cons_of_mem _ (List.mem_append_left _ (List.mem_append_left _ (List.mem_of_getElem? (i := 0) rfl))))
  have lf41 := hts (.fieldLink RX6 41 "LastCook$Tape" "length" "I") (List.mem_cons_of_mem _ (List.mem_append_left _ (List.mem_append_left _ (List.mem_of_getElem? (i := 1) rfl))))
  have lf53 := hts (.fieldLink RX6 53 "LastCook$Tape" "place" "I") (List.mem_cons_of_mem _ (List.mem_append_left _ (List.mem_append_left _ (List.mem_of_getElem? (i := 3) rfl))))
  have lf56 := hts (.fieldLink RX6 56 "LastCook$Tape" "value" "I") (List.mem_cons_of_mem _ (List.mem_append_left _ (List.mem_append_left _ (List.mem_of_getElem? (i := 4) rfl))))
  have lf11 := hts (.fieldLink RX6 11 "LastCook$Tape" "signs" "[B") (List.mem_cons_of_mem _ (List.mem_append_left _ (List.mem_append_left _ (List.mem_of_getElem? (i := 2) rfl))))
  have lf59 := hts (.fieldLink RX6 59 "LastCook$Tape" "kind" "I") (List.mem_cons_of_mem _ (List.mem_append_left _ (List.mem_append_left _ (List.mem_of_getElem? (i := 5) rfl))))
  subst hsz
  have hD := hD0.self (sz := s.heap.size)
  generalize hAe : va_A [(ta, kO 6 [.ref ta_signs, .ref ta_words, .int (nI ta_length), .int (nI ta_next), .int ta_place, .int ta_kind, .int ta_value, .long ta_letters, .int ta_fault]), (ta_signs, kB k 1000 ta_signsF), (ta_words, kJ k 23 ta_wordsF)] s.heap.size = A at hD ⊢
  have hA : ∀ q : Nat, s.heap.size ≤ q → A q := fun q h => by rw [← hAe]; exact Or.inr h
  have hAX : ∀ q, A q → a0 ≤ q := fun q h => by rw [← hAe] at h; exact h.elim (fun ⟨k9, e9, h9⟩ => hDa.2 k9 _ h9) (fun e => Nat.le_trans ha0 e)
  obtain ⟨tx71, hR71⟩ := hX.1
  have hS : va_S A s.heap s.heap [] := va_S.rf
  have hl := lv_entry ([.ref ta]) (n := 1) (Nat.le_of_ble_eq_true rfl)
  rw [show entryFrame m args 1 = entryFrame m ([.ref ta] : List Value).toArray 1 by rw [hav], lg_entry_eq]
  generalize (lg_sl ([.ref ta]) ++ List.replicate (1 - (lg_sl ([.ref ta])).length) Slot.unset).toArray = ls at hl ⊢
  have hl : lv_has ls 1 [(0, .ref ta)] := hl
  obtain ⟨R, hR⟩ : ∃ R, R = (headSpec wsX6_advance ({ frames := 4, cells := 0, slots := 0, locals := 280 } : Room)).room := ⟨_, rfl⟩
  rw [← hR]
  generalize hQ : MQ below _ args s 0 0 A = Q
  replace hQ := hQ.symm
  obtain ⟨H, hH⟩ : ∃ H, H = s.heap := ⟨_, rfl⟩
  rw [← hH] at hP ⊢
  have hS : va_S A s.heap H [] := by rw [hH]; exact hS
  obtain ⟨E0, hE0⟩ : ∃ E0 : Nat × Int32 × Int32 × Int32 × Int64, E0 = (fX6_advance ta_length ta_next ta_letters ta_signsF ta_wordsF f) := ⟨_, rfl⟩
  have hZ : (fX6_advance ta_length ta_next ta_letters ta_signsF ta_wordsF f) = E0 := hE0.symm
  have hloop0 : ∀ (nq : Nat) (fta_3_0 : Nat) (H : Heap) (locs : List Loc) (ls : Array Slot), (1000 + 1 - fta_3_0) < nq → (fta_3_0 ≤ 1000) → (lp (fun _ => (0, (0 : Int32), (0 : Int32), (0 : Int32), (0 : Int64))) (fX6_advance_B0a ta_length ta_letters ta_signsF ta_wordsF f) nq fta_3_0 = E0) → va_P D vwCl [(ta, kO 6 [.ref ta_signs, .ref ta_words, .int (nI ta_length), .int (nI fta_3_0), .int ta_place, .int ta_kind, .int ta_value, .long ta_letters, .int ta_fault]), (ta_signs, kB k 1000 ta_signsF), (ta_words, kJ k 23 ta_wordsF)] H → va_D A [(ta, kO 6 [.ref ta_signs, .ref ta_words, .int (nI ta_length), .int (nI fta_3_0), .int ta_place, .int ta_kind, .int ta_value, .long ta_letters, .int ta_fault]), (ta_signs, kB k 1000 ta_signsF), (ta_words, kJ k 23 ta_wordsF)] → va_S A s.heap H locs → lv_has ls 1 [(0, .ref ta)] → W p l e R s m args below meth c H locs 0 0 Q (F0 m 0 ls []) := by
    intro n0
    induction n0 with
    | zero => intro fta_3_0 H locs ls hm; exact absurd hm (Nat.not_lt_zero _)
    | succ n0 ih0 =>
      intro fta_3_0 H locs ls hm0 i_fta_3_0 hZ hP hD hS hl
      obtain ⟨rc0_1, hrc0_1⟩ : ∃ r : Nat → Nat × Int32 × Int32 × Int32 × Int64, r = lp (fun _ => (0, (0 : Int32), (0 : Int32), (0 : Int32), (0 : Int64))) (fX6_advance_B0a ta_length ta_letters ta_signsF ta_wordsF f) n0 := ⟨_, rfl⟩
      have hZ : (fX6_advance_B0a ta_length ta_letters ta_signsF ta_wordsF f) rc0_1 fta_3_0 = E0 := by rw [hrc0_1]; exact hZ
      refine lv_aload_n hx hb dX6_advance_0 rfl (lv_at hl 0 rfl) ?_
      refine va_get (D := D) (ci := 6) (v := .int (nI fta_3_0)) (C := RX6) (T := TX6) (N := 9) hx hb hts hi6 hown hK hP 0 rfl rfl 3 (by decide) lf44 (fun _ h9 => h9) rfl dX6_advance_1 ?_
      refine lv_aload_n hx hb dX6_advance_4 rfl (lv_at hl 0 rfl) ?_
      refine va_get (D := D) (ci := 6) (v := .int (nI ta_length)) (C := RX6) (T := TX6) (N := 9) hx hb hts hi6 hown hK hP 0 rfl rfl 2 (by decide) lf41 (fun _ h9 => h9) rfl dX6_advance_5 ?_
      have hj52_2 : ∀ (H : Heap) (locs : List Loc) (ls : Array Slot), ((fX6_advance_J52a ta_length ta_letters ta_signsF ta_wordsF f fta_3_0) = E0) → va_P D vwCl [(ta, kO 6 [.ref ta_signs, .ref ta_words, .int (nI ta_length), .int (nI fta_3_0), .int ta_place, .int ta_kind, .int ta_value, .long ta_letters, .int ta_fault]), (ta_signs, kB k 1000 ta_signsF), (ta_words, kJ k 23 ta_wordsF)] H → va_D A [(ta, kO 6 [.ref ta_signs, .ref ta_words, .int (nI ta_length), .int (nI fta_3_0), .int ta_place, .int ta_kind, .int ta_value, .long ta_letters, .int ta_fault]), (ta_signs, kB k 1000 ta_signsF), (ta_words, kJ k 23 ta_wordsF)] → va_S A s.heap H locs → lv_has ls 1 [(0, .ref ta)] → W p l e R s m args below meth c H locs 0 0 Q (F0 m 52 ls []) := by
        intro H locs ls hZ hP hD hS hl
        refine lv_aload_n hx hb dX6_advance_52 rfl (lv_at hl 0 rfl) ?_
        refine lv_aload_n hx hb dX6_advance_53 rfl (lv_at hl 0 rfl) ?_
        refine va_get (D := D) (ci := 6) (v := .int (nI fta_3_0)) (C := RX6) (T := TX6) (N := 9) hx hb hts hi6 hown hK hP 0 rfl rfl 3 (by decide) lf44 (fun _ h9 => h9) rfl dX6_advance_54 ?_
        refine va_put (D := D) (ci := 6) (v := .int (nI fta_3_0)) (ty := .int) (C := RX6) (T := TX6) (N := 9) hx hb hts hi6 tyX6 tyX6_ok nmX6 hown hK hP hD hS 0 rfl rfl 4 (by decide) lf53 (fun _ h9 => h9) rfl (by decide +kernel) rfl rfl (Nat.le_of_ble_eq_true rfl) dX6_advance_57 (fun H locs hP hD hS => ?_)
        exact by
         have hP : va_P D vwCl [(ta, kO 6 [.ref ta_signs, .ref ta_words, .int (nI ta_length), .int (nI fta_3_0), .int (nI fta_3_0), .int ta_kind, .int ta_value, .long ta_letters, .int ta_fault]), (ta_signs, kB k 1000 ta_signsF), (ta_words, kJ k 23 ta_wordsF)] H := hP
         have hD : va_D A [(ta, kO 6 [.ref ta_signs, .ref ta_words, .int (nI ta_length), .int (nI fta_3_0), .int (nI fta_3_0), .int ta_kind, .int ta_value, .long ta_letters, .int ta_fault]), (ta_signs, kB k 1000 ta_signsF), (ta_words, kJ k 23 ta_wordsF)] := hD
         refine lv_aload_n hx hb dX6_advance_60 rfl (lv_at hl 0 rfl) ?_
         refine lv_iconst (v := (-1)) hx hb dX6_advance_61 (by decide) ?_
         refine va_put (D := D) (ci := 6) (v := .int (-1)) (ty := .int) (C := RX6) (T := TX6) (N := 9) hx hb hts hi6 tyX6 tyX6_ok nmX6 hown hK hP hD hS 0 rfl rfl 6 (by decide) lf56 (fun _ h9 => h9) rfl (by decide +kernel) rfl rfl (Nat.le_of_ble_eq_true rfl) dX6_advance_62 (fun H locs hP hD hS => ?_)
         exact by
          have hP : va_P D vwCl [(ta, kO 6 [.ref ta_signs, .ref ta_words, .int (nI ta_length), .int (nI fta_3_0), .int (nI fta_3_0), .int ta_kind, .int (-1), .long ta_letters, .int ta_fault]), (ta_signs, kB k 1000 ta_signsF), (ta_words, kJ k 23 ta_wordsF)] H := hP
          have hD : va_D A [(ta, kO 6 [.ref ta_signs, .ref ta_words, .int (nI ta_length), .int (nI fta_3_0), .int (nI fta_3_0), .int ta_kind, .int (-1), .long ta_letters, .int ta_fault]), (ta_signs, kB k 1000 ta_signsF), (ta_words, kJ k 23 ta_wordsF)] := hD
          refine lv_aload_n hx hb dX6_advance_65 rfl (lv_at hl 0 rfl) ?_
          refine va_get (D := D) (ci := 6) (v := .int (nI fta_3_0)) (C := RX6) (T := TX6) (N := 9) hx hb hts hi6 hown hK hP 0 rfl rfl 3 (by decide) lf44 (fun _ h9 => h9) rfl dX6_advance_66 ?_
          refine lv_aload_n hx hb dX6_advance_69 rfl (lv_at hl 0 rfl) ?_
          refine va_get (D := D) (ci := 6) (v := .int (nI ta_length)) (C := RX6) (T := TX6) (N := 9) hx hb hts hi6 hown hK hP 0 rfl rfl 2 (by decide) lf41 (fun _ h9 => h9) rfl dX6_advance_70 ?_
          have hj173_3 : ∀ (fta_3_173 : Nat) (fta_5_173 : Int32) (fta_6_173 : Int32) (fta_7_173 : Int64) (H : Heap) (locs : List Loc) (ls : Array Slot), (fta_3_173 ≤ 1000) → ((fX6_advance_J173a fta_3_0) fta_3_173 fta_5_173 fta_6_173 fta_7_173 = E0) → va_P D vwCl [(ta, kO 6 [.ref ta_signs, .ref ta_words, .int (nI ta_length), .int (nI fta_3_173), .int (nI fta_3_0), .int fta_5_173, .int fta_6_173, .long fta_7_173, .int ta_fault]), (ta_signs, kB k 1000 ta_signsF), (ta_words, kJ k 23 ta_wordsF)] H → va_D A [(ta, kO 6 [.ref ta_signs, .ref ta_words, .int (nI ta_length), .int (nI fta_3_173), .int (nI fta_3_0), .int fta_5_173, .int fta_6_173, .long fta_7_173, .int ta_fault]), (ta_signs, kB k 1000 ta_signsF), (ta_words, kJ k 23 ta_wordsF)] → va_S A s.heap H locs → lv_has ls 1 [(0, .ref ta)] → W p l e R s m args below meth c H locs 0 0 Q (F0 m 173 ls []) := by
            intro fta_3_173 fta_5_173 fta_6_173 fta_7_173 H locs ls i_fta_3_173 hZ hP hD hS hl
            rw [hQ]
            have hP9 := hP.sub (ws' := [(ta, kO 6 [.ref ta_signs, .ref ta_words, .int (nI ta_length), .int (nI fta_3_173), .int (nI fta_3_0), .int fta_5_173, .int fta_6_173, .long fta_7_173, .int ta_fault]), (ta_signs, kB k 1000 ta_signsF), (ta_words, kJ k 23 ta_wordsF)]) [0, 1, 2] rfl
            have hD9 := hD.sub (ws' := [(ta, kO 6 [.ref ta_signs, .ref ta_words, .int (nI ta_length), .int (nI fta_3_173), .int (nI fta_3_0), .int fta_5_173, .int fta_6_173, .long fta_7_173, .int ta_fault]), (ta_signs, kB k 1000 ta_signsF), (ta_words, kJ k 23 ta_wordsF)]) [0, 1, 2] (by decide +kernel) rfl
            exact W.vret hx hb hr (fun zt ht hW => ⟨⟨⟨fta_3_173, (nI fta_3_0), fta_5_173, fta_6_173, fta_7_173⟩, rfl, ⟨(by first | omega | (dsimp only; omega) | assumption), (hZ.trans hE0)⟩, by rw [ht]; exact hP9, hD9⟩, hS.F ht⟩) hS.2.2 dX6_advance_173
          refine lv_icmp_lt (tgt := 84) hx hb dX6_advance_73 (by decide) (fun c_4 => ?_) (fun c_4 => ?_)
          · exact by
             have k_4 : fta_3_0 < ta_length := (nI_ltI (a := fta_3_0) (b := ta_length) (by omega) (by omega)).mp c_4
             have hZ := (if_pos k_4).symm.trans hZ
             refine lv_aload_n hx hb dX6_advance_84 rfl (lv_at hl 0 rfl) ?_
             refine va_get (D := D) (ci := 6) (v := .ref ta_signs) (C := RX6) (T := TX6) (N := 9) hx hb hts hi6 hown hK hP 0 rfl rfl 0 (by decide) lf11 (fun _ h9 => h9) rfl dX6_advance_85 ?_
             refine lv_aload_n hx hb dX6_advance_88 rfl (lv_at hl 0 rfl) ?_
             refine va_get (D := D) (ci := 6) (v := .int (nI fta_3_0)) (C := RX6) (T := TX6) (N := 9) hx hb hts hi6 hown hK hP 0 rfl rfl 3 (by decide) lf44 (fun _ h9 => h9) rfl dX6_advance_89 ?_
             refine va_bald hx hb hK hP 1 2 rfl rfl (vp_in_nI (n := fta_3_0) (by omega) (by omega)) dX6_advance_92 ?_
             refine kz_Si (As := [.int (ta_signsF (Int32.toNatClampNeg (nI fta_3_0)))]) (rest := []) (wc := []) (wr := [(ta, kO 6 [.ref ta_signs, .ref ta_words, .int (nI ta_length), .int (nI fta_3_0), .int (nI fta_3_0), .int ta_kind, .int (-1), .long ta_letters, .int ta_fault]), (ta_signs, kB k 1000 ta_signsF), (ta_words, kJ k 23 ta_wordsF)]) ⟨hx, hb, hml, hown, hts⟩ hK hE hP hD hS hA (sX6_isLetter l D k H.size (ta_signsF (Int32.toNatClampNeg (nI fta_3_0)))) (va_cwS 1 hts gX6_advance_X6_isLetter rfl rfl rfl (by decide +kernel) (by rw [hR]; exact ⟨Nat.le_of_ble_eq_true rfl, Nat.le_of_ble_eq_true rfl⟩)) [] [0, 1, 2] rfl rfl (by decide +kernel) (by decide +kernel) (by decide +kernel) rfl hl.1 rfl (Nat.le_of_ble_eq_true rfl) dX6_advance_93 (by rw [hR]; exact ⟨Nat.le_of_ble_eq_true rfl, Nat.le_of_ble_eq_true rfl⟩) (fun r5 u5 H locs hw5 hP hD hS => ?_)
             exact by
              try dsimp only at hw5
              obtain ⟨rfl, hw5⟩ := hw5
              have hP : va_P D vwCl [(ta, kO 6 [.ref ta_signs, .ref ta_words, .int (nI ta_length), .int (nI fta_3_0), .int (nI fta_3_0), .int ta_kind, .int (-1), .long ta_letters, .int ta_fault]), (ta_signs, kB k 1000 ta_signsF), (ta_words, kJ k 23 ta_wordsF)] H := hP
              have hD : va_D A [(ta, kO 6 [.ref ta_signs, .ref ta_words, .int (nI ta_length), .int (nI fta_3_0), .int (nI fta_3_0), .int ta_kind, .int (-1), .long ta_letters, .int ta_fault]), (ta_signs, kB k 1000 ta_signsF), (ta_words, kJ k 23 ta_wordsF)] := hD
              have hw5_0 := hw5
              have hZ := bn1_e hw5_0 hZ
              refine lv_if_eq (tgt := 106) hx hb dX6_advance_96 (by decide) (fun c_6 => ?_) (fun c_6 => ?_)
              · exact by
                 have b_6 : u5 = false := bB_0 c_6
                 have hZ := (if_neg (bF b_6)).symm.trans hZ
                 refine lv_aload_n hx hb dX6_advance_106 rfl (lv_at hl 0 rfl) ?_
                 refine va_get (D := D) (ci := 6) (v := .ref ta_signs) (C := RX6) (T := TX6) (N := 9) hx hb hts hi6 hown hK hP 0 rfl rfl 0 (by decide) lf11 (fun _ h9 => h9) rfl dX6_advance_107 ?_
                 refine lv_aload_n hx hb dX6_advance_110 rfl (lv_at hl 0 rfl) ?_
                 refine va_get (D := D) (ci := 6) (v := .int (nI fta_3_0)) (C := RX6) (T := TX6) (N := 9) hx hb hts hi6 hown hK hP 0 rfl rfl 3 (by decide) lf44 (fun _ h9 => h9) rfl dX6_advance_111 ?_
                 refine va_bald hx hb hK hP 1 2 rfl rfl (vp_in_nI (n := fta_3_0) (by omega) (by omega)) dX6_advance_114 ?_
                 refine kz_Si (As := [.int (ta_signsF (Int32.toNatClampNeg (nI fta_3_0)))]) (rest := []) (wc := []) (wr := [(ta, kO 6 [.ref ta_signs, .ref ta_words, .int (nI ta_length), .int (nI fta_3_0), .int (nI fta_3_0), .int ta_kind, .int (-1), .long ta_letters, .int ta_fault]), (ta_signs, kB k 1000 ta_signsF), (ta_words, kJ k 23 ta_wordsF)]) ⟨hx, hb, hml, hown, hts⟩ hK hE hP hD hS hA (sX6_isDigit l D k H.size (ta_signsF (Int32.toNatClampNeg (nI fta_3_0)))) (va_cwS 1 hts gX6_advance_X6_isDigit rfl rfl rfl (by decide +kernel) (by rw [hR]; exact ⟨Nat.le_of_ble_eq_true rfl, Nat.le_of_ble_eq_true rfl⟩)) [] [0, 1, 2] rfl rfl (by decide +kernel) (by decide +kernel) (by decide +kernel) rfl hl.1 rfl (Nat.le_of_ble_eq_true rfl) dX6_advance_115 (by rw [hR]; exact ⟨Nat.le_of_ble_eq_true rfl, Nat.le_of_ble_eq_true rfl⟩) (fun r7 u7 H locs hw7 hP hD hS => ?_)
                 exact by
                  try dsimp only at hw7
                  obtain ⟨rfl, hw7⟩ := hw7
                  have hP : va_P D vwCl [(ta, kO 6 [.ref ta_signs, .ref ta_words, .int (nI ta_length), .int (nI fta_3_0), .int (nI fta_3_0), .int ta_kind, .int (-1), .long ta_letters, .int ta_fault]), (ta_signs, kB k 1000 ta_signsF), (ta_words, kJ k 23 ta_wordsF)] H := hP
                  have hD : va_D A [(ta, kO 6 [.ref ta_signs, .ref ta_words, .int (nI ta_length), .int (nI fta_3_0), .int (nI fta_3_0), .int ta_kind, .int (-1), .long ta_letters, .int ta_fault]), (ta_signs, kB k 1000 ta_signsF), (ta_words, kJ k 23 ta_wordsF)] := hD
                  have hw7_0 := hw7
                  have hZ := bn1_e hw7_0 hZ
                  refine lv_if_eq (tgt := 128) hx hb dX6_advance_118 (by decide) (fun c_8 => ?_) (fun c_8 => ?_)
                  · exact by
                     have b_8 : u7 = false := bB_0 c_8
                     have hZ := (if_neg (bF b_8)).symm.trans hZ
                     refine lv_aload_n hx hb dX6_advance_128 rfl (lv_at hl 0 rfl) ?_
                     refine lv_aload_n hx hb dX6_advance_129 rfl (lv_at hl 0 rfl) ?_
                     refine va_get (D := D) (ci := 6) (v := .ref ta_signs) (C := RX6) (T := TX6) (N := 9) hx hb hts hi6 hown hK hP 0 rfl rfl 0 (by decide) lf11 (fun _ h9 => h9) rfl dX6_advance_130 ?_
                     refine lv_aload_n hx hb dX6_advance_133 rfl (lv_at hl 0 rfl) ?_
                     refine va_get (D := D) (ci := 6) (v := .int (nI fta_3_0)) (C := RX6) (T := TX6) (N := 9) hx hb hts hi6 hown hK hP 0 rfl rfl 3 (by decide) lf44 (fun _ h9 => h9) rfl dX6_advance_134 ?_
                     refine va_bald hx hb hK hP 1 2 rfl rfl (vp_in_nI (n := fta_3_0) (by omega) (by omega)) dX6_advance_137 ?_
                     refine va_put (D := D) (ci := 6) (v := .int (ta_signsF (Int32.toNatClampNeg (nI fta_3_0)))) (ty := .int) (C := RX6) (T := TX6) (N := 9) hx hb hts hi6 tyX6 tyX6_ok nmX6 hown hK hP hD hS 0 rfl rfl 6 (by decide) lf56 (fun _ h9 => h9) rfl (by decide +kernel) rfl rfl (Nat.le_of_ble_eq_true rfl) dX6_advance_138 (fun H locs hP hD hS => ?_)
                     exact by
                      have hP : va_P D vwCl [(ta, kO 6 [.ref ta_signs, .ref ta_words, .int (nI ta_length), .int (nI fta_3_0), .int (nI fta_3_0), .int ta_kind, .int (ta_signsF (Int32.toNatClampNeg (nI fta_3_0))), .long ta_letters, .int ta_fault]), (ta_signs, kB k 1000 ta_signsF), (ta_words, kJ k 23 ta_wordsF)] H := hP
                      have hD : va_D A [(ta, kO 6 [.ref ta_signs, .ref ta_words, .int (nI ta_length), .int (nI fta_3_0), .int (nI fta_3_0), .int ta_kind, .int (ta_signsF (Int32.toNatClampNeg (nI fta_3_0))), .long ta_letters, .int ta_fault]), (ta_signs, kB k 1000 ta_signsF), (ta_words, kJ k 23 ta_wordsF)] := hD
                      refine lv_aload_n hx hb dX6_advance_141 rfl (lv_at hl 0 rfl) ?_
                      refine va_ldcS hx hb hown hR71 dX6_advance_142 ?_
                      refine lv_aload_n hx hb dX6_advance_144 rfl (lv_at hl 0 rfl) ?_
                      refine va_get (D := D) (ci := 6) (v := .int (ta_signsF (Int32.toNatClampNeg (nI fta_3_0)))) (C := RX6) (T := TX6) (N := 9) hx hb hts hi6 hown hK hP 0 rfl rfl 6 (by decide) lf56 (fun _ h9 => h9) rfl dX6_advance_145 ?_
                      refine lv_i2c hx hb dX6_advance_148 rfl ?_
                      refine ky_V (As := [.int (((ta_signsF (Int32.toNatClampNeg (nI fta_3_0))).toUInt32 % 65536).toInt32)]) (rest := [.ref ta]) ⟨hx, hb, hml, hown, hts⟩ hX hS hAX hA ha0 (nJ0_indexOf_0f7a4 l a0 sa sv f H.size (((ta_signsF (Int32.toNatClampNeg (nI fta_3_0))).toUInt32 % 65536).toInt32)) (cwV 1 hts gX6_advance_J0_indexOf_0f7a4 rfl rfl rfl (by decide +kernel) (by rw [hR]; exact ⟨Nat.le_of_ble_eq_true rfl, Nat.le_of_ble_eq_true rfl⟩)) rfl hl.1 rfl (Nat.le_of_ble_eq_true rfl) dX6_advance_149 (by rw [hR]; exact ⟨Nat.le_of_ble_eq_true rfl, Nat.le_of_ble_eq_true rfl⟩) (fun r9 H9 locs hw9 hk9 hS => ?_)
                      exact by
                       have hZ := bn1_e hw9 hZ
                       have hP := hP.kept (H1 := H9) (fun k9 q9 h9 => hk9 q9.1 ((hP k9 q9 h9).lt))
                       generalize H9 = H at hP hS ⊢
                       have hP : va_P D vwCl [(ta, kO 6 [.ref ta_signs, .ref ta_words, .int (nI ta_length), .int (nI fta_3_0), .int (nI fta_3_0), .int ta_kind, .int (ta_signsF (Int32.toNatClampNeg (nI fta_3_0))), .long ta_letters, .int ta_fault]), (ta_signs, kB k 1000 ta_signsF), (ta_words, kJ k 23 ta_wordsF)] H := hP
                       have hD : va_D A [(ta, kO 6 [.ref ta_signs, .ref ta_words, .int (nI ta_length), .int (nI fta_3_0), .int (nI fta_3_0), .int ta_kind, .int (ta_signsF (Int32.toNatClampNeg (nI fta_3_0))), .long ta_letters, .int ta_fault]), (ta_signs, kB k 1000 ta_signsF), (ta_words, kJ k 23 ta_wordsF)] := hD
                       have hj160_10 : ∀ (s1_160 : Int32) (H : Heap) (locs : List Loc) (ls : Array Slot), ((fX6_advance_J160a ta_letters ta_signsF fta_3_0) s1_160 = E0) → va_P D vwCl [(ta, kO 6 [.ref ta_signs, .ref ta_words, .int (nI ta_length), .int (nI fta_3_0), .int (nI fta_3_0), .int ta_kind, .int (ta_signsF (Int32.toNatClampNeg (nI fta_3_0))), .long ta_letters, .int ta_fault]), (ta_signs, kB k 1000 ta_signsF), (ta_words, kJ k 23 ta_wordsF)] H → va_D A [(ta, kO 6 [.ref ta_signs, .ref ta_words, .int (nI ta_length), .int (nI fta_3_0), .int (nI fta_3_0), .int ta_kind, .int (ta_signsF (Int32.toNatClampNeg (nI fta_3_0))), .long ta_letters, .int ta_fault]), (ta_signs, kB k 1000 ta_signsF), (ta_words, kJ k 23 ta_wordsF)] → va_S A s.heap H locs → lv_has ls 1 [(0, .ref ta)] → W p l e R s m args below meth c H locs 0 0 Q (F0 m 160 ls [.int s1_160, .ref ta]) := by
                         intro s1_160 H locs ls hZ hP hD hS hl
                         refine va_put (D := D) (ci := 6) (v := .int s1_160) (ty := .int) (C := RX6) (T := TX6) (N := 9) hx hb hts hi6 tyX6 tyX6_ok nmX6 hown hK hP hD hS 0 rfl rfl 5 (by decide) lf59 (fun _ h9 => h9) rfl (by decide +kernel) rfl rfl (Nat.le_of_ble_eq_true rfl) dX6_advance_160 (fun H locs hP hD hS => ?_)
                         exact by
                          have hP : va_P D vwCl [(ta, kO 6 [.ref ta_signs, .ref ta_words, .int (nI ta_length), .int (nI fta_3_0), .int (nI fta_3_0), .int s1_160, .int (ta_signsF (Int32.toNatClampNeg (nI fta_3_0))), .long ta_letters, .int ta_fault]), (ta_signs, kB k 1000 ta_signsF), (ta_words, kJ k 23 ta_wordsF)] H := hP
                          have hD : va_D A [(ta, kO 6 [.ref ta_signs, .ref ta_words, .int (nI ta_length), .int (nI fta_3_0), .int (nI fta_3_0), .int s1_160, .int (ta_signsF (Int32.toNatClampNeg (nI fta_3_0))), .long ta_letters, .int ta_fault]), (ta_signs, kB k 1000 ta_signsF), (ta_words, kJ k 23 ta_wordsF)] := hD
                          refine lv_aload_n hx hb dX6_advance_163 rfl (lv_at hl 0 rfl) ?_
                          refine lv_dup hx hb dX6_advance_164 rfl ?_
                          refine va_get (D := D) (ci := 6) (v := .int (nI fta_3_0)) (C := RX6) (T := TX6) (N := 9) hx hb hts hi6 hown hK hP 0 rfl rfl 3 (by decide) lf44 (fun _ h9 => h9) rfl dX6_advance_165 ?_
                          refine lv_iconst (v := 1) hx hb dX6_advance_168 (by decide) ?_
                          refine lv_iadd hx hb dX6_advance_169 ?_
                          refine lv_topi (fun x11 ex11 => ?_)
                          exact by
                           obtain rfl : x11 = (nI (fta_3_0 + 1)) := ex11.trans (nI_add fta_3_0 1)
                           refine va_put (D := D) (ci := 6) (v := .int (nI (fta_3_0 + 1))) (ty := .int) (C := RX6) (T := TX6) (N := 9) hx hb hts hi6 tyX6 tyX6_ok nmX6 hown hK hP hD hS 0 rfl rfl 3 (by decide) lf44 (fun _ h9 => h9) rfl (by decide +kernel) rfl rfl (Nat.le_of_ble_eq_true rfl) dX6_advance_170 (fun H locs hP hD hS => ?_)
                           exact by
                            have hP : va_P D vwCl [(ta, kO 6 [.ref ta_signs, .ref ta_words, .int (nI ta_length), .int (nI (fta_3_0 + 1)), .int (nI fta_3_0), .int s1_160, .int (ta_signsF (Int32.toNatClampNeg (nI fta_3_0))), .long ta_letters, .int ta_fault]), (ta_signs, kB k 1000 ta_signsF), (ta_words, kJ k 23 ta_wordsF)] H := hP
                            have hD : va_D A [(ta, kO 6 [.ref ta_signs, .ref ta_words, .int (nI ta_length), .int (nI (fta_3_0 + 1)), .int (nI fta_3_0), .int s1_160, .int (ta_signsF (Int32.toNatClampNeg (nI fta_3_0))), .long ta_letters, .int ta_fault]), (ta_signs, kB k 1000 ta_signsF), (ta_words, kJ k 23 ta_wordsF)] := hD
                            exact hj173_3 (fta_3_0 + 1) s1_160 (ta_signsF (Int32.toNatClampNeg (nI fta_3_0))) ta_letters _ _ _ (by first | omega | assumption) hZ (hP.sub [0, 1, 2] rfl) (hD.sub [0, 1, 2] (by decide +kernel) rfl) hS (lv_sub hl [0] rfl)
                       refine lv_if_lt (tgt := 159) hx hb dX6_advance_152 (by decide) (fun c_12 => ?_) (fun c_12 => ?_)
                       · exact by
                          have t_12 : (Int32.toInt r9) < 0 := tI_lt rfl (by decide) c_12
                          have hZ := (if_pos c_12).symm.trans hZ
                          refine lv_iconst (v := 4) hx hb dX6_advance_159 (by decide) ?_
                          exact hj160_10 (4 : Int32) _ _ _ hZ (hP.sub [0, 1, 2] rfl) (hD.sub [0, 1, 2] (by decide +kernel) rfl) hS (lv_sub hl [0] rfl)
                       · exact by
                          have t_12 : (Int32.toInt r9) ≥ 0 := tI_nlt rfl (by decide) c_12
                          have hZ := (if_neg c_12).symm.trans hZ
                          refine lv_iconst (v := 3) hx hb dX6_advance_155 (by decide) ?_
                          refine lv_goto (tgt := 160) hx hb dX6_advance_156 (by decide) ?_
                          exact hj160_10 (3 : Int32) _ _ _ hZ (hP.sub [0, 1, 2] rfl) (hD.sub [0, 1, 2] (by decide +kernel) rfl) hS (lv_sub hl [0] rfl)
                  · exact by
                     have b_8 : u7 = true := bB_1 c_8
                     have hZ := (if_pos b_8).symm.trans hZ
                     refine lv_aload_n hx hb dX6_advance_121 rfl (lv_at hl 0 rfl) ?_
                     refine kz_Vv (As := []) (rest := []) (wc := [(ta, kO 6 [.ref ta_signs, .ref ta_words, .int (nI ta_length), .int (nI fta_3_0), .int (nI fta_3_0), .int ta_kind, .int (-1), .long ta_letters, .int ta_fault]), (ta_signs, kB k 1000 ta_signsF)]) (wr := [(ta_words, kJ k 23 ta_wordsF)]) ⟨hx, hb, hml, hown, hts⟩ hK hE hP hD hS hA (sX6_readNumber l D k H.size ta ta_signs ta_words ta_length fta_3_0 (nI fta_3_0) ta_kind (-1) ta_letters ta_fault ta_signsF (by first | omega | assumption | decide) (by first | omega | assumption | decide)) (cwV 0 hts gX6_advance_X6_readNumber rfl rfl rfl (by decide +kernel) (by rw [hR]; exact ⟨Nat.le_of_ble_eq_true rfl, Nat.le_of_ble_eq_true rfl⟩)) [0, 1] [2] rfl rfl (by decide +kernel) (by decide +kernel) (by decide +kernel) 0 rfl rfl rfl hl.1 rfl (Nat.le_of_ble_eq_true rfl) dX6_advance_122 (by rw [hR]; exact ⟨Nat.le_of_ble_eq_true rfl, Nat.le_of_ble_eq_true rfl⟩) (fun u13 H locs hw13 hP hD hS => ?_)
                     exact by
                      obtain ⟨u_ta_313, u_ta_513, u_ta_613⟩ := u13
                      try dsimp only at hw13
                      have hP : va_P D vwCl [(ta_words, kJ k 23 ta_wordsF), (ta, kO 6 [.ref ta_signs, .ref ta_words, .int (nI ta_length), .int (nI u_ta_313), .int (nI fta_3_0), .int u_ta_513, .int u_ta_613, .long ta_letters, .int ta_fault]), (ta_signs, kB k 1000 ta_signsF)] H := hP
                      have hD : va_D A [(ta_words, kJ k 23 ta_wordsF), (ta, kO 6 [.ref ta_signs, .ref ta_words, .int (nI ta_length), .int (nI u_ta_313), .int (nI fta_3_0), .int u_ta_513, .int u_ta_613, .long ta_letters, .int ta_fault]), (ta_signs, kB k 1000 ta_signsF)] := hD
                      obtain ⟨hw13_0, hw13_1⟩ := hw13
                      have hZ := bn3_e hw13_1 hZ
                      refine lv_goto (tgt := 173) hx hb dX6_advance_125 (by decide) ?_
                      exact hj173_3 u_ta_313 u_ta_513 u_ta_613 ta_letters _ _ _ (by first | omega | assumption) hZ (hP.sub [1, 2, 0] rfl) (hD.sub [1, 2, 0] (by decide +kernel) rfl) hS (lv_sub hl [0] rfl)
              · exact by
                 have b_6 : u5 = true := bB_1 c_6
                 have hZ := (if_pos b_6).symm.trans hZ
                 refine lv_aload_n hx hb dX6_advance_99 rfl (lv_at hl 0 rfl) ?_
                 refine kz_Vv (As := []) (rest := []) (wc := [(ta, kO 6 [.ref ta_signs, .ref ta_words, .int (nI ta_length), .int (nI fta_3_0), .int (nI fta_3_0), .int ta_kind, .int (-1), .long ta_letters, .int ta_fault]), (ta_signs, kB k 1000 ta_signsF), (ta_words, kJ k 23 ta_wordsF)]) (wr := []) ⟨hx, hb, hml, hown, hts⟩ hK hE hP hD hS hA (sX6_readWord l D k H.size ta ta_signs ta_words ta_length fta_3_0 (nI fta_3_0) ta_kind (-1) ta_letters ta_fault ta_signsF ta_wordsF (by first | omega | assumption | decide) (by first | omega | assumption | decide)) (cwV 0 hts gX6_advance_X6_readWord rfl rfl rfl (by decide +kernel) (by rw [hR]; exact ⟨Nat.le_of_ble_eq_true rfl, Nat.le_of_ble_eq_true rfl⟩)) [0, 1, 2] [] rfl rfl (by decide +kernel) (by decide +kernel) (by decide +kernel) 0 rfl rfl rfl hl.1 rfl (Nat.le_of_ble_eq_true rfl) dX6_advance_100 (by rw [hR]; exact ⟨Nat.le_of_ble_eq_true rfl, Nat.le_of_ble_eq_true rfl⟩) (fun u14 H locs hw14 hP hD hS => ?_)
                 exact by
                  obtain ⟨u_ta_314, u_ta_514, u_ta_614, u_ta_714⟩ := u14
                  try dsimp only at hw14
                  have hP : va_P D vwCl [(ta, kO 6 [.ref ta_signs, .ref ta_words, .int (nI ta_length), .int (nI u_ta_314), .int (nI fta_3_0), .int u_ta_514, .int u_ta_614, .long u_ta_714, .int ta_fault]), (ta_signs, kB k 1000 ta_signsF), (ta_words, kJ k 23 ta_wordsF)] H := hP
                  have hD : va_D A [(ta, kO 6 [.ref ta_signs, .ref ta_words, .int (nI ta_length), .int (nI u_ta_314), .int (nI fta_3_0), .int u_ta_514, .int u_ta_614, .long u_ta_714, .int ta_fault]), (ta_signs, kB k 1000 ta_signsF), (ta_words, kJ k 23 ta_wordsF)] := hD
                  obtain ⟨hw14_0, hw14_1⟩ := hw14
                  have hZ := bn4_e hw14_1 hZ
                  refine lv_goto (tgt := 173) hx hb dX6_advance_103 (by decide) ?_
                  exact hj173_3 u_ta_314 u_ta_514 u_ta_614 u_ta_714 _ _ _ (by first | omega | assumption) hZ (hP.sub [0, 1, 2] rfl) (hD.sub [0, 1, 2] (by decide +kernel) rfl) hS (lv_sub hl [0] rfl)
          · exact by
             have k_4 : ¬ (fta_3_0 < ta_length) := fun h => c_4 ((nI_ltI (a := fta_3_0) (b := ta_length) (by omega) (by omega)).mpr h)
             have hZ := (if_neg k_4).symm.trans hZ
             refine lv_aload_n hx hb dX6_advance_76 rfl (lv_at hl 0 rfl) ?_
             refine lv_iconst (v := 0) hx hb dX6_advance_77 (by decide) ?_
             refine va_put (D := D) (ci := 6) (v := .int 0) (ty := .int) (C := RX6) (T := TX6) (N := 9) hx hb hts hi6 tyX6 tyX6_ok nmX6 hown hK hP hD hS 0 rfl rfl 5 (by decide) lf59 (fun _ h9 => h9) rfl (by decide +kernel) rfl rfl (Nat.le_of_ble_eq_true rfl) dX6_advance_78 (fun H locs hP hD hS => ?_)
             exact by
              have hP : va_P D vwCl [(ta, kO 6 [.ref ta_signs, .ref ta_words, .int (nI ta_length), .int (nI fta_3_0), .int (nI fta_3_0), .int 0, .int (-1), .long ta_letters, .int ta_fault]), (ta_signs, kB k 1000 ta_signsF), (ta_words, kJ k 23 ta_wordsF)] H := hP
              have hD : va_D A [(ta, kO 6 [.ref ta_signs, .ref ta_words, .int (nI ta_length), .int (nI fta_3_0), .int (nI fta_3_0), .int 0, .int (-1), .long ta_letters, .int ta_fault]), (ta_signs, kB k 1000 ta_signsF), (ta_words, kJ k 23 ta_wordsF)] := hD
              refine lv_goto (tgt := 173) hx hb dX6_advance_81 (by decide) ?_
              exact hj173_3 fta_3_0 (0 : Int32) ((-1) : Int32) ta_letters _ _ _ (by first | omega | assumption) hZ (hP.sub [0, 1, 2] rfl) (hD.sub [0, 1, 2] (by decide +kernel) rfl) hS (lv_sub hl [0] rfl)
      refine lv_icmp_ge (tgt := 52) hx hb dX6_advance_8 (by decide) (fun c_15 => ?_) (fun c_15 => ?_)
      · exact by
         have k_15 : ta_length ≤ fta_3_0 := (nI_leI (a := ta_length) (b := fta_3_0) (by omega) (by omega)).mp c_15
         have hZ := (if_pos k_15).symm.trans hZ
         exact hj52_2 _ _ _ hZ (hP.sub [0, 1, 2] rfl) (hD.sub [0, 1, 2] (by decide +kernel) rfl) hS (lv_sub hl [0] rfl)
      · exact by
         have k_15 : ¬ (ta_length ≤ fta_3_0) := fun h => c_15 ((nI_leI (a := ta_length) (b := fta_3_0) (by omega) (by omega)).mpr h)
         have hZ := (if_neg k_15).symm.trans hZ
         refine lv_aload_n hx hb dX6_advance_11 rfl (lv_at hl 0 rfl) ?_
         refine va_get (D := D) (ci := 6) (v := .ref ta_signs) (C := RX6) (T := TX6) (N := 9) hx hb hts hi6 hown hK hP 0 rfl rfl 0 (by decide) lf11 (fun _ h9 => h9) rfl dX6_advance_12 ?_
         refine lv_aload_n hx hb dX6_advance_15 rfl (lv_at hl 0 rfl) ?_
         refine va_get (D := D) (ci := 6) (v := .int (nI fta_3_0)) (C := RX6) (T := TX6) (N := 9) hx hb hts hi6 hown hK hP 0 rfl rfl 3 (by decide) lf44 (fun _ h9 => h9) rfl dX6_advance_16 ?_
         refine va_bald hx hb hK hP 1 2 rfl rfl (vp_in_nI (n := fta_3_0) (by omega) (by omega)) dX6_advance_19 ?_
         refine lv_bipush (v := 10) hx hb dX6_advance_20 (by decide) ?_
         have hj39_16 : ∀ (H : Heap) (locs : List Loc) (ls : Array Slot), ((fX6_advance_J39a fta_3_0 rc0_1) = E0) → va_P D vwCl [(ta, kO 6 [.ref ta_signs, .ref ta_words, .int (nI ta_length), .int (nI fta_3_0), .int ta_place, .int ta_kind, .int ta_value, .long ta_letters, .int ta_fault]), (ta_signs, kB k 1000 ta_signsF), (ta_words, kJ k 23 ta_wordsF)] H → va_D A [(ta, kO 6 [.ref ta_signs, .ref ta_words, .int (nI ta_length), .int (nI fta_3_0), .int ta_place, .int ta_kind, .int ta_value, .long ta_letters, .int ta_fault]), (ta_signs, kB k 1000 ta_signsF), (ta_words, kJ k 23 ta_wordsF)] → va_S A s.heap H locs → lv_has ls 1 [(0, .ref ta)] → W p l e R s m args below meth c H locs 0 0 Q (F0 m 39 ls []) := by
           intro H locs ls hZ hP hD hS hl
           refine lv_aload_n hx hb dX6_advance_39 rfl (lv_at hl 0 rfl) ?_
           refine lv_dup hx hb dX6_advance_40 rfl ?_
           refine va_get (D := D) (ci := 6) (v := .int (nI fta_3_0)) (C := RX6) (T := TX6) (N := 9) hx hb hts hi6 hown hK hP 0 rfl rfl 3 (by decide) lf44 (fun _ h9 => h9) rfl dX6_advance_41 ?_
           refine lv_iconst (v := 1) hx hb dX6_advance_44 (by decide) ?_
           refine lv_iadd hx hb dX6_advance_45 ?_
           refine lv_topi (fun x17 ex17 => ?_)
           exact by
            obtain rfl : x17 = (nI (fta_3_0 + 1)) := ex17.trans (nI_add fta_3_0 1)
            refine va_put (D := D) (ci := 6) (v := .int (nI (fta_3_0 + 1))) (ty := .int) (C := RX6) (T := TX6) (N := 9) hx hb hts hi6 tyX6 tyX6_ok nmX6 hown hK hP hD hS 0 rfl rfl 3 (by decide) lf44 (fun _ h9 => h9) rfl (by decide +kernel) rfl rfl (Nat.le_of_ble_eq_true rfl) dX6_advance_46 (fun H locs hP hD hS => ?_)
            exact by
             have hP : va_P D vwCl [(ta, kO 6 [.ref ta_signs, .ref ta_words, .int (nI ta_length), .int (nI (fta_3_0 + 1)), .int ta_place, .int ta_kind, .int ta_value, .long ta_letters, .int ta_fault]), (ta_signs, kB k 1000 ta_signsF), (ta_words, kJ k 23 ta_wordsF)] H := hP
             have hD : va_D A [(ta, kO 6 [.ref ta_signs, .ref ta_words, .int (nI ta_length), .int (nI (fta_3_0 + 1)), .int ta_place, .int ta_kind, .int ta_value, .long ta_letters, .int ta_fault]), (ta_signs, kB k 1000 ta_signsF), (ta_words, kJ k 23 ta_wordsF)] := hD
             refine lv_goto (tgt := 0) hx hb dX6_advance_49 (by decide) ?_
             exact ih0 (fta_3_0 + 1) _ _ _ (by omega) (by first | omega | assumption) (by rw [← hrc0_1]; exact hZ) (hP.sub [0, 1, 2] rfl) (hD.sub [0, 1, 2] (by decide +kernel) rfl) hS (lv_sub hl [0] rfl)
         refine lv_icmp_eq (tgt := 39) hx hb dX6_advance_22 (by decide) (fun c_18 => ?_) (fun c_18 => ?_)
         · exact by
            have hZ := (if_pos c_18).symm.trans hZ
            exact hj39_16 _ _ _ hZ (hP.sub [0, 1, 2] rfl) (hD.sub [0, 1, 2] (by decide +kernel) rfl) hS (lv_sub hl [0] rfl)
         · exact by
            have hZ := (if_neg c_18).symm.trans hZ
            refine lv_aload_n hx hb dX6_advance_25 rfl (lv_at hl 0 rfl) ?_
            refine va_get (D := D) (ci := 6) (v := .ref ta_signs) (C := RX6) (T := TX6) (N := 9) hx hb hts hi6 hown hK hP 0 rfl rfl 0 (by decide) lf11 (fun _ h9 => h9) rfl dX6_advance_26 ?_
            refine lv_aload_n hx hb dX6_advance_29 rfl (lv_at hl 0 rfl) ?_
            refine va_get (D := D) (ci := 6) (v := .int (nI fta_3_0)) (C := RX6) (T := TX6) (N := 9) hx hb hts hi6 hown hK hP 0 rfl rfl 3 (by decide) lf44 (fun _ h9 => h9) rfl dX6_advance_30 ?_
            refine va_bald hx hb hK hP 1 2 rfl rfl (vp_in_nI (n := fta_3_0) (by omega) (by omega)) dX6_advance_33 ?_
            refine lv_bipush (v := 32) hx hb dX6_advance_34 (by decide) ?_
            refine lv_icmp_ne (tgt := 52) hx hb dX6_advance_36 (by decide) (fun c_19 => ?_) (fun c_19 => ?_)
            · exact by
               have hZ := (if_neg c_19).symm.trans hZ
               exact hj52_2 _ _ _ hZ (hP.sub [0, 1, 2] rfl) (hD.sub [0, 1, 2] (by decide +kernel) rfl) hS (lv_sub hl [0] rfl)
            · exact by
               have hZ := (if_pos c_19).symm.trans hZ
               exact hj39_16 _ _ _ hZ (hP.sub [0, 1, 2] rfl) (hD.sub [0, 1, 2] (by decide +kernel) rfl) hS (lv_sub hl [0] rfl)
  exact hloop0 ((1000 + 1 - ta_next) + 1) ta_next _ _ _ (Nat.lt_succ_self _) (by first | omega | assumption) hZ (hP.sub [0, 1, 2] rfl) (hD.sub [0, 1, 2] (by decide +kernel) rfl) hS (lv_sub hl [0] rfl)
theorem dX6_rewind_0 : decode cX6_rewind 0 = .ok (.aload_n 0, 1) := dk_aload_n_0 (by decide +kernel)
theorem dX6_rewind_1 : decode cX6_rewind 1 = .ok (.iconst 0, 1) := dk_iconst_0 (by decide +kernel)
theorem dX6_rewind_2 : decode cX6_rewind 2 = .ok (.putfield 44, 3) := dk_putfield (by decide +kernel)
theorem dX6_rewind_5 : decode cX6_rewind 5 = .ok (.aload_n 0, 1) := dk_aload_n_0 (by decide +kernel)
theorem dX6_rewind_6 : decode cX6_rewind 6 = .ok (.iconst 0, 1) := dk_iconst_0 (by decide +kernel)
theorem dX6_rewind_7 : decode cX6_rewind 7 = .ok (.putfield 47, 3) := dk_putfield (by decide +kernel)
theorem dX6_rewind_10 : decode cX6_rewind 10 = .ok (.aload_n 0, 1) := dk_aload_n_0 (by decide +kernel)
theorem dX6_rewind_11 : decode cX6_rewind 11 = .ok (.invokevirtual 50, 3) := dk_invokevirtual (by decide +kernel)
theorem dX6_rewind_14 : decode cX6_rewind 14 = .ok (.return_, 1) := dk_return_ (by decide +kernel)
set_option maxRecDepth 20000 in
theorem ggX6_rewind_X6_advance : GoodIn wsX6_rewind wsX6_advance := goodIn_sub (sub_cons (List.mem_cons_of_mem _ (List.mem_append_left _ (List.mem_append_left _ (List.mem_of_getElem? (i := 6) rfl)))) (sub_app (sub_app (sub_cons (List.mem_cons_of_mem _ (List.mem_append_left _ (List.mem_append_left _ (List.mem_of_getElem? (i := 0) rfl)))) (sub_cons (List.mem_cons_of_mem _ (List.mem_append_left _ (List.mem_append_left _ (List.mem_of_getElem? (i := 7) rfl)))) (sub_cons (List.mem_cons_of_mem _ (List.mem_append_left _ (List.mem_append_left _ (List.mem_of_getElem? (i := 8) rfl)))) (sub_cons (List.mem_cons_of_mem _ (List.mem_append_left _ (List.mem_append_left _ (List.mem_of_getElem? (i := 9) rfl)))) (sub_cons (List.mem_cons_of_mem _ (List.mem_append_left _ (List.mem_append_left _ (List.mem_of_getElem? (i := 10) rfl)))) (sub_cons (List.mem_cons_of_mem _ (List.mem_append_left _ (List.mem_append_left _ (List.mem_of_getElem? (i := 11) rfl)))) (sub_cons (List.mem_cons_of_mem _ (List.mem_append_left _ (List.mem_append_left _ (List.mem_of_getElem? (i := 12) rfl)))) (sub_cons (List.mem_cons_of_mem _ (List.mem_append_left _ (List.mem_append_left _ (List.mem_of_getElem? (i := 13) rfl)))) (sub_cons (List.mem_cons_of_mem _ (List.mem_append_left _ (List.mem_append_left _ (List.mem_of_getElem? (i := 5) rfl)))) (sub_cons (List.mem_cons_of_mem _ (List.mem_append_left _ (List.mem_append_left _ (List.mem_of_getElem? (i := 14) rfl)))) (sub_cons (List.mem_cons_of_mem _ (List.mem_append_left _ (List.mem_append_left _ (List.mem_of_getElem? (i := 15) rfl)))) (sub_cons (List.mem_cons_of_mem _ (List.mem_append_left _ (List.mem_append_left _ (List.mem_of_getElem? (i := 16) rfl)))) (sub_cons (List.mem_cons_of_mem _ (List.mem_append_left _ (List.mem_append_left _ (List.mem_of_getElem? (i := 17) rfl)))) (sub_cons (List.mem_cons_of_mem _ (List.mem_append_left _ (List.mem_append_left _ (List.mem_of_getElem? (i := 18) rfl)))) (sub_cons (List.mem_cons_of_mem _ (List.mem_append_left _ (List.mem_append_left _ (List.mem_of_getElem? (i := 19) rfl)))) (sub_cons (List.mem_cons_of_mem _ (List.mem_append_left _ (List.mem_append_left _ (List.mem_of_getElem? (i := 20) rfl)))) (sub_cons (List.mem_cons_of_mem _ (List.mem_append_left _ (List.mem_append_left _ (List.mem_of_getElem? (i := 21) rfl)))) (sub_cons (List.mem_cons_of_mem _ (List.mem_append_left _ (List.mem_append_left _ (List.mem_of_getElem? (i := 22) rfl)))) (sub_cons (List.mem_cons_of_mem _ (List.mem_append_left _ (List.mem_append_left _ (List.mem_of_getElem? (i := 23) rfl)))) (sub_cons (List.mem_cons_of_mem _ (List.mem_append_left _ (List.mem_append_right _ (List.mem_append_left _ (List.mem_of_getElem? (i := 0) rfl))))) (sub_cons (List.mem_cons_of_mem _ (List.mem_append_left _ (List.mem_append_right _ (List.mem_append_left _ (List.mem_of_getElem? (i := 1) rfl))))) (sub_cons (List.mem_cons_of_mem _ (List.mem_append_left _ (List.mem_append_right _ (List.mem_append_left _ (List.mem_of_getElem? (i := 2) rfl))))) (sub_cons (List.mem_cons_of_mem _ (List.mem_append_left _ (List.mem_append_right _ (List.mem_append_left _ (List.mem_of_getElem? (i := 3) rfl))))) (sub_cons (List.mem_cons_of_mem _ (List.mem_append_left _ (List.mem_append_right _ (List.mem_append_left _ (List.mem_of_getElem? (i := 4) rfl))))) sub_nil)))))))))))))))))))))))) (sub_app (sub_cons (List.mem_cons_of_mem _ (List.mem_append_left _ (List.mem_append_right _ (List.mem_append_left _ (List.mem_of_getElem? (i := 5) rfl))))) (sub_cons (List.mem_cons_of_mem _ (List.mem_append_left _ (List.mem_append_right _ (List.mem_append_left _ (List.mem_of_getElem? (i := 6) rfl))))) (sub_cons (List.mem_cons_of_mem _ (List.mem_append_left _ (List.mem_append_right _ (List.mem_append_left _ (List.mem_of_getElem? (i := 7) rfl))))) (sub_cons (List.mem_cons_of_mem _ (List.mem_append_left _ (List.mem_append_right _ (List.mem_append_left _ (List.mem_of_getElem? (i := 8) rfl))))) (sub_cons (List.mem_cons_of_mem _ (List.mem_append_left _ (List.mem_append_right _ (List.mem_append_left _ (List.mem_of_getElem? (i := 9) rfl))))) (sub_cons (List.mem_cons_of_mem _ (List.mem_append_left _ (List.mem_append_right _ (List.mem_append_left _ (List.mem_of_getElem? (i := 10) rfl))))) (sub_cons (List.mem_cons_of_mem _ (List.mem_append_left _ (List.mem_append_right _ (List.mem_append_left _ (List.mem_of_getElem? (i := 11) rfl))))) (sub_cons (List.mem_cons_of_mem _ (List.mem_append_left _ (List.mem_append_right _ (List.mem_append_left _ (List.mem_of_getElem? (i := 12) rfl))))) (sub_cons (List.mem_cons_of_mem _ (List.mem_append_left _ (List.mem_append_right _ (List.mem_append_left _ (List.mem_of_getElem? (i := 13) rfl))))) (sub_cons (List.mem_cons_of_mem _ (List.mem_append_left _ (List.mem_append_right _ (List.mem_append_left _ (List.mem_of_getElem? (i := 14) rfl))))) (sub_cons (List.mem_cons_of_mem _ (List.mem_append_left _ (List.mem_append_right _ (List.mem_append_left _ (List.mem_of_getElem? (i := 15) rfl))))) (sub_cons (List.mem_cons_of_mem _ (List.mem_append_left _ (List.mem_append_right _ (List.mem_append_left _ (List.mem_of_getElem? (i := 16) rfl))))) (sub_cons (List.mem_cons_of_mem _ (List.mem_append_left _ (List.mem_append_right _ (List.mem_append_left _ (List.mem_of_getElem? (i := 17) rfl))))) (sub_cons (List.mem_cons_of_mem _ (List.mem_append_left _ (List.mem_append_right _ (List.mem_append_left _ (List.mem_of_getElem? (i := 18) rfl))))) (sub_cons (List.mem_cons_of_mem _ (List.mem_append_left _ (List.mem_append_right _ (List.mem_append_left _ (List.mem_of_getElem? (i := 19) rfl))))) (sub_cons (List.mem_cons_of_mem _ (List.mem_append_left _ (List.mem_append_right _ (List.mem_append_left _ (List.mem_of_getElem? (i := 20) rfl))))) (sub_cons (List.mem_cons_of_mem _ (List.mem_append_left _ (List.mem_append_right _ (List.mem_append_left _ (List.mem_of_getElem? (i := 21) rfl))))) (sub_cons (List.mem_cons_of_mem _ (List.mem_append_left _ (List.mem_append_right _ (List.mem_append_left _ (List.mem_of_getElem? (i := 22) rfl))))) (sub_cons (List.mem_cons_of_mem _ (List.mem_append_left _ (List.mem_append_right _ (List.mem_append_left _ (List.mem_of_getElem? (i := 23) rfl))))) (sub_cons (List.mem_cons_of_mem _ (List.mem_append_left _ (List.mem_append_right _ (List.mem_append_right _ (List.mem_append_left _ (List.mem_of_getElem? (i := 0) rfl)))))) (sub_cons (List.mem_cons_of_mem _ (List.mem_append_left _ (List.mem_append_right _ (List.mem_append_right _ (List.mem_append_left _ (List.mem_of_getElem? (i := 1) rfl)))))) (sub_cons (List.mem_cons_of_mem _ (List.mem_append_left _ (List.mem_append_right _ (List.mem_append_right _ (List.mem_append_left _ (List.mem_of_getElem? (i := 2) rfl)))))) (sub_cons (List.mem_cons_of_mem _ (List.mem_append_left _ (List.mem_append_right _ (List.mem_append_right _ (List.mem_append_left _ (List.mem_of_getElem? (i := 3) rfl)))))) (sub_cons (List.mem_cons_of_mem _ (List.mem_append_left _ (List.mem_append_right _ (List.mem_append_right _ (List.mem_append_left _ (List.mem_of_getElem? (i := 4) rfl)))))) sub_nil)))))))))))))))))))))))) (sub_app (sub_cons (List.mem_cons_of_mem _ (List.mem_append_left _ (List.mem_append_right _ (List.mem_append_right _ (List.mem_append_left _ (List.mem_of_getElem? (i := 5) rfl)))))) (sub_cons (List.mem_cons_of_mem _ (List.mem_append_left _ (List.mem_append_right _ (List.mem_append_right _ (List.mem_append_left _ (List.mem_of_getElem? (i := 6) rfl)))))) (sub_cons (List.mem_cons_of_mem _ (List.mem_append_left _ (List.mem_append_right _ (List.mem_append_right _ (List.mem_append_left _ (List.mem_of_getElem? (i := 7) rfl)))))) (sub_cons (List.mem_cons_of_mem _ (List.mem_append_left _ (List.mem_append_right _ (List.mem_append_right _ (List.mem_append_left _ (List.mem_of_getElem? (i := 8) rfl)))))) (sub_cons (List.mem_cons_of_mem _ (List.mem_append_left _ (List.mem_append_right _ (List.mem_append_right _ (List.mem_append_left _ (List.mem_of_getElem? (i := 9) rfl)))))) (sub_cons (List.mem_cons_of_mem _ (List.mem_append_left _ (List.mem_append_right _ (List.mem_append_right _ (List.mem_append_left _ (List.mem_of_getElem? (i := 10) rfl)))))) (sub_cons (List.mem_cons_of_mem _ (List.mem_append_left _ (List.mem_append_right _ (List.mem_append_right _ (List.mem_append_left _ (List.mem_of_getElem? (i := 11) rfl)))))) (sub_cons (List.mem_cons_of_mem _ (List.mem_append_left _ (List.mem_append_right _ (List.mem_append_right _ (List.mem_append_left _ (List.mem_of_getElem? (i := 12) rfl)))))) (sub_cons (List.mem_cons_of_mem _ (List.mem_append_left _ (List.mem_append_right _ (List.mem_append_right _ (List.mem_append_left _ (List.mem_of_getElem? (i := 13) rfl)))))) (sub_cons (List.mem_cons_of_mem _ (List.mem_append_left _ (List.mem_append_right _ (List.mem_append_right _ (List.mem_append_left _ (List.mem_of_getElem? (i := 14) rfl)))))) (sub_cons (List.mem_cons_of_mem _ (List.mem_append_left _ (List.mem_append_right _ (List.mem_append_right _ (List.mem_append_left _ (List.mem_of_getElem? (i := 15) rfl)))))) (sub_cons (List.mem_cons_of_mem _ (List.mem_append_left _ (List.mem_append_right _ (List.mem_append_right _ (List.mem_append_left _ (List.mem_of_getElem? (i := 16) rfl)))))) (sub_cons (List.mem_cons_of_mem _ (List.mem_append_left _ (List.mem_append_right _ (List.mem_append_right _ (List.mem_append_left _ (List.mem_of_getElem? (i := 17) rfl)))))) (sub_cons (List.mem_cons_of_mem _ (List.mem_append_left _ (List.mem_append_right _ (List.mem_append_right _ (List.mem_append_left _ (List.mem_of_getElem? (i := 18) rfl)))))) (sub_cons (List.mem_cons_of_mem _ (List.mem_append_left _ (List.mem_append_right _ (List.mem_append_right _ (List.mem_append_left _ (List.mem_of_getElem? (i := 19) rfl)))))) (sub_cons (List.mem_cons_of_mem _ (List.mem_append_left _ (List.mem_append_right _ (List.mem_append_right _ (List.mem_append_left _ (List.mem_of_getElem? (i := 20) rfl)))))) (sub_cons (List.mem_cons_of_mem _ (List.mem_append_left _ (List.mem_append_right _ (List.mem_append_right _ (List.mem_append_left _ (List.mem_of_getElem? (i := 21) rfl)))))) (sub_cons (List.mem_cons_of_mem _ (List.mem_append_left _ (List.mem_append_right _ (List.mem_append_right _ (List.mem_append_left _ (List.mem_of_getElem? (i := 22) rfl)))))) (sub_cons (List.mem_cons_of_mem _ (List.mem_append_left _ (List.mem_append_right _ (List.mem_append_right _ (List.mem_append_left _ (List.mem_of_getElem? (i := 23) rfl)))))) (sub_cons (List.mem_cons_of_mem _ (List.mem_append_left _ (List.mem_append_right _ (List.mem_append_right _ (List.mem_append_right _ (List.mem_append_left _ (List.mem_of_getElem? (i := 0) rfl))))))) (sub_cons (List.mem_cons_of_mem _ (List.mem_append_left _ (List.mem_append_right _ (List.mem_append_right _ (List.mem_append_right _ (List.mem_append_left _ (List.mem_of_getElem? (i := 1) rfl))))))) (sub_cons (List.mem_cons_of_mem _ (List.mem_append_left _ (List.mem_append_right _ (List.mem_append_right _ (List.mem_append_right _ (List.mem_append_left _ (List.mem_of_getElem? (i := 2) rfl))))))) (sub_cons (List.mem_cons_of_mem _ (List.mem_append_left _ (List.mem_append_right _ (List.mem_append_right _ (List.mem_append_right _ (List.mem_append_left _ (List.mem_of_getElem? (i := 3) rfl))))))) (sub_cons (List.mem_cons_of_mem _ (List.mem_append_left _ (List.mem_append_right _ (List.mem_append_right _ (List.mem_append_right _ (List.mem_append_left _ (List.mem_of_getElem? (i := 4) rfl))))))) sub_nil)))))))))))))))))))))))) (sub_app (sub_cons (List.mem_cons_of_mem _ (List.mem_append_left _ (List.mem_append_right _ (List.mem_append_right _ (List.mem_append_right _ (List.mem_append_left _ (List.mem_of_getElem? (i := 5) rfl))))))) (sub_cons (List.mem_cons_of_mem _ (List.mem_append_left _ (List.mem_append_right _ (List.mem_append_right _ (List.mem_append_right _ (List.mem_append_left _ (List.mem_of_getElem? (i := 6) rfl))))))) (sub_cons (List.mem_cons_of_mem _ (List.mem_append_left _ (List.mem_append_right _ (List.mem_append_right _ (List.mem_append_right _ (List.mem_append_left _ (List.mem_of_getElem? (i := 7) rfl))))))) (sub_cons (List.mem_cons_of_mem _ (List.mem_append_left _ (List.mem_append_right _ (List.mem_append_right _ (List.mem_append_right _ (List.mem_append_left _ (List.mem_of_getElem? (i := 8) rfl))))))) (sub_cons (List.mem_cons_of_mem _ (List.mem_append_left _ (List.mem_append_right _ (List.mem_append_right _ (List.mem_append_right _ (List.mem_append_left _ (List.mem_of_getElem? (i := 9) rfl))))))) (sub_cons (List.mem_cons_of_mem _ (List.mem_append_left _ (List.mem_append_right _ (List.mem_append_right _ (List.mem_append_right _ (List.mem_append_left _ (List.mem_of_getElem? (i := 10) rfl))))))) (sub_cons (List.mem_cons_of_mem _ (List.mem_append_left _ (List.mem_append_right _ (List.mem_append_right _ (List.mem_append_right _ (List.mem_append_left _ (List.mem_of_getElem? (i := 11) rfl))))))) (sub_cons (List.mem_cons_of_mem _ (List.mem_append_left _ (List.mem_append_right _ (List.mem_append_right _ (List.mem_append_right _ (List.mem_append_left _ (List.mem_of_getElem? (i := 12) rfl))))))) (sub_cons (List.mem_cons_of_mem _ (List.mem_append_left _ (List.mem_append_right _ (List.mem_append_right _ (List.mem_append_right _ (List.mem_append_left _ (List.mem_of_getElem? (i := 13) rfl))))))) (sub_cons (List.mem_cons_of_mem _ (List.mem_append_left _ (List.mem_append_right _ (List.mem_append_right _ (List.mem_append_right _ (List.mem_append_left _ (List.mem_of_getElem? (i := 14) rfl))))))) (sub_cons (List.mem_cons_of_mem _ (List.mem_append_left _ (List.mem_append_right _ (List.mem_append_right _ (List.mem_append_right _ (List.mem_append_left _ (List.mem_of_getElem? (i := 15) rfl))))))) (sub_cons (List.mem_cons_of_mem _ (List.mem_append_left _ (List.mem_append_right _ (List.mem_append_right _ (List.mem_append_right _ (List.mem_append_left _ (List.mem_of_getElem? (i := 16) rfl))))))) (sub_cons (List.mem_cons_of_mem _ (List.mem_append_left _ (List.mem_append_right _ (List.mem_append_right _ (List.mem_append_right _ (List.mem_append_left _ (List.mem_of_getElem? (i := 17) rfl))))))) (sub_cons (List.mem_cons_of_mem _ (List.mem_append_left _ (List.mem_append_right _ (List.mem_append_right _ (List.mem_append_right _ (List.mem_append_left _ (List.mem_of_getElem? (i := 18) rfl))))))) (sub_cons (List.mem_cons_of_mem _ (List.mem_append_left _ (List.mem_append_right _ (List.mem_append_right _ (List.mem_append_right _ (List.mem_append_left _ (List.mem_of_getElem? (i := 19) rfl))))))) (sub_cons (List.mem_cons_of_mem _ (List.mem_append_left _ (List.mem_append_right _ (List.mem_append_right _ (List.mem_append_right _ (List.mem_append_left _ (List.mem_of_getElem? (i := 20) rfl))))))) (sub_cons (List.mem_cons_of_mem _ (List.mem_append_left _ (List.mem_append_right _ (List.mem_append_right _ (List.mem_append_right _ (List.mem_append_left _ (List.mem_of_getElem? (i := 21) rfl))))))) (sub_cons (List.mem_cons_of_mem _ (List.mem_append_left _ (List.mem_append_right _ (List.mem_append_right _ (List.mem_append_right _ (List.mem_append_left _ (List.mem_of_getElem? (i := 22) rfl))))))) (sub_cons (List.mem_cons_of_mem _ (List.mem_append_left _ (List.mem_append_right _ (List.mem_append_right _ (List.mem_append_right _ (List.mem_append_left _ (List.mem_of_getElem? (i := 23) rfl))))))) (sub_cons (List.mem_cons_of_mem _ (List.mem_append_left _ (List.mem_append_right _ (List.mem_append_right _ (List.mem_append_right _ (List.mem_append_right _ (List.mem_append_left _ (List.mem_of_getElem? (i := 0) rfl)))))))) (sub_cons (List.mem_cons_of_mem _ (List.mem_append_left _ (List.mem_append_right _ (List.mem_append_right _ (List.mem_append_right _ (List.mem_append_right _ (List.mem_append_left _ (List.mem_of_getElem? (i := 1) rfl)))))))) (sub_cons (List.mem_cons_of_mem _ (List.mem_append_left _ (List.mem_append_right _ (List.mem_append_right _ (List.mem_append_right _ (List.mem_append_right _ (List.mem_append_left _ (List.mem_of_getElem? (i := 2) rfl)))))))) (sub_cons (List.mem_cons_of_mem _ (List.mem_append_left _ (List.mem_append_right _ (List.mem_append_right _ (List.mem_append_right _ (List.mem_append_right _ (List.mem_append_left _ (List.mem_of_getElem? (i := 3) rfl)))))))) (sub_cons (List.mem_cons_of_mem _ (List.mem_append_left _ (List.mem_append_right _ (List.mem_append_right _ (List.mem_append_right _ (List.mem_append_right _ (List.mem_append_left _ (List.mem_of_getElem? (i := 4) rfl)))))))) sub_nil)))))))))))))))))))))))) (sub_cons (List.mem_cons_of_mem _ (List.mem_append_left _ (List.mem_append_right _ (List.mem_append_right _ (List.mem_append_right _ (List.mem_append_right _ (List.mem_append_left _ (List.mem_of_getElem? (i := 5) rfl)))))))) (sub_cons (List.mem_cons_of_mem _ (List.mem_append_left _ (List.mem_append_right _ (List.mem_append_right _ (List.mem_append_right _ (List.mem_append_right _ (List.mem_append_left _ (List.mem_of_getElem? (i := 6) rfl)))))))) (sub_cons (List.mem_cons_of_mem _ (List.mem_append_left _ (List.mem_append_right _ (List.mem_append_right _ (List.mem_append_right _ (List.mem_append_right _ (List.mem_append_left _ (List.mem_of_getElem? (i := 7) rfl)))))))) (sub_cons (List.mem_cons_of_mem _ (List.mem_append_left _ (List.mem_append_right _ (List.mem_append_right _ (List.mem_append_right _ (List.mem_append_right _ (List.mem_append_left _ (List.mem_of_getElem? (i := 8) rfl)))))))) (sub_cons (List.mem_cons_of_mem _ (List.mem_append_left _ (List.mem_append_right _ (List.mem_append_right _ (List.mem_append_right _ (List.mem_append_right _ (List.mem_append_left _ (List.mem_of_getElem? (i := 9) rfl)))))))) (sub_cons (List.mem_cons_of_mem _ (List.mem_append_left _ (List.mem_append_right _ (List.mem_append_right _ (List.mem_append_right _ (List.mem_append_right _ (List.mem_append_left _ (List.mem_of_getElem? (i := 10) rfl)))))))) (sub_cons (List.mem_cons_of_mem _ (List.mem_append_left _ (List.mem_append_right _ (List.mem_append_right _ (List.mem_append_right _ (List.mem_append_right _ (List.mem_append_left _ (List.mem_of_getElem? (i := 11) rfl)))))))) (sub_cons (List.mem_cons_of_mem _ (List.mem_append_left _ (List.mem_append_right _ (List.mem_append_right _ (List.mem_append_right _ (List.mem_append_right _ (List.mem_append_left _ (List.mem_of_getElem? (i := 12) rfl)))))))) (sub_cons (List.mem_cons_of_mem _ (List.mem_append_left _ (List.mem_append_right _ (List.mem_append_right _ (List.mem_append_right _ (List.mem_append_right _ (List.mem_append_left _ (List.mem_of_getElem? (i := 13) rfl)))))))) (sub_cons (List.mem_cons_of_mem _ (List.mem_append_left _ (List.mem_append_right _ (List.mem_append_right _ (List.mem_append_right _ (List.mem_append_right _ (List.mem_append_left _ (List.mem_of_getElem? (i := 14) rfl)))))))) (sub_cons (List.mem_cons_of_mem _ (List.mem_append_left _ (List.mem_append_right _ (List.mem_append_right _ (List.mem_append_right _ (List.mem_append_right _ (List.mem_append_left _ (List.mem_of_getElem? (i := 15) rfl)))))))) (sub_cons (List.mem_cons_of_mem _ (List.mem_append_left _ (List.mem_append_right _ (List.mem_append_right _ (List.mem_append_right _ (List.mem_append_right _ (List.mem_append_left _ (List.mem_of_getElem? (i := 16) rfl)))))))) (sub_cons (List.mem_cons_of_mem _ (List.mem_append_left _ (List.mem_append_right _ (List.mem_append_right _ (List.mem_append_right _ (List.mem_append_right _ (List.mem_append_left _ (List.mem_of_getElem? (i := 17) rfl)))))))) (sub_cons (List.mem_cons_of_mem _ (List.mem_append_left _ (List.mem_append_right _ (List.mem_append_right _ (List.mem_append_right _ (List.mem_append_right _ (List.mem_append_left _ (List.mem_of_getElem? (i := 18) rfl)))))))) (sub_cons (List.mem_cons_of_mem _ (List.mem_append_left _ (List.mem_append_right _ (List.mem_append_right _ (List.mem_append_right _ (List.mem_append_right _ (List.mem_append_left _ (List.mem_of_getElem? (i := 19) rfl)))))))) (sub_cons (List.mem_cons_of_mem _ (List.mem_append_left _ (List.mem_append_right _ (List.mem_append_right _ (List.mem_append_right _ (List.mem_append_right _ (List.mem_append_left _ (List.mem_of_getElem? (i := 20) rfl)))))))) (sub_cons (List.mem_cons_of_mem _ (List.mem_append_left _ (List.mem_append_right _ (List.mem_append_right _ (List.mem_append_right _ (List.mem_append_right _ (List.mem_append_left _ (List.mem_of_getElem? (i := 21) rfl)))))))) (sub_cons (List.mem_cons_of_mem _ (List.mem_append_left _ (List.mem_append_right _ (List.mem_append_right _ (List.mem_append_right _ (List.mem_append_right _ (List.mem_append_left _ (List.mem_of_getElem? (i := 22) rfl)))))))) (sub_cons (List.mem_cons_of_mem _ (List.mem_append_left _ (List.mem_append_right _ (List.mem_append_right _ (List.mem_append_right _ (List.mem_append_right _ (List.mem_append_left _ (List.mem_of_getElem? (i := 23) rfl)))))))) (sub_cons (List.mem_cons_of_mem _ (List.mem_append_left _ (List.mem_append_right _ (List.mem_append_right _ (List.mem_append_right _ (List.mem_append_right _ (List.mem_append_right _ (List.mem_of_getElem? (i := 0) rfl)))))))) sub_nil)))))))))))))))))))))))) (fun w h9 => (List.mem_cons_of_mem _ (List.mem_append_right _ h9))))) gw_X6_advance
set_option maxRecDepth 20000 in
theorem gX6_rewind_X6_advance : GoodIn wsX6_rewind (wsV RX6 50 RX6 yX6_advance wsX6_advance) := goodIn_app (goodIn_sub (sub_cons (List.mem_cons_of_mem _ (List.mem_append_left _ (List.mem_append_left _ (List.mem_of_getElem? (i := 2) rfl)))) (sub_cons (List.mem_cons_of_mem _ (List.mem_append_left _ (List.mem_append_left _ (List.mem_of_getElem? (i := 3) rfl)))) (sub_cons (List.mem_cons_of_mem _ (List.mem_append_left _ (List.mem_append_left _ (List.mem_of_getElem? (i := 4) rfl)))) (sub_cons (List.mem_cons_of_mem _ (List.mem_append_left _ (List.mem_append_left _ (List.mem_of_getElem? (i := 5) rfl)))) sub_nil)))) (by decide +kernel)) ggX6_rewind_X6_advance
set_option maxHeartbeats 4000000 in
set_option maxRecDepth 100000 in
theorem sX6_rewind (l : Launch) (D : va_G) (k : Nat → ClassId) (a0 sa sv : Nat) (f : Nat → Int32) (sz : Nat) (ta : Nat) (ta_signs : Nat) (ta_words : Nat) (ta_length : Nat) (ta_next : Nat) (ta_place : Int32) (ta_kind : Int32) (ta_value : Int32) (ta_letters : Int64) (ta_fault : Int32) (ta_signsF : Nat → Int32) (ta_wordsF : Nat → Int64) (h_ta_length : ta_length ≤ 1000) (h_ta_next : ta_next ≤ 1000) : Met l yX6_rewind wsX6_rewind ({ frames := 5, cells := 0, slots := 0, locals := 350 }) (va_Pc [.ref ta] (kz_PreY D k [(ta, kO 6 [.ref ta_signs, .ref ta_words, .int (nI ta_length), .int (nI ta_next), .int ta_place, .int ta_kind, .int ta_value, .long ta_letters, .int ta_fault]), (ta_signs, kB k 1000 ta_signsF), (ta_words, kJ k 23 ta_wordsF)] a0 sa sv f sz)) (va_Qv (fun (uu : Nat × Int32 × Int32 × Int32 × Int64 × Int32) => (uu.1 ≤ 1000) ∧ ((uu.1, uu.2.1, uu.2.2.1, uu.2.2.2.1, uu.2.2.2.2.1, uu.2.2.2.2.2) = (fX6_rewind ta_length ta_letters ta_signsF ta_wordsF f))) (fun uu zt => kz_B D (va_A [(ta, kO 6 [.ref ta_signs, .ref ta_words, .int (nI ta_length), .int (nI ta_next), .int ta_place, .int ta_kind, .int ta_value, .long ta_letters, .int ta_fault]), (ta_signs, kB k 1000 ta_signsF), (ta_words, kJ k 23 ta_wordsF)] sz) [(ta, kO 6 [.ref ta_signs, .ref ta_words, .int (nI ta_length), .int (nI uu.1), .int uu.2.1, .int uu.2.2.1, .int uu.2.2.2.1, .long uu.2.2.2.2.1, .int uu.2.2.2.2.2]), (ta_signs, kB k 1000 ta_signsF), (ta_words, kJ k 23 ta_wordsF)] zt) (va_A [(ta, kO 6 [.ref ta_signs, .ref ta_words, .int (nI ta_length), .int (nI ta_next), .int ta_place, .int ta_kind, .int ta_value, .long ta_letters, .int ta_fault]), (ta_signs, kB k 1000 ta_signsF), (ta_words, kJ k 23 ta_wordsF)] sz)) 0 0 (va_A [(ta, kO 6 [.ref ta_signs, .ref ta_words, .int (nI ta_length), .int (nI ta_next), .int ta_place, .int ta_kind, .int ta_value, .long ta_letters, .int ta_fault]), (ta_signs, kB k 1000 ta_signsF), (ta_words, kJ k 23 ta_wordsF)] sz) := by
  refine Met.ofW (cc := cX6_rewind) (maxL := 1) (ret := none) (by decide) rfl ?_
  intro p e s m args below meth c s₁ B hml hv
  obtain ⟨hav, ⟨hsz, hP, hK, hD0, hE⟩, ha0, hDa, hX⟩ := hv
  have hx := B.exec
  have hb := B.bytes
  have hr := B.returns
  have hts := atoms_spec (ws := wsX6_rewind) B.pre
  have hown : s.vm.findClass RX6 = some m.cls := findClass_of_methodNamed B.named
  have hlocks := B.notSynchronized
  have hi6 : ∀ w ∈ u_ws RX6 TX6 9, w ∈ wsX6_rewind := fun w h9 => List.mem_cons_of_mem _ (List.mem_append_right _ h9)
  have lf44 := hts (.fieldLink RX6 44 "LastCook$Tape" "next" "I") (List.mem_cons_of_mem _ (List.mem_append_left _ (List.mem_append_left _ (List.mem_of_getElem? (i := 0) rfl))))
  have lf47 := hts (.fieldLink RX6 47 "LastCook$Tape" "fault" "I") (List.mem_cons_of_mem _ (List.mem_append_left _ (List.mem_append_left _ (List.mem_of_getElem? (i := 1) rfl))))
  subst hsz
  have hD := hD0.self (sz := s.heap.size)
  generalize hAe : va_A [(ta, kO 6 [.ref ta_signs, .ref ta_words, .int (nI ta_length), .int (nI ta_next), .int ta_place, .int ta_kind, .int ta_value, .long ta_letters, .int ta_fault]), (ta_signs, kB k 1000 ta_signsF), (ta_words, kJ k 23 ta_wordsF)] s.heap.size = A at hD ⊢
  have hA : ∀ q : Nat, s.heap.size ≤ q → A q := fun q h => by rw [← hAe]; exact Or.inr h
  have hAX : ∀ q, A q → a0 ≤ q := fun q h => by rw [← hAe] at h; exact h.elim (fun ⟨k9, e9, h9⟩ => hDa.2 k9 _ h9) (fun e => Nat.le_trans ha0 e)
  obtain ⟨tx71, hR71⟩ := hX.1
  have hS : va_S A s.heap s.heap [] := va_S.rf
  have hl := lv_entry ([.ref ta]) (n := 1) (Nat.le_of_ble_eq_true rfl)
  rw [show entryFrame m args 1 = entryFrame m ([.ref ta] : List Value).toArray 1 by rw [hav], lg_entry_eq]
  generalize (lg_sl ([.ref ta]) ++ List.replicate (1 - (lg_sl ([.ref ta])).length) Slot.unset).toArray = ls at hl ⊢
  have hl : lv_has ls 1 [(0, .ref ta)] := hl
  obtain ⟨R, hR⟩ : ∃ R, R = (headSpec wsX6_rewind ({ frames := 5, cells := 0, slots := 0, locals := 350 } : Room)).room := ⟨_, rfl⟩
  rw [← hR]
  generalize hQ : MQ below _ args s 0 0 A = Q
  replace hQ := hQ.symm
  obtain ⟨H, hH⟩ : ∃ H, H = s.heap := ⟨_, rfl⟩
  rw [← hH] at hP ⊢
  have hS : va_S A s.heap H [] := by rw [hH]; exact hS
  obtain ⟨E0, hE0⟩ : ∃ E0 : Nat × Int32 × Int32 × Int32 × Int64 × Int32, E0 = (fX6_rewind ta_length ta_letters ta_signsF ta_wordsF f) := ⟨_, rfl⟩
  have hZ : (fX6_rewind ta_length ta_letters ta_signsF ta_wordsF f) = E0 := hE0.symm
  refine lv_aload_n hx hb dX6_rewind_0 rfl (lv_at hl 0 rfl) ?_
  refine lv_iconst (v := 0) hx hb dX6_rewind_1 (by decide) ?_
  refine va_put (D := D) (ci := 6) (v := .int 0) (ty := .int) (C := RX6) (T := TX6) (N := 9) hx hb hts hi6 tyX6 tyX6_ok nmX6 hown hK hP hD hS 0 rfl rfl 3 (by decide) lf44 (fun _ h9 => h9) rfl (by decide +kernel) rfl rfl (Nat.le_of_ble_eq_true rfl) dX6_rewind_2 (fun H locs hP hD hS => ?_)
  exact by
   have hP : va_P D vwCl [(ta, kO 6 [.ref ta_signs, .ref ta_words, .int (nI ta_length), .int 0, .int ta_place, .int ta_kind, .int ta_value, .long ta_letters, .int ta_fault]), (ta_signs, kB k 1000 ta_signsF), (ta_words, kJ k 23 ta_wordsF)] H := hP
   have hD : va_D A [(ta, kO 6 [.ref ta_signs, .ref ta_words, .int (nI ta_length), .int 0, .int ta_place, .int ta_kind, .int ta_value, .long ta_letters, .int ta_fault]), (ta_signs, kB k 1000 ta_signsF), (ta_words, kJ k 23 ta_wordsF)] := hD
   refine lv_aload_n hx hb dX6_rewind_5 rfl (lv_at hl 0 rfl) ?_
   refine lv_iconst (v := 0) hx hb dX6_rewind_6 (by decide) ?_
   refine va_put (D := D) (ci := 6) (v := .int 0) (ty := .int) (C := RX6) (T := TX6) (N := 9) hx hb hts hi6 tyX6 tyX6_ok nmX6 hown hK hP hD hS 0 rfl rfl 8 (by decide) lf47 (fun _ h9 => h9) rfl (by decide +kernel) rfl rfl (Nat.le_of_ble_eq_true rfl) dX6_rewind_7 (fun H locs hP hD hS => ?_)
   exact by
    have hP : va_P D vwCl [(ta, kO 6 [.ref ta_signs, .ref ta_words, .int (nI ta_length), .int 0, .int ta_place, .int ta_kind, .int ta_value, .long ta_letters, .int 0]), (ta_signs, kB k 1000 ta_signsF), (ta_words, kJ k 23 ta_wordsF)] H := hP
    have hD : va_D A [(ta, kO 6 [.ref ta_signs, .ref ta_words, .int (nI ta_length), .int 0, .int ta_place, .int ta_kind, .int ta_value, .long ta_letters, .int 0]), (ta_signs, kB k 1000 ta_signsF), (ta_words, kJ k 23 ta_wordsF)] := hD
    refine lv_aload_n hx hb dX6_rewind_10 rfl (lv_at hl 0 rfl) ?_
    refine kz_VvY (As := []) (rest := []) (wc := [(ta, kO 6 [.ref ta_signs, .ref ta_words, .int (nI ta_length), .int (nI 0), .int ta_place, .int ta_kind, .int ta_value, .long ta_letters, .int 0]), (ta_signs, kB k 1000 ta_signsF), (ta_words, kJ k 23 ta_wordsF)]) (wr := []) ⟨hx, hb, hml, hown, hts⟩ hX hAX ha0 hK hE hP hD hS hA (sX6_advance l D k a0 sa sv f H.size ta ta_signs ta_words ta_length 0 ta_place ta_kind ta_value ta_letters 0 ta_signsF ta_wordsF (by first | omega | assumption | decide) (by first | omega | assumption | decide)) (cwV 0 hts gX6_rewind_X6_advance rfl rfl rfl (by decide +kernel) (by rw [hR]; exact ⟨Nat.le_of_ble_eq_true rfl, Nat.le_of_ble_eq_true rfl⟩)) [0, 1, 2] [] rfl rfl (by decide +kernel) (by decide +kernel) (by decide +kernel) 0 rfl rfl rfl hl.1 rfl (Nat.le_of_ble_eq_true rfl) dX6_rewind_11 (by rw [hR]; exact ⟨Nat.le_of_ble_eq_true rfl, Nat.le_of_ble_eq_true rfl⟩) (fun u1 H locs hw1 hP hD hS => ?_)
    exact by
     obtain ⟨u_ta_31, u_ta_41, u_ta_51, u_ta_61, u_ta_71⟩ := u1
     try dsimp only at hw1
     have hP : va_P D vwCl [(ta, kO 6 [.ref ta_signs, .ref ta_words, .int (nI ta_length), .int (nI u_ta_31), .int u_ta_41, .int u_ta_51, .int u_ta_61, .long u_ta_71, .int 0]), (ta_signs, kB k 1000 ta_signsF), (ta_words, kJ k 23 ta_wordsF)] H := hP
     have hD : va_D A [(ta, kO 6 [.ref ta_signs, .ref ta_words, .int (nI ta_length), .int (nI u_ta_31), .int u_ta_41, .int u_ta_51, .int u_ta_61, .long u_ta_71, .int 0]), (ta_signs, kB k 1000 ta_signsF), (ta_words, kJ k 23 ta_wordsF)] := hD
     obtain ⟨hw1_0, hw1_1⟩ := hw1
     have hZ := bn5_e hw1_1 hZ
     rw [hQ]
     have hP9 := hP.sub (ws' := [(ta, kO 6 [.ref ta_signs, .ref ta_words, .int (nI ta_length), .int (nI u_ta_31), .int u_ta_41, .int u_ta_51, .int u_ta_61, .long u_ta_71, .int (0 : Int32)]), (ta_signs, kB k 1000 ta_signsF), (ta_words, kJ k 23 ta_wordsF)]) [0, 1, 2] rfl
     have hD9 := hD.sub (ws' := [(ta, kO 6 [.ref ta_signs, .ref ta_words, .int (nI ta_length), .int (nI u_ta_31), .int u_ta_41, .int u_ta_51, .int u_ta_61, .long u_ta_71, .int (0 : Int32)]), (ta_signs, kB k 1000 ta_signsF), (ta_words, kJ k 23 ta_wordsF)]) [0, 1, 2] (by decide +kernel) rfl
     exact W.vret hx hb hr (fun zt ht hW => ⟨⟨⟨u_ta_31, u_ta_41, u_ta_51, u_ta_61, u_ta_71, (0 : Int32)⟩, rfl, ⟨(by first | omega | (dsimp only; omega) | assumption), (hZ.trans hE0)⟩, by rw [ht]; exact hP9, hD9⟩, hS.F ht⟩) hS.2.2 dX6_rewind_14
theorem dX6_isAtEnd_0 : decode cX6_isAtEnd 0 = .ok (.aload_n 0, 1) := dk_aload_n_0 (by decide +kernel)
theorem dX6_isAtEnd_1 : decode cX6_isAtEnd 1 = .ok (.getfield 59, 3) := dk_getfield (by decide +kernel)
theorem dX6_isAtEnd_4 : decode cX6_isAtEnd 4 = .ok (.ifCond .ne 7, 3) := dk_ifCond_ne (by decide +kernel)
theorem dX6_isAtEnd_7 : decode cX6_isAtEnd 7 = .ok (.iconst 1, 1) := dk_iconst_1 (by decide +kernel)
theorem dX6_isAtEnd_8 : decode cX6_isAtEnd 8 = .ok (.goto 4, 3) := dk_goto (by decide +kernel)
theorem dX6_isAtEnd_11 : decode cX6_isAtEnd 11 = .ok (.iconst 0, 1) := dk_iconst_0 (by decide +kernel)
theorem dX6_isAtEnd_12 : decode cX6_isAtEnd 12 = .ok (.ireturn, 1) := dk_ireturn (by decide +kernel)
set_option maxHeartbeats 4000000 in
set_option maxRecDepth 100000 in
theorem sX6_isAtEnd (l : Launch) (D : va_G) (k : Nat → ClassId) (sz : Nat) (ta : Nat) (ta_signs : Nat) (ta_words : Nat) (ta_length : Nat) (ta_next : Nat) (ta_place : Int32) (ta_kind : Int32) (ta_value : Int32) (ta_letters : Int64) (ta_fault : Int32) (h_ta_length : ta_length ≤ 1000) (h_ta_next : ta_next ≤ 1000) : Met l yX6_isAtEnd wsX6_isAtEnd ({ frames := 0, cells := 0, slots := 0, locals := 0 }) (va_Pc [.ref ta] (kz_Pre D k [(ta, kO 6 [.ref ta_signs, .ref ta_words, .int (nI ta_length), .int (nI ta_next), .int ta_place, .int ta_kind, .int ta_value, .long ta_letters, .int ta_fault])] sz)) (va_Qi (fun (rr : Int32) (uu : Bool) => rr = bB uu ∧ ((uu) = (fX6_isAtEnd ta_kind))) (fun uu zt => kz_B D (va_A [(ta, kO 6 [.ref ta_signs, .ref ta_words, .int (nI ta_length), .int (nI ta_next), .int ta_place, .int ta_kind, .int ta_value, .long ta_letters, .int ta_fault])] sz) [(ta, kO 6 [.ref ta_signs, .ref ta_words, .int (nI ta_length), .int (nI ta_next), .int ta_place, .int ta_kind, .int ta_value, .long ta_letters, .int ta_fault])] zt) (va_A [(ta, kO 6 [.ref ta_signs, .ref ta_words, .int (nI ta_length), .int (nI ta_next), .int ta_place, .int ta_kind, .int ta_value, .long ta_letters, .int ta_fault])] sz)) 0 0 (va_A [(ta, kO 6 [.ref ta_signs, .ref ta_words, .int (nI ta_length), .int (nI ta_next), .int ta_place, .int ta_kind, .int ta_value, .long ta_letters, .int ta_fault])] sz) := by
  refine Met.ofW (cc := cX6_isAtEnd) (maxL := 1) (ret := (some .boolean)) (by decide) rfl ?_
  intro p e s m args below meth c s₁ B hml hv
  obtain ⟨hav, hsz, hP, hK, hD0, hE⟩ := hv
  have hx := B.exec
  have hb := B.bytes
  have hr := B.returns
  have hts := atoms_spec (ws := wsX6_isAtEnd) B.pre
  have hown : s.vm.findClass RX6 = some m.cls := findClass_of_methodNamed B.named
  have hlocks := B.notSynchronized
  have hi6 : ∀ w ∈ u_ws RX6 TX6 9, w ∈ wsX6_isAtEnd := fun w h9 => List.mem_cons_of_mem _ (List.mem_append_right _ h9)
  have lf59 := hts (.fieldLink RX6 59 "LastCook$Tape" "kind" "I") (List.mem_cons_of_mem _ (List.mem_append_left _ (List.mem_of_getElem? (i := 0) rfl)))
  subst hsz
  have hD := hD0.self (sz := s.heap.size)
  generalize hAe : va_A [(ta, kO 6 [.ref ta_signs, .ref ta_words, .int (nI ta_length), .int (nI ta_next), .int ta_place, .int ta_kind, .int ta_value, .long ta_letters, .int ta_fault])] s.heap.size = A at hD ⊢
  have hA : ∀ q : Nat, s.heap.size ≤ q → A q := fun q h => by rw [← hAe]; exact Or.inr h
  have hS : va_S A s.heap s.heap [] := va_S.rf
  have hl := lv_entry ([.ref ta]) (n := 1) (Nat.le_of_ble_eq_true rfl)
  rw [show entryFrame m args 1 = entryFrame m ([.ref ta] : List Value).toArray 1 by rw [hav], lg_entry_eq]
  generalize (lg_sl ([.ref ta]) ++ List.replicate (1 - (lg_sl ([.ref ta])).length) Slot.unset).toArray = ls at hl ⊢
  have hl : lv_has ls 1 [(0, .ref ta)] := hl
  obtain ⟨R, hR⟩ : ∃ R, R = (headSpec wsX6_isAtEnd ({ frames := 0, cells := 0, slots := 0, locals := 0 } : Room)).room := ⟨_, rfl⟩
  rw [← hR]
  generalize hQ : MQ below _ args s 0 0 A = Q
  replace hQ := hQ.symm
  obtain ⟨H, hH⟩ : ∃ H, H = s.heap := ⟨_, rfl⟩
  rw [← hH] at hP ⊢
  have hS : va_S A s.heap H [] := by rw [hH]; exact hS
  obtain ⟨E0, hE0⟩ : ∃ E0 : Bool, E0 = (fX6_isAtEnd ta_kind) := ⟨_, rfl⟩
  have hZ : (fX6_isAtEnd ta_kind) = E0 := hE0.symm
  refine lv_aload_n hx hb dX6_isAtEnd_0 rfl (lv_at hl 0 rfl) ?_
  refine va_get (D := D) (ci := 6) (v := .int ta_kind) (C := RX6) (T := TX6) (N := 9) hx hb hts hi6 hown hK hP 0 rfl rfl 5 (by decide) lf59 (fun _ h9 => h9) rfl dX6_isAtEnd_1 ?_
  have hj12_1 : ∀ (s0_12 : Bool) (H : Heap) (locs : List Loc) (ls : Array Slot), (fX6_isAtEnd_J12a s0_12 = E0) → va_P D vwCl [(ta, kO 6 [.ref ta_signs, .ref ta_words, .int (nI ta_length), .int (nI ta_next), .int ta_place, .int ta_kind, .int ta_value, .long ta_letters, .int ta_fault])] H → va_D A [(ta, kO 6 [.ref ta_signs, .ref ta_words, .int (nI ta_length), .int (nI ta_next), .int ta_place, .int ta_kind, .int ta_value, .long ta_letters, .int ta_fault])] → va_S A s.heap H locs → lv_has ls 1 [(0, .ref ta)] → W p l e R s m args below meth c H locs 0 0 Q (F0 m 12 ls [.int (bB s0_12)]) := by
    intro s0_12 H locs ls hZ hP hD hS hl
    rw [hQ]
    have hP9 := hP.sub (ws' := [(ta, kO 6 [.ref ta_signs, .ref ta_words, .int (nI ta_length), .int (nI ta_next), .int ta_place, .int ta_kind, .int ta_value, .long ta_letters, .int ta_fault])]) [0] rfl
    have hD9 := hD.sub (ws' := [(ta, kO 6 [.ref ta_signs, .ref ta_words, .int (nI ta_length), .int (nI ta_next), .int ta_place, .int ta_kind, .int ta_value, .long ta_letters, .int ta_fault])]) [0] (by decide +kernel) rfl
    exact W.zret (v := (bB s0_12)) hx hb hr (narrow_bB _) (fun zt ht hW => ⟨⟨(bB s0_12), s0_12, rfl, ⟨rfl, (hZ.trans hE0)⟩, by rw [ht]; exact hP9, hD9⟩, hS.F ht⟩) hS.2.2 dX6_isAtEnd_12
  refine lv_if_ne (tgt := 11) hx hb dX6_isAtEnd_4 (by decide) (fun c_2 => ?_) (fun c_2 => ?_)
  · exact by
     have t_2 : (Int32.toInt ta_kind) ≠ 0 := tI_ne rfl (by decide) c_2
     have hZ := (if_neg c_2).symm.trans hZ
     refine lv_iconst (v := 0) hx hb dX6_isAtEnd_11 (by decide) ?_
     exact hj12_1 false _ _ _ hZ (hP.sub [0] rfl) (hD.sub [0] (by decide +kernel) rfl) hS (lv_sub hl [0] rfl)
  · exact by
     have t_2 : (Int32.toInt ta_kind) = 0 := tI_eq rfl (by decide) c_2
     have hZ := (if_pos c_2).symm.trans hZ
     refine lv_iconst (v := 1) hx hb dX6_isAtEnd_7 (by decide) ?_
     refine lv_goto (tgt := 12) hx hb dX6_isAtEnd_8 (by decide) ?_
     exact hj12_1 true _ _ _ hZ (hP.sub [0] rfl) (hD.sub [0] (by decide +kernel) rfl) hS (lv_sub hl [0] rfl)
theorem dX6_isName_0 : decode cX6_isName 0 = .ok (.aload_n 0, 1) := dk_aload_n_0 (by decide +kernel)
theorem dX6_isName_1 : decode cX6_isName 1 = .ok (.getfield 59, 3) := dk_getfield (by decide +kernel)
theorem dX6_isName_4 : decode cX6_isName 4 = .ok (.iconst 1, 1) := dk_iconst_1 (by decide +kernel)
theorem dX6_isName_5 : decode cX6_isName 5 = .ok (.if_icmp .ne 24, 3) := dk_if_icmp_ne (by decide +kernel)
theorem dX6_isName_8 : decode cX6_isName 8 = .ok (.aload_n 0, 1) := dk_aload_n_0 (by decide +kernel)
theorem dX6_isName_9 : decode cX6_isName 9 = .ok (.getfield 56, 3) := dk_getfield (by decide +kernel)
theorem dX6_isName_12 : decode cX6_isName 12 = .ok (.iconst (-1), 1) := dk_iconst_m1 (by decide +kernel)
theorem dX6_isName_13 : decode cX6_isName 13 = .ok (.if_icmp .eq 12, 3) := dk_if_icmp_eq (by decide +kernel)
theorem dX6_isName_16 : decode cX6_isName 16 = .ok (.aload_n 0, 1) := dk_aload_n_0 (by decide +kernel)
theorem dX6_isName_17 : decode cX6_isName 17 = .ok (.getfield 56, 3) := dk_getfield (by decide +kernel)
theorem dX6_isName_20 : decode cX6_isName 20 = .ok (.bipush 19, 2) := dk_bipush (by decide +kernel)
theorem dX6_isName_22 : decode cX6_isName 22 = .ok (.if_icmp .lt 7, 3) := dk_if_icmp_lt (by decide +kernel)
theorem dX6_isName_25 : decode cX6_isName 25 = .ok (.iconst 1, 1) := dk_iconst_1 (by decide +kernel)
theorem dX6_isName_26 : decode cX6_isName 26 = .ok (.goto 4, 3) := dk_goto (by decide +kernel)
theorem dX6_isName_29 : decode cX6_isName 29 = .ok (.iconst 0, 1) := dk_iconst_0 (by decide +kernel)
theorem dX6_isName_30 : decode cX6_isName 30 = .ok (.ireturn, 1) := dk_ireturn (by decide +kernel)
set_option maxHeartbeats 4000000 in
set_option maxRecDepth 100000 in
theorem sX6_isName (l : Launch) (D : va_G) (k : Nat → ClassId) (sz : Nat) (ta : Nat) (ta_signs : Nat) (ta_words : Nat) (ta_length : Nat) (ta_next : Nat) (ta_place : Int32) (ta_kind : Int32) (ta_value : Int32) (ta_letters : Int64) (ta_fault : Int32) (h_ta_length : ta_length ≤ 1000) (h_ta_next : ta_next ≤ 1000) : Met l yX6_isName wsX6_isName ({ frames := 0, cells := 0, slots := 0, locals := 0 }) (va_Pc [.ref ta] (kz_Pre D k [(ta, kO 6 [.ref ta_signs, .ref ta_words, .int (nI ta_length), .int (nI ta_next), .int ta_place, .int ta_kind, .int ta_value, .long ta_letters, .int ta_fault])] sz)) (va_Qi (fun (rr : Int32) (uu : Bool) => rr = bB uu ∧ ((uu) = (fX6_isName ta_kind ta_value))) (fun uu zt => kz_B D (va_A [(ta, kO 6 [.ref ta_signs, .ref ta_words, .int (nI ta_length), .int (nI ta_next), .int ta_place, .int ta_kind, .int ta_value, .long ta_letters, .int ta_fault])] sz) [(ta, kO 6 [.ref ta_signs, .ref ta_words, .int (nI ta_length), .int (nI ta_next), .int ta_place, .int ta_kind, .int ta_value, .long ta_letters, .int ta_fault])] zt) (va_A [(ta, kO 6 [.ref ta_signs, .ref ta_words, .int (nI ta_length), .int (nI ta_next), .int ta_place, .int ta_kind, .int ta_value, .long ta_letters, .int ta_fault])] sz)) 0 0 (va_A [(ta, kO 6 [.ref ta_signs, .ref ta_words, .int (nI ta_length), .int (nI ta_next), .int ta_place, .int ta_kind, .int ta_value, .long ta_letters, .int ta_fault])] sz) := by
  refine Met.ofW (cc := cX6_isName) (maxL := 1) (ret := (some .boolean)) (by decide) rfl ?_
  intro p e s m args below meth c s₁ B hml hv
  obtain ⟨hav, hsz, hP, hK, hD0, hE⟩ := hv
  have hx := B.exec
  have hb := B.bytes
  have hr := B.returns
  have hts := atoms_spec (ws := wsX6_isName) B.pre
  have hown : s.vm.findClass RX6 = some m.cls := findClass_of_methodNamed B.named
  have hlocks := B.notSynchronized
  have hi6 : ∀ w ∈ u_ws RX6 TX6 9, w ∈ wsX6_isName := fun w h9 => List.mem_cons_of_mem _ (List.mem_append_right _ h9)
  have lf59 := hts (.fieldLink RX6 59 "LastCook$Tape" "kind" "I") (List.mem_cons_of_mem _ (List.mem_append_left _ (List.mem_of_getElem? (i := 0) rfl)))
  have lf56 := hts (.fieldLink RX6 56 "LastCook$Tape" "value" "I") (List.mem_cons_of_mem _ (List.mem_append_left _ (List.mem_of_getElem? (i := 1) rfl)))
  subst hsz
  have hD := hD0.self (sz := s.heap.size)
  generalize hAe : va_A [(ta, kO 6 [.ref ta_signs, .ref ta_words, .int (nI ta_length), .int (nI ta_next), .int ta_place, .int ta_kind, .int ta_value, .long ta_letters, .int ta_fault])] s.heap.size = A at hD ⊢
  have hA : ∀ q : Nat, s.heap.size ≤ q → A q := fun q h => by rw [← hAe]; exact Or.inr h
  have hS : va_S A s.heap s.heap [] := va_S.rf
  have hl := lv_entry ([.ref ta]) (n := 1) (Nat.le_of_ble_eq_true rfl)
  rw [show entryFrame m args 1 = entryFrame m ([.ref ta] : List Value).toArray 1 by rw [hav], lg_entry_eq]
  generalize (lg_sl ([.ref ta]) ++ List.replicate (1 - (lg_sl ([.ref ta])).length) Slot.unset).toArray = ls at hl ⊢
  have hl : lv_has ls 1 [(0, .ref ta)] := hl
  obtain ⟨R, hR⟩ : ∃ R, R = (headSpec wsX6_isName ({ frames := 0, cells := 0, slots := 0, locals := 0 } : Room)).room := ⟨_, rfl⟩
  rw [← hR]
  generalize hQ : MQ below _ args s 0 0 A = Q
  replace hQ := hQ.symm
  obtain ⟨H, hH⟩ : ∃ H, H = s.heap := ⟨_, rfl⟩
  rw [← hH] at hP ⊢
  have hS : va_S A s.heap H [] := by rw [hH]; exact hS
  obtain ⟨E0, hE0⟩ : ∃ E0 : Bool, E0 = (fX6_isName ta_kind ta_value) := ⟨_, rfl⟩
  have hZ : (fX6_isName ta_kind ta_value) = E0 := hE0.symm
  refine lv_aload_n hx hb dX6_isName_0 rfl (lv_at hl 0 rfl) ?_
  refine va_get (D := D) (ci := 6) (v := .int ta_kind) (C := RX6) (T := TX6) (N := 9) hx hb hts hi6 hown hK hP 0 rfl rfl 5 (by decide) lf59 (fun _ h9 => h9) rfl dX6_isName_1 ?_
  refine lv_iconst (v := 1) hx hb dX6_isName_4 (by decide) ?_
  have hj30_1 : ∀ (s0_30 : Bool) (H : Heap) (locs : List Loc) (ls : Array Slot), (fX6_isName_J30a s0_30 = E0) → va_P D vwCl [(ta, kO 6 [.ref ta_signs, .ref ta_words, .int (nI ta_length), .int (nI ta_next), .int ta_place, .int ta_kind, .int ta_value, .long ta_letters, .int ta_fault])] H → va_D A [(ta, kO 6 [.ref ta_signs, .ref ta_words, .int (nI ta_length), .int (nI ta_next), .int ta_place, .int ta_kind, .int ta_value, .long ta_letters, .int ta_fault])] → va_S A s.heap H locs → lv_has ls 1 [(0, .ref ta)] → W p l e R s m args below meth c H locs 0 0 Q (F0 m 30 ls [.int (bB s0_30)]) := by
    intro s0_30 H locs ls hZ hP hD hS hl
    rw [hQ]
    have hP9 := hP.sub (ws' := [(ta, kO 6 [.ref ta_signs, .ref ta_words, .int (nI ta_length), .int (nI ta_next), .int ta_place, .int ta_kind, .int ta_value, .long ta_letters, .int ta_fault])]) [0] rfl
    have hD9 := hD.sub (ws' := [(ta, kO 6 [.ref ta_signs, .ref ta_words, .int (nI ta_length), .int (nI ta_next), .int ta_place, .int ta_kind, .int ta_value, .long ta_letters, .int ta_fault])]) [0] (by decide +kernel) rfl
    exact W.zret (v := (bB s0_30)) hx hb hr (narrow_bB _) (fun zt ht hW => ⟨⟨(bB s0_30), s0_30, rfl, ⟨rfl, (hZ.trans hE0)⟩, by rw [ht]; exact hP9, hD9⟩, hS.F ht⟩) hS.2.2 dX6_isName_30
  have hj29_2 : ∀ (H : Heap) (locs : List Loc) (ls : Array Slot), (fX6_isName_J29a = E0) → va_P D vwCl [(ta, kO 6 [.ref ta_signs, .ref ta_words, .int (nI ta_length), .int (nI ta_next), .int ta_place, .int ta_kind, .int ta_value, .long ta_letters, .int ta_fault])] H → va_D A [(ta, kO 6 [.ref ta_signs, .ref ta_words, .int (nI ta_length), .int (nI ta_next), .int ta_place, .int ta_kind, .int ta_value, .long ta_letters, .int ta_fault])] → va_S A s.heap H locs → lv_has ls 1 [(0, .ref ta)] → W p l e R s m args below meth c H locs 0 0 Q (F0 m 29 ls []) := by
    intro H locs ls hZ hP hD hS hl
    refine lv_iconst (v := 0) hx hb dX6_isName_29 (by decide) ?_
    exact hj30_1 false _ _ _ hZ (hP.sub [0] rfl) (hD.sub [0] (by decide +kernel) rfl) hS (lv_sub hl [0] rfl)
  refine lv_icmp_ne (tgt := 29) hx hb dX6_isName_5 (by decide) (fun c_3 => ?_) (fun c_3 => ?_)
  · exact by
     have t_3 : (Int32.toInt ta_kind) ≠ 1 := tI_ne rfl (by decide) c_3
     have hZ := (if_neg c_3).symm.trans hZ
     exact hj29_2 _ _ _ hZ (hP.sub [0] rfl) (hD.sub [0] (by decide +kernel) rfl) hS (lv_sub hl [0] rfl)
  · exact by
     have t_3 : (Int32.toInt ta_kind) = 1 := tI_eq rfl (by decide) c_3
     have hZ := (if_pos c_3).symm.trans hZ
     refine lv_aload_n hx hb dX6_isName_8 rfl (lv_at hl 0 rfl) ?_
     refine va_get (D := D) (ci := 6) (v := .int ta_value) (C := RX6) (T := TX6) (N := 9) hx hb hts hi6 hown hK hP 0 rfl rfl 6 (by decide) lf56 (fun _ h9 => h9) rfl dX6_isName_9 ?_
     refine lv_iconst (v := (-1)) hx hb dX6_isName_12 (by decide) ?_
     have hj25_4 : ∀ (H : Heap) (locs : List Loc) (ls : Array Slot), (fX6_isName_J25a = E0) → va_P D vwCl [(ta, kO 6 [.ref ta_signs, .ref ta_words, .int (nI ta_length), .int (nI ta_next), .int ta_place, .int ta_kind, .int ta_value, .long ta_letters, .int ta_fault])] H → va_D A [(ta, kO 6 [.ref ta_signs, .ref ta_words, .int (nI ta_length), .int (nI ta_next), .int ta_place, .int ta_kind, .int ta_value, .long ta_letters, .int ta_fault])] → va_S A s.heap H locs → lv_has ls 1 [(0, .ref ta)] → W p l e R s m args below meth c H locs 0 0 Q (F0 m 25 ls []) := by
       intro H locs ls hZ hP hD hS hl
       refine lv_iconst (v := 1) hx hb dX6_isName_25 (by decide) ?_
       refine lv_goto (tgt := 30) hx hb dX6_isName_26 (by decide) ?_
       exact hj30_1 true _ _ _ hZ (hP.sub [0] rfl) (hD.sub [0] (by decide +kernel) rfl) hS (lv_sub hl [0] rfl)
     refine lv_icmp_eq (tgt := 25) hx hb dX6_isName_13 (by decide) (fun c_5 => ?_) (fun c_5 => ?_)
     · exact by
        have t_5 : (Int32.toInt ta_value) = (-1) := tI_eq rfl (by decide) c_5
        have hZ := (if_pos c_5).symm.trans hZ
        exact hj25_4 _ _ _ hZ (hP.sub [0] rfl) (hD.sub [0] (by decide +kernel) rfl) hS (lv_sub hl [0] rfl)
     · exact by
        have t_5 : (Int32.toInt ta_value) ≠ (-1) := tI_ne rfl (by decide) c_5
        have hZ := (if_neg c_5).symm.trans hZ
        refine lv_aload_n hx hb dX6_isName_16 rfl (lv_at hl 0 rfl) ?_
        refine va_get (D := D) (ci := 6) (v := .int ta_value) (C := RX6) (T := TX6) (N := 9) hx hb hts hi6 hown hK hP 0 rfl rfl 6 (by decide) lf56 (fun _ h9 => h9) rfl dX6_isName_17 ?_
        refine lv_bipush (v := 19) hx hb dX6_isName_20 (by decide) ?_
        refine lv_icmp_lt (tgt := 29) hx hb dX6_isName_22 (by decide) (fun c_6 => ?_) (fun c_6 => ?_)
        · exact by
           have t_6 : (Int32.toInt ta_value) < 19 := tI_lt rfl (by decide) c_6
           have hZ := (if_pos c_6).symm.trans hZ
           exact hj29_2 _ _ _ hZ (hP.sub [0] rfl) (hD.sub [0] (by decide +kernel) rfl) hS (lv_sub hl [0] rfl)
        · exact by
           have t_6 : (Int32.toInt ta_value) ≥ 19 := tI_nlt rfl (by decide) c_6
           have hZ := (if_neg c_6).symm.trans hZ
           exact hj25_4 _ _ _ hZ (hP.sub [0] rfl) (hD.sub [0] (by decide +kernel) rfl) hS (lv_sub hl [0] rfl)
theorem dX6_isNumber_0 : decode cX6_isNumber 0 = .ok (.aload_n 0, 1) := dk_aload_n_0 (by decide +kernel)
theorem dX6_isNumber_1 : decode cX6_isNumber 1 = .ok (.getfield 59, 3) := dk_getfield (by decide +kernel)
theorem dX6_isNumber_4 : decode cX6_isNumber 4 = .ok (.iconst 2, 1) := dk_iconst_2 (by decide +kernel)
theorem dX6_isNumber_5 : decode cX6_isNumber 5 = .ok (.if_icmp .ne 7, 3) := dk_if_icmp_ne (by decide +kernel)
theorem dX6_isNumber_8 : decode cX6_isNumber 8 = .ok (.iconst 1, 1) := dk_iconst_1 (by decide +kernel)
theorem dX6_isNumber_9 : decode cX6_isNumber 9 = .ok (.goto 4, 3) := dk_goto (by decide +kernel)
theorem dX6_isNumber_12 : decode cX6_isNumber 12 = .ok (.iconst 0, 1) := dk_iconst_0 (by decide +kernel)
theorem dX6_isNumber_13 : decode cX6_isNumber 13 = .ok (.ireturn, 1) := dk_ireturn (by decide +kernel)
set_option maxHeartbeats 4000000 in
set_option maxRecDepth 100000 in
theorem sX6_isNumber (l : Launch) (D : va_G) (k : Nat → ClassId) (sz : Nat) (ta : Nat) (ta_signs : Nat) (ta_words : Nat) (ta_length : Nat) (ta_next : Nat) (ta_place : Int32) (ta_kind : Int32) (ta_value : Int32) (ta_letters : Int64) (ta_fault : Int32) (h_ta_length : ta_length ≤ 1000) (h_ta_next : ta_next ≤ 1000) : Met l yX6_isNumber wsX6_isNumber ({ frames := 0, cells := 0, slots := 0, locals := 0 }) (va_Pc [.ref ta] (kz_Pre D k [(ta, kO 6 [.ref ta_signs, .ref ta_words, .int (nI ta_length), .int (nI ta_next), .int ta_place, .int ta_kind, .int ta_value, .long ta_letters, .int ta_fault])] sz)) (va_Qi (fun (rr : Int32) (uu : Bool) => rr = bB uu ∧ ((uu) = (fX6_isNumber ta_kind))) (fun uu zt => kz_B D (va_A [(ta, kO 6 [.ref ta_signs, .ref ta_words, .int (nI ta_length), .int (nI ta_next), .int ta_place, .int ta_kind, .int ta_value, .long ta_letters, .int ta_fault])] sz) [(ta, kO 6 [.ref ta_signs, .ref ta_words, .int (nI ta_length), .int (nI ta_next), .int ta_place, .int ta_kind, .int ta_value, .long ta_letters, .int ta_fault])] zt) (va_A [(ta, kO 6 [.ref ta_signs, .ref ta_words, .int (nI ta_length), .int (nI ta_next), .int ta_place, .int ta_kind, .int ta_value, .long ta_letters, .int ta_fault])] sz)) 0 0 (va_A [(ta, kO 6 [.ref ta_signs, .ref ta_words, .int (nI ta_length), .int (nI ta_next), .int ta_place, .int ta_kind, .int ta_value, .long ta_letters, .int ta_fault])] sz) := by
  refine Met.ofW (cc := cX6_isNumber) (maxL := 1) (ret := (some .boolean)) (by decide) rfl ?_
  intro p e s m args below meth c s₁ B hml hv
  obtain ⟨hav, hsz, hP, hK, hD0, hE⟩ := hv
  have hx := B.exec
  have hb := B.bytes
  have hr := B.returns
  have hts := atoms_spec (ws := wsX6_isNumber) B.pre
  have hown : s.vm.findClass RX6 = some m.cls := findClass_of_methodNamed B.named
  have hlocks := B.notSynchronized
  have hi6 : ∀ w ∈ u_ws RX6 TX6 9, w ∈ wsX6_isNumber := fun w h9 => List.mem_cons_of_mem _ (List.mem_append_right _ h9)
  have lf59 := hts (.fieldLink RX6 59 "LastCook$Tape" "kind" "I") (List.mem_cons_of_mem _ (List.mem_append_left _ (List.mem_of_getElem? (i := 0) rfl)))
  subst hsz
  have hD := hD0.self (sz := s.heap.size)
  generalize hAe : va_A [(ta, kO 6 [.ref ta_signs, .ref ta_words, .int (nI ta_length), .int (nI ta_next), .int ta_place, .int ta_kind, .int ta_value, .long ta_letters, .int ta_fault])] s.heap.size = A at hD ⊢
  have hA : ∀ q : Nat, s.heap.size ≤ q → A q := fun q h => by rw [← hAe]; exact Or.inr h
  have hS : va_S A s.heap s.heap [] := va_S.rf
  have hl := lv_entry ([.ref ta]) (n := 1) (Nat.le_of_ble_eq_true rfl)
  rw [show entryFrame m args 1 = entryFrame m ([.ref ta] : List Value).toArray 1 by rw [hav], lg_entry_eq]
  generalize (lg_sl ([.ref ta]) ++ List.replicate (1 - (lg_sl ([.ref ta])).length) Slot.unset).toArray = ls at hl ⊢
  have hl : lv_has ls 1 [(0, .ref ta)] := hl
  obtain ⟨R, hR⟩ : ∃ R, R = (headSpec wsX6_isNumber ({ frames := 0, cells := 0, slots := 0, locals := 0 } : Room)).room := ⟨_, rfl⟩
  rw [← hR]
  generalize hQ : MQ below _ args s 0 0 A = Q
  replace hQ := hQ.symm
  obtain ⟨H, hH⟩ : ∃ H, H = s.heap := ⟨_, rfl⟩
  rw [← hH] at hP ⊢
  have hS : va_S A s.heap H [] := by rw [hH]; exact hS
  obtain ⟨E0, hE0⟩ : ∃ E0 : Bool, E0 = (fX6_isNumber ta_kind) := ⟨_, rfl⟩
  have hZ : (fX6_isNumber ta_kind) = E0 := hE0.symm
  refine lv_aload_n hx hb dX6_isNumber_0 rfl (lv_at hl 0 rfl) ?_
  refine va_get (D := D) (ci := 6) (v := .int ta_kind) (C := RX6) (T := TX6) (N := 9) hx hb hts hi6 hown hK hP 0 rfl rfl 5 (by decide) lf59 (fun _ h9 => h9) rfl dX6_isNumber_1 ?_
  refine lv_iconst (v := 2) hx hb dX6_isNumber_4 (by decide) ?_
  have hj13_1 : ∀ (s0_13 : Bool) (H : Heap) (locs : List Loc) (ls : Array Slot), (fX6_isNumber_J13a s0_13 = E0) → va_P D vwCl [(ta, kO 6 [.ref ta_signs, .ref ta_words, .int (nI ta_length), .int (nI ta_next), .int ta_place, .int ta_kind, .int ta_value, .long ta_letters, .int ta_fault])] H → va_D A [(ta, kO 6 [.ref ta_signs, .ref ta_words, .int (nI ta_length), .int (nI ta_next), .int ta_place, .int ta_kind, .int ta_value, .long ta_letters, .int ta_fault])] → va_S A s.heap H locs → lv_has ls 1 [(0, .ref ta)] → W p l e R s m args below meth c H locs 0 0 Q (F0 m 13 ls [.int (bB s0_13)]) := by
    intro s0_13 H locs ls hZ hP hD hS hl
    rw [hQ]
    have hP9 := hP.sub (ws' := [(ta, kO 6 [.ref ta_signs, .ref ta_words, .int (nI ta_length), .int (nI ta_next), .int ta_place, .int ta_kind, .int ta_value, .long ta_letters, .int ta_fault])]) [0] rfl
    have hD9 := hD.sub (ws' := [(ta, kO 6 [.ref ta_signs, .ref ta_words, .int (nI ta_length), .int (nI ta_next), .int ta_place, .int ta_kind, .int ta_value, .long ta_letters, .int ta_fault])]) [0] (by decide +kernel) rfl
    exact W.zret (v := (bB s0_13)) hx hb hr (narrow_bB _) (fun zt ht hW => ⟨⟨(bB s0_13), s0_13, rfl, ⟨rfl, (hZ.trans hE0)⟩, by rw [ht]; exact hP9, hD9⟩, hS.F ht⟩) hS.2.2 dX6_isNumber_13
  refine lv_icmp_ne (tgt := 12) hx hb dX6_isNumber_5 (by decide) (fun c_2 => ?_) (fun c_2 => ?_)
  · exact by
     have t_2 : (Int32.toInt ta_kind) ≠ 2 := tI_ne rfl (by decide) c_2
     have hZ := (if_neg c_2).symm.trans hZ
     refine lv_iconst (v := 0) hx hb dX6_isNumber_12 (by decide) ?_
     exact hj13_1 false _ _ _ hZ (hP.sub [0] rfl) (hD.sub [0] (by decide +kernel) rfl) hS (lv_sub hl [0] rfl)
  · exact by
     have t_2 : (Int32.toInt ta_kind) = 2 := tI_eq rfl (by decide) c_2
     have hZ := (if_pos c_2).symm.trans hZ
     refine lv_iconst (v := 1) hx hb dX6_isNumber_8 (by decide) ?_
     refine lv_goto (tgt := 13) hx hb dX6_isNumber_9 (by decide) ?_
     exact hj13_1 true _ _ _ hZ (hP.sub [0] rfl) (hD.sub [0] (by decide +kernel) rfl) hS (lv_sub hl [0] rfl)
theorem dX6_isSign_0 : decode cX6_isSign 0 = .ok (.aload_n 0, 1) := dk_aload_n_0 (by decide +kernel)
theorem dX6_isSign_1 : decode cX6_isSign 1 = .ok (.getfield 59, 3) := dk_getfield (by decide +kernel)
theorem dX6_isSign_4 : decode cX6_isSign 4 = .ok (.iconst 3, 1) := dk_iconst_3 (by decide +kernel)
theorem dX6_isSign_5 : decode cX6_isSign 5 = .ok (.if_icmp .ne 15, 3) := dk_if_icmp_ne (by decide +kernel)
theorem dX6_isSign_8 : decode cX6_isSign 8 = .ok (.aload_n 0, 1) := dk_aload_n_0 (by decide +kernel)
theorem dX6_isSign_9 : decode cX6_isSign 9 = .ok (.getfield 56, 3) := dk_getfield (by decide +kernel)
theorem dX6_isSign_12 : decode cX6_isSign 12 = .ok (.iload_n 1, 1) := dk_iload_n_1 (by decide +kernel)
theorem dX6_isSign_13 : decode cX6_isSign 13 = .ok (.if_icmp .ne 7, 3) := dk_if_icmp_ne (by decide +kernel)
theorem dX6_isSign_16 : decode cX6_isSign 16 = .ok (.iconst 1, 1) := dk_iconst_1 (by decide +kernel)
theorem dX6_isSign_17 : decode cX6_isSign 17 = .ok (.goto 4, 3) := dk_goto (by decide +kernel)
theorem dX6_isSign_20 : decode cX6_isSign 20 = .ok (.iconst 0, 1) := dk_iconst_0 (by decide +kernel)
theorem dX6_isSign_21 : decode cX6_isSign 21 = .ok (.ireturn, 1) := dk_ireturn (by decide +kernel)
set_option maxHeartbeats 4000000 in
set_option maxRecDepth 100000 in
theorem sX6_isSign (l : Launch) (D : va_G) (k : Nat → ClassId) (sz : Nat) (ta : Nat) (x : Int32) (ta_signs : Nat) (ta_words : Nat) (ta_length : Nat) (ta_next : Nat) (ta_place : Int32) (ta_kind : Int32) (ta_value : Int32) (ta_letters : Int64) (ta_fault : Int32) (h_ta_length : ta_length ≤ 1000) (h_ta_next : ta_next ≤ 1000) : Met l yX6_isSign wsX6_isSign ({ frames := 0, cells := 0, slots := 0, locals := 0 }) (va_Pc [.ref ta, .int x] (kz_Pre D k [(ta, kO 6 [.ref ta_signs, .ref ta_words, .int (nI ta_length), .int (nI ta_next), .int ta_place, .int ta_kind, .int ta_value, .long ta_letters, .int ta_fault])] sz)) (va_Qi (fun (rr : Int32) (uu : Bool) => rr = bB uu ∧ ((uu) = (fX6_isSign x ta_kind ta_value))) (fun uu zt => kz_B D (va_A [(ta, kO 6 [.ref ta_signs, .ref ta_words, .int (nI ta_length), .int (nI ta_next), .int ta_place, .int ta_kind, .int ta_value, .long ta_letters, .int ta_fault])] sz) [(ta, kO 6 [.ref ta_signs, .ref ta_words, .int (nI ta_length), .int (nI ta_next), .int ta_place, .int ta_kind, .int ta_value, .long ta_letters, .int ta_fault])] zt) (va_A [(ta, kO 6 [.ref ta_signs, .ref ta_words, .int (nI ta_length), .int (nI ta_next), .int ta_place, .int ta_kind, .int ta_value, .long ta_letters, .int ta_fault])] sz)) 0 0 (va_A [(ta, kO 6 [.ref ta_signs, .ref ta_words, .int (nI ta_length), .int (nI ta_next), .int ta_place, .int ta_kind, .int ta_value, .long ta_letters, .int ta_fault])] sz) := by
  refine Met.ofW (cc := cX6_isSign) (maxL := 2) (ret := (some .boolean)) (by decide) rfl ?_
  intro p e s m args below meth c s₁ B hml hv
  obtain ⟨hav, hsz, hP, hK, hD0, hE⟩ := hv
  have hx := B.exec
  have hb := B.bytes
  have hr := B.returns
  have hts := atoms_spec (ws := wsX6_isSign) B.pre
  have hown : s.vm.findClass RX6 = some m.cls := findClass_of_methodNamed B.named
  have hlocks := B.notSynchronized
  have hi6 : ∀ w ∈ u_ws RX6 TX6 9, w ∈ wsX6_isSign := fun w h9 => List.mem_cons_of_mem _ (List.mem_append_right _ h9)
  have lf59 := hts (.fieldLink RX6 59 "LastCook$Tape" "kind" "I") (List.mem_cons_of_mem _ (List.mem_append_left _ (List.mem_of_getElem? (i := 0) rfl)))
  have lf56 := hts (.fieldLink RX6 56 "LastCook$Tape" "value" "I") (List.mem_cons_of_mem _ (List.mem_append_left _ (List.mem_of_getElem? (i := 1) rfl)))
  subst hsz
  have hD := hD0.self (sz := s.heap.size)
  generalize hAe : va_A [(ta, kO 6 [.ref ta_signs, .ref ta_words, .int (nI ta_length), .int (nI ta_next), .int ta_place, .int ta_kind, .int ta_value, .long ta_letters, .int ta_fault])] s.heap.size = A at hD ⊢
  have hA : ∀ q : Nat, s.heap.size ≤ q → A q := fun q h => by rw [← hAe]; exact Or.inr h
  have hS : va_S A s.heap s.heap [] := va_S.rf
  have hl := lv_entry ([.ref ta, .int x]) (n := 2) (Nat.le_of_ble_eq_true rfl)
  rw [show entryFrame m args 2 = entryFrame m ([.ref ta, .int x] : List Value).toArray 2 by rw [hav], lg_entry_eq]
  generalize (lg_sl ([.ref ta, .int x]) ++ List.replicate (2 - (lg_sl ([.ref ta, .int x])).length) Slot.unset).toArray = ls at hl ⊢
  have hl : lv_has ls 2 [(0, .ref ta), (1, .int x)] := hl
  obtain ⟨R, hR⟩ : ∃ R, R = (headSpec wsX6_isSign ({ frames := 0, cells := 0, slots := 0, locals := 0 } : Room)).room := ⟨_, rfl⟩
  rw [← hR]
  generalize hQ : MQ below _ args s 0 0 A = Q
  replace hQ := hQ.symm
  obtain ⟨H, hH⟩ : ∃ H, H = s.heap := ⟨_, rfl⟩
  rw [← hH] at hP ⊢
  have hS : va_S A s.heap H [] := by rw [hH]; exact hS
  obtain ⟨E0, hE0⟩ : ∃ E0 : Bool, E0 = (fX6_isSign x ta_kind ta_value) := ⟨_, rfl⟩
  have hZ : (fX6_isSign x ta_kind ta_value) = E0 := hE0.symm
  refine lv_aload_n hx hb dX6_isSign_0 rfl (lv_at hl 0 rfl) ?_
  refine va_get (D := D) (ci := 6) (v := .int ta_kind) (C := RX6) (T := TX6) (N := 9) hx hb hts hi6 hown hK hP 0 rfl rfl 5 (by decide) lf59 (fun _ h9 => h9) rfl dX6_isSign_1 ?_
  refine lv_iconst (v := 3) hx hb dX6_isSign_4 (by decide) ?_
  have hj21_1 : ∀ (s0_21 : Bool) (H : Heap) (locs : List Loc) (ls : Array Slot), (fX6_isSign_J21a s0_21 = E0) → va_P D vwCl [(ta, kO 6 [.ref ta_signs, .ref ta_words, .int (nI ta_length), .int (nI ta_next), .int ta_place, .int ta_kind, .int ta_value, .long ta_letters, .int ta_fault])] H → va_D A [(ta, kO 6 [.ref ta_signs, .ref ta_words, .int (nI ta_length), .int (nI ta_next), .int ta_place, .int ta_kind, .int ta_value, .long ta_letters, .int ta_fault])] → va_S A s.heap H locs → lv_has ls 2 [(0, .ref ta), (1, .int x)] → W p l e R s m args below meth c H locs 0 0 Q (F0 m 21 ls [.int (bB s0_21)]) := by
    intro s0_21 H locs ls hZ hP hD hS hl
    rw [hQ]
    have hP9 := hP.sub (ws' := [(ta, kO 6 [.ref ta_signs, .ref ta_words, .int (nI ta_length), .int (nI ta_next), .int ta_place, .int ta_kind, .int ta_value, .long ta_letters, .int ta_fault])]) [0] rfl
    have hD9 := hD.sub (ws' := [(ta, kO 6 [.ref ta_signs, .ref ta_words, .int (nI ta_length), .int (nI ta_next), .int ta_place, .int ta_kind, .int ta_value, .long ta_letters, .int ta_fault])]) [0] (by decide +kernel) rfl
    exact W.zret (v := (bB s0_21)) hx hb hr (narrow_bB _) (fun zt ht hW => ⟨⟨(bB s0_21), s0_21, rfl, ⟨rfl, (hZ.trans hE0)⟩, by rw [ht]; exact hP9, hD9⟩, hS.F ht⟩) hS.2.2 dX6_isSign_21
  have hj20_2 : ∀ (H : Heap) (locs : List Loc) (ls : Array Slot), (fX6_isSign_J20a = E0) → va_P D vwCl [(ta, kO 6 [.ref ta_signs, .ref ta_words, .int (nI ta_length), .int (nI ta_next), .int ta_place, .int ta_kind, .int ta_value, .long ta_letters, .int ta_fault])] H → va_D A [(ta, kO 6 [.ref ta_signs, .ref ta_words, .int (nI ta_length), .int (nI ta_next), .int ta_place, .int ta_kind, .int ta_value, .long ta_letters, .int ta_fault])] → va_S A s.heap H locs → lv_has ls 2 [(0, .ref ta), (1, .int x)] → W p l e R s m args below meth c H locs 0 0 Q (F0 m 20 ls []) := by
    intro H locs ls hZ hP hD hS hl
    refine lv_iconst (v := 0) hx hb dX6_isSign_20 (by decide) ?_
    exact hj21_1 false _ _ _ hZ (hP.sub [0] rfl) (hD.sub [0] (by decide +kernel) rfl) hS (lv_sub hl [0, 1] rfl)
  refine lv_icmp_ne (tgt := 20) hx hb dX6_isSign_5 (by decide) (fun c_3 => ?_) (fun c_3 => ?_)
  · exact by
     have t_3 : (Int32.toInt ta_kind) ≠ 3 := tI_ne rfl (by decide) c_3
     have hZ := (if_neg c_3).symm.trans hZ
     exact hj20_2 _ _ _ hZ (hP.sub [0] rfl) (hD.sub [0] (by decide +kernel) rfl) hS (lv_sub hl [0, 1] rfl)
  · exact by
     have t_3 : (Int32.toInt ta_kind) = 3 := tI_eq rfl (by decide) c_3
     have hZ := (if_pos c_3).symm.trans hZ
     refine lv_aload_n hx hb dX6_isSign_8 rfl (lv_at hl 0 rfl) ?_
     refine va_get (D := D) (ci := 6) (v := .int ta_value) (C := RX6) (T := TX6) (N := 9) hx hb hts hi6 hown hK hP 0 rfl rfl 6 (by decide) lf56 (fun _ h9 => h9) rfl dX6_isSign_9 ?_
     refine lv_iload_n hx hb dX6_isSign_12 rfl (lv_at hl 1 rfl) ?_
     refine lv_icmp_ne (tgt := 20) hx hb dX6_isSign_13 (by decide) (fun c_4 => ?_) (fun c_4 => ?_)
     · exact by
        have t_4 : (Int32.toInt ta_value) ≠ (Int32.toInt x) := tI_ne rfl rfl c_4
        have hZ := (if_neg c_4).symm.trans hZ
        exact hj20_2 _ _ _ hZ (hP.sub [0] rfl) (hD.sub [0] (by decide +kernel) rfl) hS (lv_sub hl [0, 1] rfl)
     · exact by
        have t_4 : (Int32.toInt ta_value) = (Int32.toInt x) := tI_eq rfl rfl c_4
        have hZ := (if_pos c_4).symm.trans hZ
        refine lv_iconst (v := 1) hx hb dX6_isSign_16 (by decide) ?_
        refine lv_goto (tgt := 21) hx hb dX6_isSign_17 (by decide) ?_
        exact hj21_1 true _ _ _ hZ (hP.sub [0] rfl) (hD.sub [0] (by decide +kernel) rfl) hS (lv_sub hl [0, 1] rfl)
theorem dX6_isWord_0 : decode cX6_isWord 0 = .ok (.aload_n 0, 1) := dk_aload_n_0 (by decide +kernel)
theorem dX6_isWord_1 : decode cX6_isWord 1 = .ok (.getfield 59, 3) := dk_getfield (by decide +kernel)
theorem dX6_isWord_4 : decode cX6_isWord 4 = .ok (.iconst 1, 1) := dk_iconst_1 (by decide +kernel)
theorem dX6_isWord_5 : decode cX6_isWord 5 = .ok (.if_icmp .ne 15, 3) := dk_if_icmp_ne (by decide +kernel)
theorem dX6_isWord_8 : decode cX6_isWord 8 = .ok (.aload_n 0, 1) := dk_aload_n_0 (by decide +kernel)
theorem dX6_isWord_9 : decode cX6_isWord 9 = .ok (.getfield 56, 3) := dk_getfield (by decide +kernel)
theorem dX6_isWord_12 : decode cX6_isWord 12 = .ok (.iload_n 1, 1) := dk_iload_n_1 (by decide +kernel)
theorem dX6_isWord_13 : decode cX6_isWord 13 = .ok (.if_icmp .ne 7, 3) := dk_if_icmp_ne (by decide +kernel)
theorem dX6_isWord_16 : decode cX6_isWord 16 = .ok (.iconst 1, 1) := dk_iconst_1 (by decide +kernel)
theorem dX6_isWord_17 : decode cX6_isWord 17 = .ok (.goto 4, 3) := dk_goto (by decide +kernel)
theorem dX6_isWord_20 : decode cX6_isWord 20 = .ok (.iconst 0, 1) := dk_iconst_0 (by decide +kernel)
theorem dX6_isWord_21 : decode cX6_isWord 21 = .ok (.ireturn, 1) := dk_ireturn (by decide +kernel)
set_option maxHeartbeats 4000000 in
set_option maxRecDepth 100000 in
theorem sX6_isWord (l : Launch) (D : va_G) (k : Nat → ClassId) (sz : Nat) (ta : Nat) (x : Int32) (ta_signs : Nat) (ta_words : Nat) (ta_length : Nat) (ta_next : Nat) (ta_place : Int32) (ta_kind : Int32) (ta_value : Int32) (ta_letters : Int64) (ta_fault : Int32) (h_ta_length : ta_length ≤ 1000) (h_ta_next : ta_next ≤ 1000) : Met l yX6_isWord wsX6_isWord ({ frames := 0, cells := 0, slots := 0, locals := 0 }) (va_Pc [.ref ta, .int x] (kz_Pre D k [(ta, kO 6 [.ref ta_signs, .ref ta_words, .int (nI ta_length), .int (nI ta_next), .int ta_place, .int ta_kind, .int ta_value, .long ta_letters, .int ta_fault])] sz)) (va_Qi (fun (rr : Int32) (uu : Bool) => rr = bB uu ∧ ((uu) = (fX6_isWord x ta_kind ta_value))) (fun uu zt => kz_B D (va_A [(ta, kO 6 [.ref ta_signs, .ref ta_words, .int (nI ta_length), .int (nI ta_next), .int ta_place, .int ta_kind, .int ta_value, .long ta_letters, .int ta_fault])] sz) [(ta, kO 6 [.ref ta_signs, .ref ta_words, .int (nI ta_length), .int (nI ta_next), .int ta_place, .int ta_kind, .int ta_value, .long ta_letters, .int ta_fault])] zt) (va_A [(ta, kO 6 [.ref ta_signs, .ref ta_words, .int (nI ta_length), .int (nI ta_next), .int ta_place, .int ta_kind, .int ta_value, .long ta_letters, .int ta_fault])] sz)) 0 0 (va_A [(ta, kO 6 [.ref ta_signs, .ref ta_words, .int (nI ta_length), .int (nI ta_next), .int ta_place, .int ta_kind, .int ta_value, .long ta_letters, .int ta_fault])] sz) := by
  refine Met.ofW (cc := cX6_isWord) (maxL := 2) (ret := (some .boolean)) (by decide) rfl ?_
  intro p e s m args below meth c s₁ B hml hv
  obtain ⟨hav, hsz, hP, hK, hD0, hE⟩ := hv
  have hx := B.exec
  have hb := B.bytes
  have hr := B.returns
  have hts := atoms_spec (ws := wsX6_isWord) B.pre
  have hown : s.vm.findClass RX6 = some m.cls := findClass_of_methodNamed B.named
  have hlocks := B.notSynchronized
  have hi6 : ∀ w ∈ u_ws RX6 TX6 9, w ∈ wsX6_isWord := fun w h9 => List.mem_cons_of_mem _ (List.mem_append_right _ h9)
  have lf59 := hts (.fieldLink RX6 59 "LastCook$Tape" "kind" "I") (List.mem_cons_of_mem _ (List.mem_append_left _ (List.mem_of_getElem? (i := 0) rfl)))
  have lf56 := hts (.fieldLink RX6 56 "LastCook$Tape" "value" "I") (List.mem_cons_of_mem _ (List.mem_append_left _ (List.mem_of_getElem? (i := 1) rfl)))
  subst hsz
  have hD := hD0.self (sz := s.heap.size)
  generalize hAe : va_A [(ta, kO 6 [.ref ta_signs, .ref ta_words, .int (nI ta_length), .int (nI ta_next), .int ta_place, .int ta_kind, .int ta_value, .long ta_letters, .int ta_fault])] s.heap.size = A at hD ⊢
  have hA : ∀ q : Nat, s.heap.size ≤ q → A q := fun q h => by rw [← hAe]; exact Or.inr h
  have hS : va_S A s.heap s.heap [] := va_S.rf
  have hl := lv_entry ([.ref ta, .int x]) (n := 2) (Nat.le_of_ble_eq_true rfl)
  rw [show entryFrame m args 2 = entryFrame m ([.ref ta, .int x] : List Value).toArray 2 by rw [hav], lg_entry_eq]
  generalize (lg_sl ([.ref ta, .int x]) ++ List.replicate (2 - (lg_sl ([.ref ta, .int x])).length) Slot.unset).toArray = ls at hl ⊢
  have hl : lv_has ls 2 [(0, .ref ta), (1, .int x)] := hl
  obtain ⟨R, hR⟩ : ∃ R, R = (headSpec wsX6_isWord ({ frames := 0, cells := 0, slots := 0, locals := 0 } : Room)).room := ⟨_, rfl⟩
  rw [← hR]
  generalize hQ : MQ below _ args s 0 0 A = Q
  replace hQ := hQ.symm
  obtain ⟨H, hH⟩ : ∃ H, H = s.heap := ⟨_, rfl⟩
  rw [← hH] at hP ⊢
  have hS : va_S A s.heap H [] := by rw [hH]; exact hS
  obtain ⟨E0, hE0⟩ : ∃ E0 : Bool, E0 = (fX6_isWord x ta_kind ta_value) := ⟨_, rfl⟩
  have hZ : (fX6_isWord x ta_kind ta_value) = E0 := hE0.symm
  refine lv_aload_n hx hb dX6_isWord_0 rfl (lv_at hl 0 rfl) ?_
  refine va_get (D := D) (ci := 6) (v := .int ta_kind) (C := RX6) (T := TX6) (N := 9) hx hb hts hi6 hown hK hP 0 rfl rfl 5 (by decide) lf59 (fun _ h9 => h9) rfl dX6_isWord_1 ?_
  refine lv_iconst (v := 1) hx hb dX6_isWord_4 (by decide) ?_
  have hj21_1 : ∀ (s0_21 : Bool) (H : Heap) (locs : List Loc) (ls : Array Slot), (fX6_isWord_J21a s0_21 = E0) → va_P D vwCl [(ta, kO 6 [.ref ta_signs, .ref ta_words, .int (nI ta_length), .int (nI ta_next), .int ta_place, .int ta_kind, .int ta_value, .long ta_letters, .int ta_fault])] H → va_D A [(ta, kO 6 [.ref ta_signs, .ref ta_words, .int (nI ta_length), .int (nI ta_next), .int ta_place, .int ta_kind, .int ta_value, .long ta_letters, .int ta_fault])] → va_S A s.heap H locs → lv_has ls 2 [(0, .ref ta), (1, .int x)] → W p l e R s m args below meth c H locs 0 0 Q (F0 m 21 ls [.int (bB s0_21)]) := by
    intro s0_21 H locs ls hZ hP hD hS hl
    rw [hQ]
    have hP9 := hP.sub (ws' := [(ta, kO 6 [.ref ta_signs, .ref ta_words, .int (nI ta_length), .int (nI ta_next), .int ta_place, .int ta_kind, .int ta_value, .long ta_letters, .int ta_fault])]) [0] rfl
    have hD9 := hD.sub (ws' := [(ta, kO 6 [.ref ta_signs, .ref ta_words, .int (nI ta_length), .int (nI ta_next), .int ta_place, .int ta_kind, .int ta_value, .long ta_letters, .int ta_fault])]) [0] (by decide +kernel) rfl
    exact W.zret (v := (bB s0_21)) hx hb hr (narrow_bB _) (fun zt ht hW => ⟨⟨(bB s0_21), s0_21, rfl, ⟨rfl, (hZ.trans hE0)⟩, by rw [ht]; exact hP9, hD9⟩, hS.F ht⟩) hS.2.2 dX6_isWord_21
  have hj20_2 : ∀ (H : Heap) (locs : List Loc) (ls : Array Slot), (fX6_isWord_J20a = E0) → va_P D vwCl [(ta, kO 6 [.ref ta_signs, .ref ta_words, .int (nI ta_length), .int (nI ta_next), .int ta_place, .int ta_kind, .int ta_value, .long ta_letters, .int ta_fault])] H → va_D A [(ta, kO 6 [.ref ta_signs, .ref ta_words, .int (nI ta_length), .int (nI ta_next), .int ta_place, .int ta_kind, .int ta_value, .long ta_letters, .int ta_fault])] → va_S A s.heap H locs → lv_has ls 2 [(0, .ref ta), (1, .int x)] → W p l e R s m args below meth c H locs 0 0 Q (F0 m 20 ls []) := by
    intro H locs ls hZ hP hD hS hl
    refine lv_iconst (v := 0) hx hb dX6_isWord_20 (by decide) ?_
    exact hj21_1 false _ _ _ hZ (hP.sub [0] rfl) (hD.sub [0] (by decide +kernel) rfl) hS (lv_sub hl [0, 1] rfl)
  refine lv_icmp_ne (tgt := 20) hx hb dX6_isWord_5 (by decide) (fun c_3 => ?_) (fun c_3 => ?_)
  · exact by
     have t_3 : (Int32.toInt ta_kind) ≠ 1 := tI_ne rfl (by decide) c_3
     have hZ := (if_neg c_3).symm.trans hZ
     exact hj20_2 _ _ _ hZ (hP.sub [0] rfl) (hD.sub [0] (by decide +kernel) rfl) hS (lv_sub hl [0, 1] rfl)
  · exact by
     have t_3 : (Int32.toInt ta_kind) = 1 := tI_eq rfl (by decide) c_3
     have hZ := (if_pos c_3).symm.trans hZ
     refine lv_aload_n hx hb dX6_isWord_8 rfl (lv_at hl 0 rfl) ?_
     refine va_get (D := D) (ci := 6) (v := .int ta_value) (C := RX6) (T := TX6) (N := 9) hx hb hts hi6 hown hK hP 0 rfl rfl 6 (by decide) lf56 (fun _ h9 => h9) rfl dX6_isWord_9 ?_
     refine lv_iload_n hx hb dX6_isWord_12 rfl (lv_at hl 1 rfl) ?_
     refine lv_icmp_ne (tgt := 20) hx hb dX6_isWord_13 (by decide) (fun c_4 => ?_) (fun c_4 => ?_)
     · exact by
        have t_4 : (Int32.toInt ta_value) ≠ (Int32.toInt x) := tI_ne rfl rfl c_4
        have hZ := (if_neg c_4).symm.trans hZ
        exact hj20_2 _ _ _ hZ (hP.sub [0] rfl) (hD.sub [0] (by decide +kernel) rfl) hS (lv_sub hl [0, 1] rfl)
     · exact by
        have t_4 : (Int32.toInt ta_value) = (Int32.toInt x) := tI_eq rfl rfl c_4
        have hZ := (if_pos c_4).symm.trans hZ
        refine lv_iconst (v := 1) hx hb dX6_isWord_16 (by decide) ?_
        refine lv_goto (tgt := 21) hx hb dX6_isWord_17 (by decide) ?_
        exact hj21_1 true _ _ _ hZ (hP.sub [0] rfl) (hD.sub [0] (by decide +kernel) rfl) hS (lv_sub hl [0, 1] rfl)
theorem dX6_wordHere_0 : decode cX6_wordHere 0 = .ok (.aload_n 0, 1) := dk_aload_n_0 (by decide +kernel)
theorem dX6_wordHere_1 : decode cX6_wordHere 1 = .ok (.getfield 59, 3) := dk_getfield (by decide +kernel)
theorem dX6_wordHere_4 : decode cX6_wordHere 4 = .ok (.iconst 1, 1) := dk_iconst_1 (by decide +kernel)
theorem dX6_wordHere_5 : decode cX6_wordHere 5 = .ok (.if_icmp .ne 10, 3) := dk_if_icmp_ne (by decide +kernel)
theorem dX6_wordHere_8 : decode cX6_wordHere 8 = .ok (.aload_n 0, 1) := dk_aload_n_0 (by decide +kernel)
theorem dX6_wordHere_9 : decode cX6_wordHere 9 = .ok (.getfield 56, 3) := dk_getfield (by decide +kernel)
theorem dX6_wordHere_12 : decode cX6_wordHere 12 = .ok (.goto 4, 3) := dk_goto (by decide +kernel)
theorem dX6_wordHere_15 : decode cX6_wordHere 15 = .ok (.iconst (-1), 1) := dk_iconst_m1 (by decide +kernel)
theorem dX6_wordHere_16 : decode cX6_wordHere 16 = .ok (.ireturn, 1) := dk_ireturn (by decide +kernel)
set_option maxHeartbeats 4000000 in
set_option maxRecDepth 100000 in
theorem sX6_wordHere (l : Launch) (D : va_G) (k : Nat → ClassId) (sz : Nat) (ta : Nat) (ta_signs : Nat) (ta_words : Nat) (ta_length : Nat) (ta_next : Nat) (ta_place : Int32) (ta_kind : Int32) (ta_value : Int32) (ta_letters : Int64) (ta_fault : Int32) (h_ta_length : ta_length ≤ 1000) (h_ta_next : ta_next ≤ 1000) : Met l yX6_wordHere wsX6_wordHere ({ frames := 0, cells := 0, slots := 0, locals := 0 }) (va_Pc [.ref ta] (kz_Pre D k [(ta, kO 6 [.ref ta_signs, .ref ta_words, .int (nI ta_length), .int (nI ta_next), .int ta_place, .int ta_kind, .int ta_value, .long ta_letters, .int ta_fault])] sz)) (va_Qi (fun (rr : Int32) (uu : Unit) => ((rr) = (fX6_wordHere ta_kind ta_value))) (fun uu zt => kz_B D (va_A [(ta, kO 6 [.ref ta_signs, .ref ta_words, .int (nI ta_length), .int (nI ta_next), .int ta_place, .int ta_kind, .int ta_value, .long ta_letters, .int ta_fault])] sz) [(ta, kO 6 [.ref ta_signs, .ref ta_words, .int (nI ta_length), .int (nI ta_next), .int ta_place, .int ta_kind, .int ta_value, .long ta_letters, .int ta_fault])] zt) (va_A [(ta, kO 6 [.ref ta_signs, .ref ta_words, .int (nI ta_length), .int (nI ta_next), .int ta_place, .int ta_kind, .int ta_value, .long ta_letters, .int ta_fault])] sz)) 0 0 (va_A [(ta, kO 6 [.ref ta_signs, .ref ta_words, .int (nI ta_length), .int (nI ta_next), .int ta_place, .int ta_kind, .int ta_value, .long ta_letters, .int ta_fault])] sz) := by
  refine Met.ofW (cc := cX6_wordHere) (maxL := 1) (ret := (some .int)) (by decide) rfl ?_
  intro p e s m args below meth c s₁ B hml hv
  obtain ⟨hav, hsz, hP, hK, hD0, hE⟩ := hv
  have hx := B.exec
  have hb := B.bytes
  have hr := B.returns
  have hts := atoms_spec (ws := wsX6_wordHere) B.pre
  have hown : s.vm.findClass RX6 = some m.cls := findClass_of_methodNamed B.named
  have hlocks := B.notSynchronized
  have hi6 : ∀ w ∈ u_ws RX6 TX6 9, w ∈ wsX6_wordHere := fun w h9 => List.mem_cons_of_mem _ (List.mem_append_right _ h9)
  have lf59 := hts (.fieldLink RX6 59 "LastCook$Tape" "kind" "I") (List.mem_cons_of_mem _ (List.mem_append_left _ (List.mem_of_getElem? (i := 0) rfl)))
  have lf56 := hts (.fieldLink RX6 56 "LastCook$Tape" "value" "I") (List.mem_cons_of_mem _ (List.mem_append_left _ (List.mem_of_getElem? (i := 1) rfl)))
  subst hsz
  have hD := hD0.self (sz := s.heap.size)
  generalize hAe : va_A [(ta, kO 6 [.ref ta_signs, .ref ta_words, .int (nI ta_length), .int (nI ta_next), .int ta_place, .int ta_kind, .int ta_value, .long ta_letters, .int ta_fault])] s.heap.size = A at hD ⊢
  have hA : ∀ q : Nat, s.heap.size ≤ q → A q := fun q h => by rw [← hAe]; exact Or.inr h
  have hS : va_S A s.heap s.heap [] := va_S.rf
  have hl := lv_entry ([.ref ta]) (n := 1) (Nat.le_of_ble_eq_true rfl)
  rw [show entryFrame m args 1 = entryFrame m ([.ref ta] : List Value).toArray 1 by rw [hav], lg_entry_eq]
  generalize (lg_sl ([.ref ta]) ++ List.replicate (1 - (lg_sl ([.ref ta])).length) Slot.unset).toArray = ls at hl ⊢
  have hl : lv_has ls 1 [(0, .ref ta)] := hl
  obtain ⟨R, hR⟩ : ∃ R, R = (headSpec wsX6_wordHere ({ frames := 0, cells := 0, slots := 0, locals := 0 } : Room)).room := ⟨_, rfl⟩
  rw [← hR]
  generalize hQ : MQ below _ args s 0 0 A = Q
  replace hQ := hQ.symm
  obtain ⟨H, hH⟩ : ∃ H, H = s.heap := ⟨_, rfl⟩
  rw [← hH] at hP ⊢
  have hS : va_S A s.heap H [] := by rw [hH]; exact hS
  obtain ⟨E0, hE0⟩ : ∃ E0 : Int32, E0 = (fX6_wordHere ta_kind ta_value) := ⟨_, rfl⟩
  have hZ : (fX6_wordHere ta_kind ta_value) = E0 := hE0.symm
  refine lv_aload_n hx hb dX6_wordHere_0 rfl (lv_at hl 0 rfl) ?_
  refine va_get (D := D) (ci := 6) (v := .int ta_kind) (C := RX6) (T := TX6) (N := 9) hx hb hts hi6 hown hK hP 0 rfl rfl 5 (by decide) lf59 (fun _ h9 => h9) rfl dX6_wordHere_1 ?_
  refine lv_iconst (v := 1) hx hb dX6_wordHere_4 (by decide) ?_
  have hj16_1 : ∀ (s0_16 : Int32) (H : Heap) (locs : List Loc) (ls : Array Slot), (fX6_wordHere_J16a s0_16 = E0) → va_P D vwCl [(ta, kO 6 [.ref ta_signs, .ref ta_words, .int (nI ta_length), .int (nI ta_next), .int ta_place, .int ta_kind, .int ta_value, .long ta_letters, .int ta_fault])] H → va_D A [(ta, kO 6 [.ref ta_signs, .ref ta_words, .int (nI ta_length), .int (nI ta_next), .int ta_place, .int ta_kind, .int ta_value, .long ta_letters, .int ta_fault])] → va_S A s.heap H locs → lv_has ls 1 [(0, .ref ta)] → W p l e R s m args below meth c H locs 0 0 Q (F0 m 16 ls [.int s0_16]) := by
    intro s0_16 H locs ls hZ hP hD hS hl
    rw [hQ]
    have hP9 := hP.sub (ws' := [(ta, kO 6 [.ref ta_signs, .ref ta_words, .int (nI ta_length), .int (nI ta_next), .int ta_place, .int ta_kind, .int ta_value, .long ta_letters, .int ta_fault])]) [0] rfl
    have hD9 := hD.sub (ws' := [(ta, kO 6 [.ref ta_signs, .ref ta_words, .int (nI ta_length), .int (nI ta_next), .int ta_place, .int ta_kind, .int ta_value, .long ta_letters, .int ta_fault])]) [0] (by decide +kernel) rfl
    exact W.iret (v := s0_16) hx hb hr (fun zt ht hW => ⟨⟨s0_16, (), rfl, (hZ.trans hE0), by rw [ht]; exact hP9, hD9⟩, hS.F ht⟩) hS.2.2 dX6_wordHere_16
  refine lv_icmp_ne (tgt := 15) hx hb dX6_wordHere_5 (by decide) (fun c_2 => ?_) (fun c_2 => ?_)
  · exact by
     have t_2 : (Int32.toInt ta_kind) ≠ 1 := tI_ne rfl (by decide) c_2
     have hZ := (if_neg c_2).symm.trans hZ
     refine lv_iconst (v := (-1)) hx hb dX6_wordHere_15 (by decide) ?_
     exact hj16_1 ((-1) : Int32) _ _ _ hZ (hP.sub [0] rfl) (hD.sub [0] (by decide +kernel) rfl) hS (lv_sub hl [0] rfl)
  · exact by
     have t_2 : (Int32.toInt ta_kind) = 1 := tI_eq rfl (by decide) c_2
     have hZ := (if_pos c_2).symm.trans hZ
     refine lv_aload_n hx hb dX6_wordHere_8 rfl (lv_at hl 0 rfl) ?_
     refine va_get (D := D) (ci := 6) (v := .int ta_value) (C := RX6) (T := TX6) (N := 9) hx hb hts hi6 hown hK hP 0 rfl rfl 6 (by decide) lf56 (fun _ h9 => h9) rfl dX6_wordHere_9 ?_
     refine lv_goto (tgt := 16) hx hb dX6_wordHere_12 (by decide) ?_
     exact hj16_1 ta_value _ _ _ hZ (hP.sub [0] rfl) (hD.sub [0] (by decide +kernel) rfl) hS (lv_sub hl [0] rfl)
theorem dX6_wrong_0 : decode cX6_wrong 0 = .ok (.aload_n 0, 1) := dk_aload_n_0 (by decide +kernel)
theorem dX6_wrong_1 : decode cX6_wrong 1 = .ok (.iload_n 1, 1) := dk_iload_n_1 (by decide +kernel)
theorem dX6_wrong_2 : decode cX6_wrong 2 = .ok (.bipush 16, 2) := dk_bipush (by decide +kernel)
theorem dX6_wrong_4 : decode cX6_wrong 4 = .ok (.aload_n 0, 1) := dk_aload_n_0 (by decide +kernel)
theorem dX6_wrong_5 : decode cX6_wrong 5 = .ok (.getfield 53, 3) := dk_getfield (by decide +kernel)
theorem dX6_wrong_8 : decode cX6_wrong 8 = .ok (.imul, 1) := dk_imul (by decide +kernel)
theorem dX6_wrong_9 : decode cX6_wrong 9 = .ok (.iadd, 1) := dk_iadd (by decide +kernel)
theorem dX6_wrong_10 : decode cX6_wrong 10 = .ok (.putfield 47, 3) := dk_putfield (by decide +kernel)
theorem dX6_wrong_13 : decode cX6_wrong 13 = .ok (.iconst 0, 1) := dk_iconst_0 (by decide +kernel)
theorem dX6_wrong_14 : decode cX6_wrong 14 = .ok (.ireturn, 1) := dk_ireturn (by decide +kernel)
set_option maxHeartbeats 4000000 in
set_option maxRecDepth 100000 in
theorem sX6_wrong (l : Launch) (D : va_G) (k : Nat → ClassId) (sz : Nat) (ta : Nat) (x : Int32) (ta_signs : Nat) (ta_words : Nat) (ta_length : Nat) (ta_next : Nat) (ta_place : Int32) (ta_kind : Int32) (ta_value : Int32) (ta_letters : Int64) (ta_fault : Int32) (h_ta_length : ta_length ≤ 1000) (h_ta_next : ta_next ≤ 1000) : Met l yX6_wrong wsX6_wrong ({ frames := 0, cells := 0, slots := 0, locals := 0 }) (va_Pc [.ref ta, .int x] (kz_Pre D k [(ta, kO 6 [.ref ta_signs, .ref ta_words, .int (nI ta_length), .int (nI ta_next), .int ta_place, .int ta_kind, .int ta_value, .long ta_letters, .int ta_fault])] sz)) (va_Qi (fun (rr : Int32) (uu : Int32 × Bool) => rr = bB uu.2 ∧ ((uu.1, uu.2) = (fX6_wrong x ta_place))) (fun uu zt => kz_B D (va_A [(ta, kO 6 [.ref ta_signs, .ref ta_words, .int (nI ta_length), .int (nI ta_next), .int ta_place, .int ta_kind, .int ta_value, .long ta_letters, .int ta_fault])] sz) [(ta, kO 6 [.ref ta_signs, .ref ta_words, .int (nI ta_length), .int (nI ta_next), .int ta_place, .int ta_kind, .int ta_value, .long ta_letters, .int uu.1])] zt) (va_A [(ta, kO 6 [.ref ta_signs, .ref ta_words, .int (nI ta_length), .int (nI ta_next), .int ta_place, .int ta_kind, .int ta_value, .long ta_letters, .int ta_fault])] sz)) 0 0 (va_A [(ta, kO 6 [.ref ta_signs, .ref ta_words, .int (nI ta_length), .int (nI ta_next), .int ta_place, .int ta_kind, .int ta_value, .long ta_letters, .int ta_fault])] sz) := by
  refine Met.ofW (cc := cX6_wrong) (maxL := 2) (ret := (some .boolean)) (by decide) rfl ?_
  intro p e s m args below meth c s₁ B hml hv
  obtain ⟨hav, hsz, hP, hK, hD0, hE⟩ := hv
  have hx := B.exec
  have hb := B.bytes
  have hr := B.returns
  have hts := atoms_spec (ws := wsX6_wrong) B.pre
  have hown : s.vm.findClass RX6 = some m.cls := findClass_of_methodNamed B.named
  have hlocks := B.notSynchronized
  have hi6 : ∀ w ∈ u_ws RX6 TX6 9, w ∈ wsX6_wrong := fun w h9 => List.mem_cons_of_mem _ (List.mem_append_right _ h9)
  have lf53 := hts (.fieldLink RX6 53 "LastCook$Tape" "place" "I") (List.mem_cons_of_mem _ (List.mem_append_left _ (List.mem_of_getElem? (i := 0) rfl)))
  have lf47 := hts (.fieldLink RX6 47 "LastCook$Tape" "fault" "I") (List.mem_cons_of_mem _ (List.mem_append_left _ (List.mem_of_getElem? (i := 1) rfl)))
  subst hsz
  have hD := hD0.self (sz := s.heap.size)
  generalize hAe : va_A [(ta, kO 6 [.ref ta_signs, .ref ta_words, .int (nI ta_length), .int (nI ta_next), .int ta_place, .int ta_kind, .int ta_value, .long ta_letters, .int ta_fault])] s.heap.size = A at hD ⊢
  have hA : ∀ q : Nat, s.heap.size ≤ q → A q := fun q h => by rw [← hAe]; exact Or.inr h
  have hS : va_S A s.heap s.heap [] := va_S.rf
  have hl := lv_entry ([.ref ta, .int x]) (n := 2) (Nat.le_of_ble_eq_true rfl)
  rw [show entryFrame m args 2 = entryFrame m ([.ref ta, .int x] : List Value).toArray 2 by rw [hav], lg_entry_eq]
  generalize (lg_sl ([.ref ta, .int x]) ++ List.replicate (2 - (lg_sl ([.ref ta, .int x])).length) Slot.unset).toArray = ls at hl ⊢
  have hl : lv_has ls 2 [(0, .ref ta), (1, .int x)] := hl
  obtain ⟨R, hR⟩ : ∃ R, R = (headSpec wsX6_wrong ({ frames := 0, cells := 0, slots := 0, locals := 0 } : Room)).room := ⟨_, rfl⟩
  rw [← hR]
  generalize hQ : MQ below _ args s 0 0 A = Q
  replace hQ := hQ.symm
  obtain ⟨H, hH⟩ : ∃ H, H = s.heap := ⟨_, rfl⟩
  rw [← hH] at hP ⊢
  have hS : va_S A s.heap H [] := by rw [hH]; exact hS
  obtain ⟨E0, hE0⟩ : ∃ E0 : Int32 × Bool, E0 = (fX6_wrong x ta_place) := ⟨_, rfl⟩
  have hZ : (fX6_wrong x ta_place) = E0 := hE0.symm
  refine lv_aload_n hx hb dX6_wrong_0 rfl (lv_at hl 0 rfl) ?_
  refine lv_iload_n hx hb dX6_wrong_1 rfl (lv_at hl 1 rfl) ?_
  refine lv_bipush (v := 16) hx hb dX6_wrong_2 (by decide) ?_
  refine lv_aload_n hx hb dX6_wrong_4 rfl (lv_at hl 0 rfl) ?_
  refine va_get (D := D) (ci := 6) (v := .int ta_place) (C := RX6) (T := TX6) (N := 9) hx hb hts hi6 hown hK hP 0 rfl rfl 4 (by decide) lf53 (fun _ h9 => h9) rfl dX6_wrong_5 ?_
  refine lv_imul hx hb dX6_wrong_8 ?_
  refine lv_iadd hx hb dX6_wrong_9 ?_
  refine va_put (D := D) (ci := 6) (v := .int (x + (16 * ta_place))) (ty := .int) (C := RX6) (T := TX6) (N := 9) hx hb hts hi6 tyX6 tyX6_ok nmX6 hown hK hP hD hS 0 rfl rfl 8 (by decide) lf47 (fun _ h9 => h9) rfl (by decide +kernel) rfl rfl (Nat.le_of_ble_eq_true rfl) dX6_wrong_10 (fun H locs hP hD hS => ?_)
  exact by
   have hP : va_P D vwCl [(ta, kO 6 [.ref ta_signs, .ref ta_words, .int (nI ta_length), .int (nI ta_next), .int ta_place, .int ta_kind, .int ta_value, .long ta_letters, .int (x + (16 * ta_place))])] H := hP
   have hD : va_D A [(ta, kO 6 [.ref ta_signs, .ref ta_words, .int (nI ta_length), .int (nI ta_next), .int ta_place, .int ta_kind, .int ta_value, .long ta_letters, .int (x + (16 * ta_place))])] := hD
   refine lv_iconst (v := 0) hx hb dX6_wrong_13 (by decide) ?_
   rw [hQ]
   have hP9 := hP.sub (ws' := [(ta, kO 6 [.ref ta_signs, .ref ta_words, .int (nI ta_length), .int (nI ta_next), .int ta_place, .int ta_kind, .int ta_value, .long ta_letters, .int (x + (16 * ta_place))])]) [0] rfl
   have hD9 := hD.sub (ws' := [(ta, kO 6 [.ref ta_signs, .ref ta_words, .int (nI ta_length), .int (nI ta_next), .int ta_place, .int ta_kind, .int ta_value, .long ta_letters, .int (x + (16 * ta_place))])]) [0] (by decide +kernel) rfl
   exact W.zret (v := 0) hx hb hr rfl (fun zt ht hW => ⟨⟨0, ⟨(x + (16 * ta_place)), false⟩, rfl, ⟨rfl, (hZ.trans hE0)⟩, by rw [ht]; exact hP9, hD9⟩, hS.F ht⟩) hS.2.2 dX6_wrong_14
set_option maxHeartbeats 4000000 in
set_option maxRecDepth 100000 in
theorem sX8_isWithin (l : Launch) (D : va_G) (k : Nat → ClassId) (sz : Nat) (x : Int32) (lo : Int32) (hi : Int32) : Met l yX8_isWithin wsX8_isWithin ({ frames := 0, cells := 0, slots := 0, locals := 0 }) (va_Pc [.int x, .int lo, .int hi] (kz_Pre D k [] sz)) (va_Qi (fun (rr : Int32) (uu : Bool) => rr = bB uu ∧ ((uu) = (fX8_isWithin x lo hi)) ∧ (uu = true → (Int32.toInt lo ≤ Int32.toInt x ∧ Int32.toInt x ≤ Int32.toInt hi))) (fun uu zt => kz_B D (va_A [] sz) [] zt) (va_A [] sz)) 0 0 (va_A [] sz) := by
  refine Met.ofW (cc := cX8_isWithin) (maxL := 3) (ret := (some .boolean)) (by decide) rfl ?_
  intro p e s m args below meth c s₁ B hml hv
  obtain ⟨hav, hsz, hP, hK, hD0, hE⟩ := hv
  have hx := B.exec
  have hb := B.bytes
  have hr := B.returns
  have hts := atoms_spec (ws := wsX8_isWithin) B.pre
  have hown : s.vm.findClass RX8 = some m.cls := findClass_of_methodNamed B.named
  have hlocks := B.notSynchronized
  subst hsz
  have hD := hD0.self (sz := s.heap.size)
  generalize hAe : va_A [] s.heap.size = A at hD ⊢
  have hA : ∀ q : Nat, s.heap.size ≤ q → A q := fun q h => by rw [← hAe]; exact Or.inr h
  have hS : va_S A s.heap s.heap [] := va_S.rf
  have hl := lv_entry ([.int x, .int lo, .int hi]) (n := 3) (Nat.le_of_ble_eq_true rfl)
  rw [show entryFrame m args 3 = entryFrame m ([.int x, .int lo, .int hi] : List Value).toArray 3 by rw [hav], lg_entry_eq]
  generalize (lg_sl ([.int x, .int lo, .int hi]) ++ List.replicate (3 - (lg_sl ([.int x, .int lo, .int hi])).length) Slot.unset).toArray = ls at hl ⊢
  have hl : lv_has ls 3 [(0, .int x), (1, .int lo), (2, .int hi)] := hl
  obtain ⟨R, hR⟩ : ∃ R, R = (headSpec wsX8_isWithin ({ frames := 0, cells := 0, slots := 0, locals := 0 } : Room)).room := ⟨_, rfl⟩
  rw [← hR]
  generalize hQ : MQ below _ args s 0 0 A = Q
  replace hQ := hQ.symm
  obtain ⟨H, hH⟩ : ∃ H, H = s.heap := ⟨_, rfl⟩
  rw [← hH] at hP ⊢
  have hS : va_S A s.heap H [] := by rw [hH]; exact hS
  obtain ⟨E0, hE0⟩ : ∃ E0 : Bool, E0 = (fX8_isWithin x lo hi) := ⟨_, rfl⟩
  have hZ : (fX8_isWithin x lo hi) = E0 := hE0.symm
  refine lv_iload_n hx hb dX8_isWithin_0 rfl (lv_at hl 0 rfl) ?_
  refine lv_iload_n hx hb dX8_isWithin_1 rfl (lv_at hl 1 rfl) ?_
  have hj14_1 : ∀ (H : Heap) (locs : List Loc) (ls : Array Slot), (fX8_isWithin_J14a = E0) → va_P D vwCl [] H → va_D A [] → va_S A s.heap H locs → lv_has ls 3 [(0, .int x), (1, .int lo), (2, .int hi)] → W p l e R s m args below meth c H locs 0 0 Q (F0 m 14 ls []) := by
    intro H locs ls hZ hP hD hS hl
    refine lv_iconst (v := 0) hx hb dX8_isWithin_14 (by decide) ?_
    rw [hQ]
    have hP9 := hP.sub (ws' := []) [] rfl
    have hD9 := hD.sub (ws' := []) [] (by decide) rfl
    exact W.zret (v := 0) hx hb hr rfl (fun zt ht hW => ⟨⟨0, false, rfl, ⟨rfl, (hZ.trans hE0), (fun h9 => by first | exact absurd h9 (by decide) | exact Bool.noConfusion h9 | omega | (dsimp only; omega))⟩, by rw [ht]; exact hP9, hD9⟩, hS.F ht⟩) hS.2.2 dX8_isWithin_15
  refine lv_icmp_lt (tgt := 14) hx hb dX8_isWithin_2 (by decide) (fun c_2 => ?_) (fun c_2 => ?_)
  · exact by
     have t_2 : (Int32.toInt x) < (Int32.toInt lo) := tI_lt rfl rfl c_2
     have hZ := (if_pos c_2).symm.trans hZ
     exact hj14_1 _ _ _ hZ (hP.sub [] rfl) (hD.sub [] (by decide) rfl) hS (lv_sub hl [0, 1, 2] rfl)
  · exact by
     have t_2 : (Int32.toInt x) ≥ (Int32.toInt lo) := tI_nlt rfl rfl c_2
     have hZ := (if_neg c_2).symm.trans hZ
     refine lv_iload_n hx hb dX8_isWithin_5 rfl (lv_at hl 0 rfl) ?_
     refine lv_iload_n hx hb dX8_isWithin_6 rfl (lv_at hl 2 rfl) ?_
     refine lv_icmp_gt (tgt := 14) hx hb dX8_isWithin_7 (by decide) (fun c_3 => ?_) (fun c_3 => ?_)
     · exact by
        have t_3 : (Int32.toInt hi) < (Int32.toInt x) := tI_lt rfl rfl c_3
        have hZ := (if_pos c_3).symm.trans hZ
        exact hj14_1 _ _ _ hZ (hP.sub [] rfl) (hD.sub [] (by decide) rfl) hS (lv_sub hl [0, 1, 2] rfl)
     · exact by
        have t_3 : (Int32.toInt hi) ≥ (Int32.toInt x) := tI_nlt rfl rfl c_3
        have hZ := (if_neg c_3).symm.trans hZ
        refine lv_iconst (v := 1) hx hb dX8_isWithin_10 (by decide) ?_
        refine lv_goto (tgt := 15) hx hb dX8_isWithin_11 (by decide) ?_
        rw [hQ]
        have hP9 := hP.sub (ws' := []) [] rfl
        have hD9 := hD.sub (ws' := []) [] (by decide) rfl
        exact W.zret (v := 1) hx hb hr rfl (fun zt ht hW => ⟨⟨1, true, rfl, ⟨rfl, (hZ.trans hE0), (fun h9 => by first | exact absurd h9 (by decide) | exact Bool.noConfusion h9 | omega | (dsimp only; omega))⟩, by rw [ht]; exact hP9, hD9⟩, hS.F ht⟩) hS.2.2 dX8_isWithin_15
theorem dX6_takeSign_0 : decode cX6_takeSign 0 = .ok (.aload_n 0, 1) := dk_aload_n_0 (by decide +kernel)
theorem dX6_takeSign_1 : decode cX6_takeSign 1 = .ok (.iload_n 1, 1) := dk_iload_n_1 (by decide +kernel)
theorem dX6_takeSign_2 : decode cX6_takeSign 2 = .ok (.invokevirtual 83, 3) := dk_invokevirtual (by decide +kernel)
theorem dX6_takeSign_5 : decode cX6_takeSign 5 = .ok (.ifCond .ne 9, 3) := dk_ifCond_ne (by decide +kernel)
theorem dX6_takeSign_8 : decode cX6_takeSign 8 = .ok (.aload_n 0, 1) := dk_aload_n_0 (by decide +kernel)
theorem dX6_takeSign_9 : decode cX6_takeSign 9 = .ok (.iconst 1, 1) := dk_iconst_1 (by decide +kernel)
theorem dX6_takeSign_10 : decode cX6_takeSign 10 = .ok (.invokevirtual 87, 3) := dk_invokevirtual (by decide +kernel)
theorem dX6_takeSign_13 : decode cX6_takeSign 13 = .ok (.ireturn, 1) := dk_ireturn (by decide +kernel)
theorem dX6_takeSign_14 : decode cX6_takeSign 14 = .ok (.aload_n 0, 1) := dk_aload_n_0 (by decide +kernel)
theorem dX6_takeSign_15 : decode cX6_takeSign 15 = .ok (.invokevirtual 50, 3) := dk_invokevirtual (by decide +kernel)
theorem dX6_takeSign_18 : decode cX6_takeSign 18 = .ok (.iconst 1, 1) := dk_iconst_1 (by decide +kernel)
theorem dX6_takeSign_19 : decode cX6_takeSign 19 = .ok (.ireturn, 1) := dk_ireturn (by decide +kernel)
set_option maxRecDepth 20000 in
theorem ggX6_takeSign_X6_isSign : GoodIn wsX6_takeSign wsX6_isSign := goodIn_sub (sub_cons (List.mem_cons_of_mem _ (List.mem_append_left _ (List.mem_append_left _ (List.mem_of_getElem? (i := 4) rfl)))) (sub_app (sub_cons (List.mem_cons_of_mem _ (List.mem_append_left _ (List.mem_append_left _ (List.mem_of_getElem? (i := 5) rfl)))) (sub_cons (List.mem_cons_of_mem _ (List.mem_append_left _ (List.mem_append_left _ (List.mem_of_getElem? (i := 6) rfl)))) sub_nil)) (fun w h9 => (List.mem_cons_of_mem _ (List.mem_append_right _ h9))))) gw_X6_isSign
set_option maxRecDepth 20000 in
theorem gX6_takeSign_X6_isSign : GoodIn wsX6_takeSign (wsV RX6 83 RX6 yX6_isSign wsX6_isSign) := goodIn_app (goodIn_sub (sub_cons (List.mem_cons_of_mem _ (List.mem_append_left _ (List.mem_append_left _ (List.mem_of_getElem? (i := 0) rfl)))) (sub_cons (List.mem_cons_of_mem _ (List.mem_append_left _ (List.mem_append_left _ (List.mem_of_getElem? (i := 1) rfl)))) (sub_cons (List.mem_cons_of_mem _ (List.mem_append_left _ (List.mem_append_left _ (List.mem_of_getElem? (i := 2) rfl)))) (sub_cons (List.mem_cons_of_mem _ (List.mem_append_left _ (List.mem_append_left _ (List.mem_of_getElem? (i := 3) rfl)))) sub_nil)))) (by decide +kernel)) ggX6_takeSign_X6_isSign
set_option maxRecDepth 20000 in
theorem ggX6_takeSign_X6_advance : GoodIn wsX6_takeSign wsX6_advance := goodIn_sub (sub_cons (List.mem_cons_of_mem _ (List.mem_append_left _ (List.mem_append_left _ (List.mem_of_getElem? (i := 16) rfl)))) (sub_app (sub_app (sub_cons (List.mem_cons_of_mem _ (List.mem_append_left _ (List.mem_append_left _ (List.mem_of_getElem? (i := 17) rfl)))) (sub_cons (List.mem_cons_of_mem _ (List.mem_append_left _ (List.mem_append_left _ (List.mem_of_getElem? (i := 18) rfl)))) (sub_cons (List.mem_cons_of_mem _ (List.mem_append_left _ (List.mem_append_left _ (List.mem_of_getElem? (i := 19) rfl)))) (sub_cons (List.mem_cons_of_mem _ (List.mem_append_left _ (List.mem_append_left _ (List.mem_of_getElem? (i := 11) rfl)))) (sub_cons (List.mem_cons_of_mem _ (List.mem_append_left _ (List.mem_append_left _ (List.mem_of_getElem? (i := 6) rfl)))) (sub_cons (List.mem_cons_of_mem _ (List.mem_append_left _ (List.mem_append_left _ (List.mem_of_getElem? (i := 5) rfl)))) (sub_cons (List.mem_cons_of_mem _ (List.mem_append_left _ (List.mem_append_left _ (List.mem_of_getElem? (i := 20) rfl)))) (sub_cons (List.mem_cons_of_mem _ (List.mem_append_left _ (List.mem_append_left _ (List.mem_of_getElem? (i := 21) rfl)))) (sub_cons (List.mem_cons_of_mem _ (List.mem_append_left _ (List.mem_append_left _ (List.mem_of_getElem? (i := 3) rfl)))) (sub_cons (List.mem_cons_of_mem _ (List.mem_append_left _ (List.mem_append_left _ (List.mem_of_getElem? (i := 22) rfl)))) (sub_cons (List.mem_cons_of_mem _ (List.mem_append_left _ (List.mem_append_left _ (List.mem_of_getElem? (i := 23) rfl)))) (sub_cons (List.mem_cons_of_mem _ (List.mem_append_left _ (List.mem_append_right _ (List.mem_append_left _ (List.mem_of_getElem? (i := 0) rfl))))) (sub_cons (List.mem_cons_of_mem _ (List.mem_append_left _ (List.mem_append_right _ (List.mem_append_left _ (List.mem_of_getElem? (i := 1) rfl))))) (sub_cons (List.mem_cons_of_mem _ (List.mem_append_left _ (List.mem_append_right _ (List.mem_append_left _ (List.mem_of_getElem? (i := 2) rfl))))) (sub_cons (List.mem_cons_of_mem _ (List.mem_append_left _ (List.mem_append_right _ (List.mem_append_left _ (List.mem_of_getElem? (i := 3) rfl))))) (sub_cons (List.mem_cons_of_mem _ (List.mem_append_left _ (List.mem_append_right _ (List.mem_append_left _ (List.mem_of_getElem? (i := 4) rfl))))) (sub_cons (List.mem_cons_of_mem _ (List.mem_append_left _ (List.mem_append_right _ (List.mem_append_left _ (List.mem_of_getElem? (i := 5) rfl))))) (sub_cons (List.mem_cons_of_mem _ (List.mem_append_left _ (List.mem_append_right _ (List.mem_append_left _ (List.mem_of_getElem? (i := 6) rfl))))) (sub_cons (List.mem_cons_of_mem _ (List.mem_append_left _ (List.mem_append_right _ (List.mem_append_left _ (List.mem_of_getElem? (i := 7) rfl))))) (sub_cons (List.mem_cons_of_mem _ (List.mem_append_left _ (List.mem_append_right _ (List.mem_append_left _ (List.mem_of_getElem? (i := 8) rfl))))) (sub_cons (List.mem_cons_of_mem _ (List.mem_append_left _ (List.mem_append_right _ (List.mem_append_left _ (List.mem_of_getElem? (i := 9) rfl))))) (sub_cons (List.mem_cons_of_mem _ (List.mem_append_left _ (List.mem_append_right _ (List.mem_append_left _ (List.mem_of_getElem? (i := 10) rfl))))) (sub_cons (List.mem_cons_of_mem _ (List.mem_append_left _ (List.mem_append_right _ (List.mem_append_left _ (List.mem_of_getElem? (i := 11) rfl))))) (sub_cons (List.mem_cons_of_mem _ (List.mem_append_left _ (List.mem_append_right _ (List.mem_append_left _ (List.mem_of_getElem? (i := 12) rfl))))) sub_nil)))))))))))))))))))))))) (sub_app (sub_cons (List.mem_cons_of_mem _ (List.mem_append_left _ (List.mem_append_right _ (List.mem_append_left _ (List.mem_of_getElem? (i := 13) rfl))))) (sub_cons (List.mem_cons_of_mem _ (List.mem_append_left _ (List.mem_append_right _ (List.mem_append_left _ (List.mem_of_getElem? (i := 14) rfl))))) (sub_cons (List.mem_cons_of_mem _ (List.mem_append_left _ (List.mem_append_right _ (List.mem_append_left _ (List.mem_of_getElem? (i := 15) rfl))))) (sub_cons (List.mem_cons_of_mem _ (List.mem_append_left _ (List.mem_append_right _ (List.mem_append_left _ (List.mem_of_getElem? (i := 16) rfl))))) (sub_cons (List.mem_cons_of_mem _ (List.mem_append_left _ (List.mem_append_right _ (List.mem_append_left _ (List.mem_of_getElem? (i := 17) rfl))))) (sub_cons (List.mem_cons_of_mem _ (List.mem_append_left _ (List.mem_append_right _ (List.mem_append_left _ (List.mem_of_getElem? (i := 18) rfl))))) (sub_cons (List.mem_cons_of_mem _ (List.mem_append_left _ (List.mem_append_right _ (List.mem_append_left _ (List.mem_of_getElem? (i := 19) rfl))))) (sub_cons (List.mem_cons_of_mem _ (List.mem_append_left _ (List.mem_append_right _ (List.mem_append_left _ (List.mem_of_getElem? (i := 20) rfl))))) (sub_cons (List.mem_cons_of_mem _ (List.mem_append_left _ (List.mem_append_right _ (List.mem_append_left _ (List.mem_of_getElem? (i := 21) rfl))))) (sub_cons (List.mem_cons_of_mem _ (List.mem_append_left _ (List.mem_append_right _ (List.mem_append_left _ (List.mem_of_getElem? (i := 22) rfl))))) (sub_cons (List.mem_cons_of_mem _ (List.mem_append_left _ (List.mem_append_right _ (List.mem_append_left _ (List.mem_of_getElem? (i := 23) rfl))))) (sub_cons (List.mem_cons_of_mem _ (List.mem_append_left _ (List.mem_append_right _ (List.mem_append_right _ (List.mem_append_left _ (List.mem_of_getElem? (i := 0) rfl)))))) (sub_cons (List.mem_cons_of_mem _ (List.mem_append_left _ (List.mem_append_right _ (List.mem_append_right _ (List.mem_append_left _ (List.mem_of_getElem? (i := 1) rfl)))))) (sub_cons (List.mem_cons_of_mem _ (List.mem_append_left _ (List.mem_append_right _ (List.mem_append_right _ (List.mem_append_left _ (List.mem_of_getElem? (i := 2) rfl)))))) (sub_cons (List.mem_cons_of_mem _ (List.mem_append_left _ (List.mem_append_right _ (List.mem_append_right _ (List.mem_append_left _ (List.mem_of_getElem? (i := 3) rfl)))))) (sub_cons (List.mem_cons_of_mem _ (List.mem_append_left _ (List.mem_append_right _ (List.mem_append_right _ (List.mem_append_left _ (List.mem_of_getElem? (i := 4) rfl)))))) (sub_cons (List.mem_cons_of_mem _ (List.mem_append_left _ (List.mem_append_right _ (List.mem_append_right _ (List.mem_append_left _ (List.mem_of_getElem? (i := 5) rfl)))))) (sub_cons (List.mem_cons_of_mem _ (List.mem_append_left _ (List.mem_append_right _ (List.mem_append_right _ (List.mem_append_left _ (List.mem_of_getElem? (i := 6) rfl)))))) (sub_cons (List.mem_cons_of_mem _ (List.mem_append_left _ (List.mem_append_right _ (List.mem_append_right _ (List.mem_append_left _ (List.mem_of_getElem? (i := 7) rfl)))))) (sub_cons (List.mem_cons_of_mem _ (List.mem_append_left _ (List.mem_append_right _ (List.mem_append_right _ (List.mem_append_left _ (List.mem_of_getElem? (i := 8) rfl)))))) (sub_cons (List.mem_cons_of_mem _ (List.mem_append_left _ (List.mem_append_right _ (List.mem_append_right _ (List.mem_append_left _ (List.mem_of_getElem? (i := 9) rfl)))))) (sub_cons (List.mem_cons_of_mem _ (List.mem_append_left _ (List.mem_append_right _ (List.mem_append_right _ (List.mem_append_left _ (List.mem_of_getElem? (i := 10) rfl)))))) (sub_cons (List.mem_cons_of_mem _ (List.mem_append_left _ (List.mem_append_right _ (List.mem_append_right _ (List.mem_append_left _ (List.mem_of_getElem? (i := 11) rfl)))))) (sub_cons (List.mem_cons_of_mem _ (List.mem_append_left _ (List.mem_append_right _ (List.mem_append_right _ (List.mem_append_left _ (List.mem_of_getElem? (i := 12) rfl)))))) sub_nil)))))))))))))))))))))))) (sub_app (sub_cons (List.mem_cons_of_mem _ (List.mem_append_left _ (List.mem_append_right _ (List.mem_append_right _ (List.mem_append_left _ (List.mem_of_getElem? (i := 13) rfl)))))) (sub_cons (List.mem_cons_of_mem _ (List.mem_append_left _ (List.mem_append_right _ (List.mem_append_right _ (List.mem_append_left _ (List.mem_of_getElem? (i := 14) rfl)))))) (sub_cons (List.mem_cons_of_mem _ (List.mem_append_left _ (List.mem_append_right _ (List.mem_append_right _ (List.mem_append_left _ (List.mem_of_getElem? (i := 15) rfl)))))) (sub_cons (List.mem_cons_of_mem _ (List.mem_append_left _ (List.mem_append_right _ (List.mem_append_right _ (List.mem_append_left _ (List.mem_of_getElem? (i := 16) rfl)))))) (sub_cons (List.mem_cons_of_mem _ (List.mem_append_left _ (List.mem_append_right _ (List.mem_append_right _ (List.mem_append_left _ (List.mem_of_getElem? (i := 17) rfl)))))) (sub_cons (List.mem_cons_of_mem _ (List.mem_append_left _ (List.mem_append_right _ (List.mem_append_right _ (List.mem_append_left _ (List.mem_of_getElem? (i := 18) rfl)))))) (sub_cons (List.mem_cons_of_mem _ (List.mem_append_left _ (List.mem_append_right _ (List.mem_append_right _ (List.mem_append_left _ (List.mem_of_getElem? (i := 19) rfl)))))) (sub_cons (List.mem_cons_of_mem _ (List.mem_append_left _ (List.mem_append_right _ (List.mem_append_right _ (List.mem_append_left _ (List.mem_of_getElem? (i := 20) rfl)))))) (sub_cons (List.mem_cons_of_mem _ (List.mem_append_left _ (List.mem_append_right _ (List.mem_append_right _ (List.mem_append_left _ (List.mem_of_getElem? (i := 21) rfl)))))) (sub_cons (List.mem_cons_of_mem _ (List.mem_append_left _ (List.mem_append_right _ (List.mem_append_right _ (List.mem_append_left _ (List.mem_of_getElem? (i := 22) rfl)))))) (sub_cons (List.mem_cons_of_mem _ (List.mem_append_left _ (List.mem_append_right _ (List.mem_append_right _ (List.mem_append_left _ (List.mem_of_getElem? (i := 23) rfl)))))) (sub_cons (List.mem_cons_of_mem _ (List.mem_append_left _ (List.mem_append_right _ (List.mem_append_right _ (List.mem_append_right _ (List.mem_append_left _ (List.mem_of_getElem? (i := 0) rfl))))))) (sub_cons (List.mem_cons_of_mem _ (List.mem_append_left _ (List.mem_append_right _ (List.mem_append_right _ (List.mem_append_right _ (List.mem_append_left _ (List.mem_of_getElem? (i := 1) rfl))))))) (sub_cons (List.mem_cons_of_mem _ (List.mem_append_left _ (List.mem_append_right _ (List.mem_append_right _ (List.mem_append_right _ (List.mem_append_left _ (List.mem_of_getElem? (i := 2) rfl))))))) (sub_cons (List.mem_cons_of_mem _ (List.mem_append_left _ (List.mem_append_right _ (List.mem_append_right _ (List.mem_append_right _ (List.mem_append_left _ (List.mem_of_getElem? (i := 3) rfl))))))) (sub_cons (List.mem_cons_of_mem _ (List.mem_append_left _ (List.mem_append_right _ (List.mem_append_right _ (List.mem_append_right _ (List.mem_append_left _ (List.mem_of_getElem? (i := 4) rfl))))))) (sub_cons (List.mem_cons_of_mem _ (List.mem_append_left _ (List.mem_append_right _ (List.mem_append_right _ (List.mem_append_right _ (List.mem_append_left _ (List.mem_of_getElem? (i := 5) rfl))))))) (sub_cons (List.mem_cons_of_mem _ (List.mem_append_left _ (List.mem_append_right _ (List.mem_append_right _ (List.mem_append_right _ (List.mem_append_left _ (List.mem_of_getElem? (i := 6) rfl))))))) (sub_cons (List.mem_cons_of_mem _ (List.mem_append_left _ (List.mem_append_right _ (List.mem_append_right _ (List.mem_append_right _ (List.mem_append_left _ (List.mem_of_getElem? (i := 7) rfl))))))) (sub_cons (List.mem_cons_of_mem _ (List.mem_append_left _ (List.mem_append_right _ (List.mem_append_right _ (List.mem_append_right _ (List.mem_append_left _ (List.mem_of_getElem? (i := 8) rfl))))))) (sub_cons (List.mem_cons_of_mem _ (List.mem_append_left _ (List.mem_append_right _ (List.mem_append_right _ (List.mem_append_right _ (List.mem_append_left _ (List.mem_of_getElem? (i := 9) rfl))))))) (sub_cons (List.mem_cons_of_mem _ (List.mem_append_left _ (List.mem_append_right _ (List.mem_append_right _ (List.mem_append_right _ (List.mem_append_left _ (List.mem_of_getElem? (i := 10) rfl))))))) (sub_cons (List.mem_cons_of_mem _ (List.mem_append_left _ (List.mem_append_right _ (List.mem_append_right _ (List.mem_append_right _ (List.mem_append_left _ (List.mem_of_getElem? (i := 11) rfl))))))) (sub_cons (List.mem_cons_of_mem _ (List.mem_append_left _ (List.mem_append_right _ (List.mem_append_right _ (List.mem_append_right _ (List.mem_append_left _ (List.mem_of_getElem? (i := 12) rfl))))))) sub_nil)))))))))))))))))))))))) (sub_app (sub_cons (List.mem_cons_of_mem _ (List.mem_append_left _ (List.mem_append_right _ (List.mem_append_right _ (List.mem_append_right _ (List.mem_append_left _ (List.mem_of_getElem? (i := 13) rfl))))))) (sub_cons (List.mem_cons_of_mem _ (List.mem_append_left _ (List.mem_append_right _ (List.mem_append_right _ (List.mem_append_right _ (List.mem_append_left _ (List.mem_of_getElem? (i := 14) rfl))))))) (sub_cons (List.mem_cons_of_mem _ (List.mem_append_left _ (List.mem_append_right _ (List.mem_append_right _ (List.mem_append_right _ (List.mem_append_left _ (List.mem_of_getElem? (i := 15) rfl))))))) (sub_cons (List.mem_cons_of_mem _ (List.mem_append_left _ (List.mem_append_right _ (List.mem_append_right _ (List.mem_append_right _ (List.mem_append_left _ (List.mem_of_getElem? (i := 16) rfl))))))) (sub_cons (List.mem_cons_of_mem _ (List.mem_append_left _ (List.mem_append_right _ (List.mem_append_right _ (List.mem_append_right _ (List.mem_append_left _ (List.mem_of_getElem? (i := 17) rfl))))))) (sub_cons (List.mem_cons_of_mem _ (List.mem_append_left _ (List.mem_append_right _ (List.mem_append_right _ (List.mem_append_right _ (List.mem_append_left _ (List.mem_of_getElem? (i := 18) rfl))))))) (sub_cons (List.mem_cons_of_mem _ (List.mem_append_left _ (List.mem_append_right _ (List.mem_append_right _ (List.mem_append_right _ (List.mem_append_left _ (List.mem_of_getElem? (i := 19) rfl))))))) (sub_cons (List.mem_cons_of_mem _ (List.mem_append_left _ (List.mem_append_right _ (List.mem_append_right _ (List.mem_append_right _ (List.mem_append_left _ (List.mem_of_getElem? (i := 20) rfl))))))) (sub_cons (List.mem_cons_of_mem _ (List.mem_append_left _ (List.mem_append_right _ (List.mem_append_right _ (List.mem_append_right _ (List.mem_append_left _ (List.mem_of_getElem? (i := 21) rfl))))))) (sub_cons (List.mem_cons_of_mem _ (List.mem_append_left _ (List.mem_append_right _ (List.mem_append_right _ (List.mem_append_right _ (List.mem_append_left _ (List.mem_of_getElem? (i := 22) rfl))))))) (sub_cons (List.mem_cons_of_mem _ (List.mem_append_left _ (List.mem_append_right _ (List.mem_append_right _ (List.mem_append_right _ (List.mem_append_left _ (List.mem_of_getElem? (i := 23) rfl))))))) (sub_cons (List.mem_cons_of_mem _ (List.mem_append_left _ (List.mem_append_right _ (List.mem_append_right _ (List.mem_append_right _ (List.mem_append_right _ (List.mem_append_left _ (List.mem_of_getElem? (i := 0) rfl)))))))) (sub_cons (List.mem_cons_of_mem _ (List.mem_append_left _ (List.mem_append_right _ (List.mem_append_right _ (List.mem_append_right _ (List.mem_append_right _ (List.mem_append_left _ (List.mem_of_getElem? (i := 1) rfl)))))))) (sub_cons (List.mem_cons_of_mem _ (List.mem_append_left _ (List.mem_append_right _ (List.mem_append_right _ (List.mem_append_right _ (List.mem_append_right _ (List.mem_append_left _ (List.mem_of_getElem? (i := 2) rfl)))))))) (sub_cons (List.mem_cons_of_mem _ (List.mem_append_left _ (List.mem_append_right _ (List.mem_append_right _ (List.mem_append_right _ (List.mem_append_right _ (List.mem_append_left _ (List.mem_of_getElem? (i := 3) rfl)))))))) (sub_cons (List.mem_cons_of_mem _ (List.mem_append_left _ (List.mem_append_right _ (List.mem_append_right _ (List.mem_append_right _ (List.mem_append_right _ (List.mem_append_left _ (List.mem_of_getElem? (i := 4) rfl)))))))) (sub_cons (List.mem_cons_of_mem _ (List.mem_append_left _ (List.mem_append_right _ (List.mem_append_right _ (List.mem_append_right _ (List.mem_append_right _ (List.mem_append_left _ (List.mem_of_getElem? (i := 5) rfl)))))))) (sub_cons (List.mem_cons_of_mem _ (List.mem_append_left _ (List.mem_append_right _ (List.mem_append_right _ (List.mem_append_right _ (List.mem_append_right _ (List.mem_append_left _ (List.mem_of_getElem? (i := 6) rfl)))))))) (sub_cons (List.mem_cons_of_mem _ (List.mem_append_left _ (List.mem_append_right _ (List.mem_append_right _ (List.mem_append_right _ (List.mem_append_right _ (List.mem_append_left _ (List.mem_of_getElem? (i := 7) rfl)))))))) (sub_cons (List.mem_cons_of_mem _ (List.mem_append_left _ (List.mem_append_right _ (List.mem_append_right _ (List.mem_append_right _ (List.mem_append_right _ (List.mem_append_left _ (List.mem_of_getElem? (i := 8) rfl)))))))) (sub_cons (List.mem_cons_of_mem _ (List.mem_append_left _ (List.mem_append_right _ (List.mem_append_right _ (List.mem_append_right _ (List.mem_append_right _ (List.mem_append_left _ (List.mem_of_getElem? (i := 9) rfl)))))))) (sub_cons (List.mem_cons_of_mem _ (List.mem_append_left _ (List.mem_append_right _ (List.mem_append_right _ (List.mem_append_right _ (List.mem_append_right _ (List.mem_append_left _ (List.mem_of_getElem? (i := 10) rfl)))))))) (sub_cons (List.mem_cons_of_mem _ (List.mem_append_left _ (List.mem_append_right _ (List.mem_append_right _ (List.mem_append_right _ (List.mem_append_right _ (List.mem_append_left _ (List.mem_of_getElem? (i := 11) rfl)))))))) (sub_cons (List.mem_cons_of_mem _ (List.mem_append_left _ (List.mem_append_right _ (List.mem_append_right _ (List.mem_append_right _ (List.mem_append_right _ (List.mem_append_left _ (List.mem_of_getElem? (i := 12) rfl)))))))) sub_nil)))))))))))))))))))))))) (sub_cons (List.mem_cons_of_mem _ (List.mem_append_left _ (List.mem_append_right _ (List.mem_append_right _ (List.mem_append_right _ (List.mem_append_right _ (List.mem_append_left _ (List.mem_of_getElem? (i := 13) rfl)))))))) (sub_cons (List.mem_cons_of_mem _ (List.mem_append_left _ (List.mem_append_right _ (List.mem_append_right _ (List.mem_append_right _ (List.mem_append_right _ (List.mem_append_left _ (List.mem_of_getElem? (i := 14) rfl)))))))) (sub_cons (List.mem_cons_of_mem _ (List.mem_append_left _ (List.mem_append_right _ (List.mem_append_right _ (List.mem_append_right _ (List.mem_append_right _ (List.mem_append_left _ (List.mem_of_getElem? (i := 15) rfl)))))))) (sub_cons (List.mem_cons_of_mem _ (List.mem_append_left _ (List.mem_append_right _ (List.mem_append_right _ (List.mem_append_right _ (List.mem_append_right _ (List.mem_append_left _ (List.mem_of_getElem? (i := 16) rfl)))))))) (sub_cons (List.mem_cons_of_mem _ (List.mem_append_left _ (List.mem_append_right _ (List.mem_append_right _ (List.mem_append_right _ (List.mem_append_right _ (List.mem_append_left _ (List.mem_of_getElem? (i := 17) rfl)))))))) (sub_cons (List.mem_cons_of_mem _ (List.mem_append_left _ (List.mem_append_right _ (List.mem_append_right _ (List.mem_append_right _ (List.mem_append_right _ (List.mem_append_left _ (List.mem_of_getElem? (i := 18) rfl)))))))) (sub_cons (List.mem_cons_of_mem _ (List.mem_append_left _ (List.mem_append_right _ (List.mem_append_right _ (List.mem_append_right _ (List.mem_append_right _ (List.mem_append_left _ (List.mem_of_getElem? (i := 19) rfl)))))))) (sub_cons (List.mem_cons_of_mem _ (List.mem_append_left _ (List.mem_append_right _ (List.mem_append_right _ (List.mem_append_right _ (List.mem_append_right _ (List.mem_append_left _ (List.mem_of_getElem? (i := 20) rfl)))))))) (sub_cons (List.mem_cons_of_mem _ (List.mem_append_left _ (List.mem_append_right _ (List.mem_append_right _ (List.mem_append_right _ (List.mem_append_right _ (List.mem_append_left _ (List.mem_of_getElem? (i := 21) rfl)))))))) (sub_cons (List.mem_cons_of_mem _ (List.mem_append_left _ (List.mem_append_right _ (List.mem_append_right _ (List.mem_append_right _ (List.mem_append_right _ (List.mem_append_left _ (List.mem_of_getElem? (i := 22) rfl)))))))) (sub_cons (List.mem_cons_of_mem _ (List.mem_append_left _ (List.mem_append_right _ (List.mem_append_right _ (List.mem_append_right _ (List.mem_append_right _ (List.mem_append_left _ (List.mem_of_getElem? (i := 23) rfl)))))))) (sub_cons (List.mem_cons_of_mem _ (List.mem_append_left _ (List.mem_append_right _ (List.mem_append_right _ (List.mem_append_right _ (List.mem_append_right _ (List.mem_append_right _ (List.mem_of_getElem? (i := 0) rfl)))))))) (sub_cons (List.mem_cons_of_mem _ (List.mem_append_left _ (List.mem_append_right _ (List.mem_append_right _ (List.mem_append_right _ (List.mem_append_right _ (List.mem_append_right _ (List.mem_of_getElem? (i := 1) rfl)))))))) (sub_cons (List.mem_cons_of_mem _ (List.mem_append_left _ (List.mem_append_right _ (List.mem_append_right _ (List.mem_append_right _ (List.mem_append_right _ (List.mem_append_right _ (List.mem_of_getElem? (i := 2) rfl)))))))) (sub_cons (List.mem_cons_of_mem _ (List.mem_append_left _ (List.mem_append_right _ (List.mem_append_right _ (List.mem_append_right _ (List.mem_append_right _ (List.mem_append_right _ (List.mem_of_getElem? (i := 3) rfl)))))))) (sub_cons (List.mem_cons_of_mem _ (List.mem_append_left _ (List.mem_append_right _ (List.mem_append_right _ (List.mem_append_right _ (List.mem_append_right _ (List.mem_append_right _ (List.mem_of_getElem? (i := 4) rfl)))))))) (sub_cons (List.mem_cons_of_mem _ (List.mem_append_left _ (List.mem_append_right _ (List.mem_append_right _ (List.mem_append_right _ (List.mem_append_right _ (List.mem_append_right _ (List.mem_of_getElem? (i := 5) rfl)))))))) (sub_cons (List.mem_cons_of_mem _ (List.mem_append_left _ (List.mem_append_right _ (List.mem_append_right _ (List.mem_append_right _ (List.mem_append_right _ (List.mem_append_right _ (List.mem_of_getElem? (i := 6) rfl)))))))) (sub_cons (List.mem_cons_of_mem _ (List.mem_append_left _ (List.mem_append_right _ (List.mem_append_right _ (List.mem_append_right _ (List.mem_append_right _ (List.mem_append_right _ (List.mem_of_getElem? (i := 7) rfl)))))))) (sub_cons (List.mem_cons_of_mem _ (List.mem_append_left _ (List.mem_append_right _ (List.mem_append_right _ (List.mem_append_right _ (List.mem_append_right _ (List.mem_append_right _ (List.mem_of_getElem? (i := 8) rfl)))))))) sub_nil)))))))))))))))))))))))) (fun w h9 => (List.mem_cons_of_mem _ (List.mem_append_right _ h9))))) gw_X6_advance
set_option maxRecDepth 20000 in
theorem gX6_takeSign_X6_advance : GoodIn wsX6_takeSign (wsV RX6 50 RX6 yX6_advance wsX6_advance) := goodIn_app (goodIn_sub (sub_cons (List.mem_cons_of_mem _ (List.mem_append_left _ (List.mem_append_left _ (List.mem_of_getElem? (i := 13) rfl)))) (sub_cons (List.mem_cons_of_mem _ (List.mem_append_left _ (List.mem_append_left _ (List.mem_of_getElem? (i := 14) rfl)))) (sub_cons (List.mem_cons_of_mem _ (List.mem_append_left _ (List.mem_append_left _ (List.mem_of_getElem? (i := 15) rfl)))) (sub_cons (List.mem_cons_of_mem _ (List.mem_append_left _ (List.mem_append_left _ (List.mem_of_getElem? (i := 3) rfl)))) sub_nil)))) (by decide +kernel)) ggX6_takeSign_X6_advance
set_option maxRecDepth 20000 in
theorem ggX6_takeSign_X6_wrong : GoodIn wsX6_takeSign wsX6_wrong := goodIn_sub (sub_cons (List.mem_cons_of_mem _ (List.mem_append_left _ (List.mem_append_left _ (List.mem_of_getElem? (i := 10) rfl)))) (sub_app (sub_cons (List.mem_cons_of_mem _ (List.mem_append_left _ (List.mem_append_left _ (List.mem_of_getElem? (i := 11) rfl)))) (sub_cons (List.mem_cons_of_mem _ (List.mem_append_left _ (List.mem_append_left _ (List.mem_of_getElem? (i := 12) rfl)))) sub_nil)) (fun w h9 => (List.mem_cons_of_mem _ (List.mem_append_right _ h9))))) gw_X6_wrong
set_option maxRecDepth 20000 in
theorem gX6_takeSign_X6_wrong : GoodIn wsX6_takeSign (wsV RX6 87 RX6 yX6_wrong wsX6_wrong) := goodIn_app (goodIn_sub (sub_cons (List.mem_cons_of_mem _ (List.mem_append_left _ (List.mem_append_left _ (List.mem_of_getElem? (i := 7) rfl)))) (sub_cons (List.mem_cons_of_mem _ (List.mem_append_left _ (List.mem_append_left _ (List.mem_of_getElem? (i := 8) rfl)))) (sub_cons (List.mem_cons_of_mem _ (List.mem_append_left _ (List.mem_append_left _ (List.mem_of_getElem? (i := 9) rfl)))) (sub_cons (List.mem_cons_of_mem _ (List.mem_append_left _ (List.mem_append_left _ (List.mem_of_getElem? (i := 3) rfl)))) sub_nil)))) (by decide +kernel)) ggX6_takeSign_X6_wrong
set_option maxHeartbeats 4000000 in
set_option maxRecDepth 100000 in
theorem sX6_takeSign (l : Launch) (D : va_G) (k : Nat → ClassId) (a0 sa sv : Nat) (f : Nat → Int32) (sz : Nat) (ta : Nat) (x : Int32) (ta_signs : Nat) (ta_words : Nat) (ta_length : Nat) (ta_next : Nat) (ta_place : Int32) (ta_kind : Int32) (ta_value : Int32) (ta_letters : Int64) (ta_fault : Int32) (ta_signsF : Nat → Int32) (ta_wordsF : Nat → Int64) (h_ta_length : ta_length ≤ 1000) (h_ta_next : ta_next ≤ 1000) : Met l yX6_takeSign wsX6_takeSign ({ frames := 5, cells := 0, slots := 0, locals := 350 }) (va_Pc [.ref ta, .int x] (kz_PreY D k [(ta, kO 6 [.ref ta_signs, .ref ta_words, .int (nI ta_length), .int (nI ta_next), .int ta_place, .int ta_kind, .int ta_value, .long ta_letters, .int ta_fault]), (ta_signs, kB k 1000 ta_signsF), (ta_words, kJ k 23 ta_wordsF)] a0 sa sv f sz)) (va_Qi (fun (rr : Int32) (uu : Nat × Int32 × Int32 × Int32 × Int64 × Int32 × Bool) => rr = bB uu.2.2.2.2.2.2 ∧ (uu.1 ≤ 1000) ∧ ((uu.1, uu.2.1, uu.2.2.1, uu.2.2.2.1, uu.2.2.2.2.1, uu.2.2.2.2.2.1, uu.2.2.2.2.2.2) = (fX6_takeSign x ta_length ta_next ta_place ta_kind ta_value ta_letters ta_fault ta_signsF ta_wordsF f))) (fun uu zt => kz_B D (va_A [(ta, kO 6 [.ref ta_signs, .ref ta_words, .int (nI ta_length), .int (nI ta_next), .int ta_place, .int ta_kind, .int ta_value, .long ta_letters, .int ta_fault]), (ta_signs, kB k 1000 ta_signsF), (ta_words, kJ k 23 ta_wordsF)] sz) [(ta, kO 6 [.ref ta_signs, .ref ta_words, .int (nI ta_length), .int (nI uu.1), .int uu.2.1, .int uu.2.2.1, .int uu.2.2.2.1, .long uu.2.2.2.2.1, .int uu.2.2.2.2.2.1]), (ta_signs, kB k 1000 ta_signsF), (ta_words, kJ k 23 ta_wordsF)] zt) (va_A [(ta, kO 6 [.ref ta_signs, .ref ta_words, .int (nI ta_length), .int (nI ta_next), .int ta_place, .int ta_kind, .int ta_value, .long ta_letters, .int ta_fault]), (ta_signs, kB k 1000 ta_signsF), (ta_words, kJ k 23 ta_wordsF)] sz)) 0 0 (va_A [(ta, kO 6 [.ref ta_signs, .ref ta_words, .int (nI ta_length), .int (nI ta_next), .int ta_place, .int ta_kind, .int ta_value, .long ta_letters, .int ta_fault]), (ta_signs, kB k 1000 ta_signsF), (ta_words, kJ k 23 ta_wordsF)] sz) := by
  refine Met.ofW (cc := cX6_takeSign) (maxL := 2) (ret := (some .boolean)) (by decide) rfl ?_
  intro p e s m args below meth c s₁ B hml hv
  obtain ⟨hav, ⟨hsz, hP, hK, hD0, hE⟩, ha0, hDa, hX⟩ := hv
  have hx := B.exec
  have hb := B.bytes
  have hr := B.returns
  have hts := atoms_spec (ws := wsX6_takeSign) B.pre
  have hown : s.vm.findClass RX6 = some m.cls := findClass_of_methodNamed B.named
  have hlocks := B.notSynchronized
  subst hsz
  have hD := hD0.self (sz := s.heap.size)
  generalize hAe : va_A [(ta, kO 6 [.ref ta_signs, .ref ta_words, .int (nI ta_length), .int (nI ta_next), .int ta_place, .int ta_kind, .int ta_value, .long ta_letters, .int ta_fault]), (ta_signs, kB k 1000 ta_signsF), (ta_words, kJ k 23 ta_wordsF)] s.heap.size = A at hD ⊢
  have hA : ∀ q : Nat, s.heap.size ≤ q → A q := fun q h => by rw [← hAe]; exact Or.inr h
  have hAX : ∀ q, A q → a0 ≤ q := fun q h => by rw [← hAe] at h; exact h.elim (fun ⟨k9, e9, h9⟩ => hDa.2 k9 _ h9) (fun e => Nat.le_trans ha0 e)
  obtain ⟨tx71, hR71⟩ := hX.1
  have hS : va_S A s.heap s.heap [] := va_S.rf
  have hl := lv_entry ([.ref ta, .int x]) (n := 2) (Nat.le_of_ble_eq_true rfl)
  rw [show entryFrame m args 2 = entryFrame m ([.ref ta, .int x] : List Value).toArray 2 by rw [hav], lg_entry_eq]
  generalize (lg_sl ([.ref ta, .int x]) ++ List.replicate (2 - (lg_sl ([.ref ta, .int x])).length) Slot.unset).toArray = ls at hl ⊢
  have hl : lv_has ls 2 [(0, .ref ta), (1, .int x)] := hl
  obtain ⟨R, hR⟩ : ∃ R, R = (headSpec wsX6_takeSign ({ frames := 5, cells := 0, slots := 0, locals := 350 } : Room)).room := ⟨_, rfl⟩
  rw [← hR]
  generalize hQ : MQ below _ args s 0 0 A = Q
  replace hQ := hQ.symm
  obtain ⟨H, hH⟩ : ∃ H, H = s.heap := ⟨_, rfl⟩
  rw [← hH] at hP ⊢
  have hS : va_S A s.heap H [] := by rw [hH]; exact hS
  obtain ⟨E0, hE0⟩ : ∃ E0 : Nat × Int32 × Int32 × Int32 × Int64 × Int32 × Bool, E0 = (fX6_takeSign x ta_length ta_next ta_place ta_kind ta_value ta_letters ta_fault ta_signsF ta_wordsF f) := ⟨_, rfl⟩
  have hZ : (fX6_takeSign x ta_length ta_next ta_place ta_kind ta_value ta_letters ta_fault ta_signsF ta_wordsF f) = E0 := hE0.symm
  refine lv_aload_n hx hb dX6_takeSign_0 rfl (lv_at hl 0 rfl) ?_
  refine lv_iload_n hx hb dX6_takeSign_1 rfl (lv_at hl 1 rfl) ?_
  refine kz_Vi (As := [.int x]) (rest := []) (wc := [(ta, kO 6 [.ref ta_signs, .ref ta_words, .int (nI ta_length), .int (nI ta_next), .int ta_place, .int ta_kind, .int ta_value, .long ta_letters, .int ta_fault])]) (wr := [(ta_signs, kB k 1000 ta_signsF), (ta_words, kJ k 23 ta_wordsF)]) ⟨hx, hb, hml, hown, hts⟩ hK hE hP hD hS hA (sX6_isSign l D k H.size ta x ta_signs ta_words ta_length ta_next ta_place ta_kind ta_value ta_letters ta_fault (by first | omega | assumption | decide) (by first | omega | assumption | decide)) (cwV 1 hts gX6_takeSign_X6_isSign rfl rfl rfl (by decide +kernel) (by rw [hR]; exact ⟨Nat.le_of_ble_eq_true rfl, Nat.le_of_ble_eq_true rfl⟩)) [0] [1, 2] rfl rfl (by decide +kernel) (by decide +kernel) (by decide +kernel) 0 rfl rfl rfl hl.1 rfl (Nat.le_of_ble_eq_true rfl) dX6_takeSign_2 (by rw [hR]; exact ⟨Nat.le_of_ble_eq_true rfl, Nat.le_of_ble_eq_true rfl⟩) (fun r1 u1 H locs hw1 hP hD hS => ?_)
  exact by
   try dsimp only at hw1
   obtain ⟨rfl, hw1⟩ := hw1
   have hP : va_P D vwCl [(ta_signs, kB k 1000 ta_signsF), (ta_words, kJ k 23 ta_wordsF), (ta, kO 6 [.ref ta_signs, .ref ta_words, .int (nI ta_length), .int (nI ta_next), .int ta_place, .int ta_kind, .int ta_value, .long ta_letters, .int ta_fault])] H := hP
   have hD : va_D A [(ta_signs, kB k 1000 ta_signsF), (ta_words, kJ k 23 ta_wordsF), (ta, kO 6 [.ref ta_signs, .ref ta_words, .int (nI ta_length), .int (nI ta_next), .int ta_place, .int ta_kind, .int ta_value, .long ta_letters, .int ta_fault])] := hD
   have hw1_0 := hw1
   have hZ := bn1_e hw1_0 hZ
   refine lv_if_ne (tgt := 14) hx hb dX6_takeSign_5 (by decide) (fun c_2 => ?_) (fun c_2 => ?_)
   · exact by
      have b_2 : u1 = true := bB_1 c_2
      have hZ := (if_pos b_2).symm.trans hZ
      refine lv_aload_n hx hb dX6_takeSign_14 rfl (lv_at hl 0 rfl) ?_
      refine kz_VvY (As := []) (rest := []) (wc := [(ta, kO 6 [.ref ta_signs, .ref ta_words, .int (nI ta_length), .int (nI ta_next), .int ta_place, .int ta_kind, .int ta_value, .long ta_letters, .int ta_fault]), (ta_signs, kB k 1000 ta_signsF), (ta_words, kJ k 23 ta_wordsF)]) (wr := []) ⟨hx, hb, hml, hown, hts⟩ hX hAX ha0 hK hE hP hD hS hA (sX6_advance l D k a0 sa sv f H.size ta ta_signs ta_words ta_length ta_next ta_place ta_kind ta_value ta_letters ta_fault ta_signsF ta_wordsF (by first | omega | assumption | decide) (by first | omega | assumption | decide)) (cwV 0 hts gX6_takeSign_X6_advance rfl rfl rfl (by decide +kernel) (by rw [hR]; exact ⟨Nat.le_of_ble_eq_true rfl, Nat.le_of_ble_eq_true rfl⟩)) [2, 0, 1] [] rfl rfl (by decide +kernel) (by decide +kernel) (by decide +kernel) 0 rfl rfl rfl hl.1 rfl (Nat.le_of_ble_eq_true rfl) dX6_takeSign_15 (by rw [hR]; exact ⟨Nat.le_of_ble_eq_true rfl, Nat.le_of_ble_eq_true rfl⟩) (fun u3 H locs hw3 hP hD hS => ?_)
      exact by
       obtain ⟨u_ta_33, u_ta_43, u_ta_53, u_ta_63, u_ta_73⟩ := u3
       try dsimp only at hw3
       have hP : va_P D vwCl [(ta, kO 6 [.ref ta_signs, .ref ta_words, .int (nI ta_length), .int (nI u_ta_33), .int u_ta_43, .int u_ta_53, .int u_ta_63, .long u_ta_73, .int ta_fault]), (ta_signs, kB k 1000 ta_signsF), (ta_words, kJ k 23 ta_wordsF)] H := hP
       have hD : va_D A [(ta, kO 6 [.ref ta_signs, .ref ta_words, .int (nI ta_length), .int (nI u_ta_33), .int u_ta_43, .int u_ta_53, .int u_ta_63, .long u_ta_73, .int ta_fault]), (ta_signs, kB k 1000 ta_signsF), (ta_words, kJ k 23 ta_wordsF)] := hD
       obtain ⟨hw3_0, hw3_1⟩ := hw3
       have hZ := bn5_e hw3_1 hZ
       refine lv_iconst (v := 1) hx hb dX6_takeSign_18 (by decide) ?_
       rw [hQ]
       have hP9 := hP.sub (ws' := [(ta, kO 6 [.ref ta_signs, .ref ta_words, .int (nI ta_length), .int (nI u_ta_33), .int u_ta_43, .int u_ta_53, .int u_ta_63, .long u_ta_73, .int ta_fault]), (ta_signs, kB k 1000 ta_signsF), (ta_words, kJ k 23 ta_wordsF)]) [0, 1, 2] rfl
       have hD9 := hD.sub (ws' := [(ta, kO 6 [.ref ta_signs, .ref ta_words, .int (nI ta_length), .int (nI u_ta_33), .int u_ta_43, .int u_ta_53, .int u_ta_63, .long u_ta_73, .int ta_fault]), (ta_signs, kB k 1000 ta_signsF), (ta_words, kJ k 23 ta_wordsF)]) [0, 1, 2] (by decide +kernel) rfl
       exact W.zret (v := 1) hx hb hr rfl (fun zt ht hW => ⟨⟨1, ⟨u_ta_33, u_ta_43, u_ta_53, u_ta_63, u_ta_73, ta_fault, true⟩, rfl, ⟨rfl, (by first | omega | (dsimp only; omega) | assumption), (hZ.trans hE0)⟩, by rw [ht]; exact hP9, hD9⟩, hS.F ht⟩) hS.2.2 dX6_takeSign_19
   · exact by
      have b_2 : u1 = false := bB_0 c_2
      have hZ := (if_neg (bF b_2)).symm.trans hZ
      refine lv_aload_n hx hb dX6_takeSign_8 rfl (lv_at hl 0 rfl) ?_
      refine lv_iconst (v := 1) hx hb dX6_takeSign_9 (by decide) ?_
      refine kz_Vi (As := [.int 1]) (rest := []) (wc := [(ta, kO 6 [.ref ta_signs, .ref ta_words, .int (nI ta_length), .int (nI ta_next), .int ta_place, .int ta_kind, .int ta_value, .long ta_letters, .int ta_fault])]) (wr := [(ta_signs, kB k 1000 ta_signsF), (ta_words, kJ k 23 ta_wordsF)]) ⟨hx, hb, hml, hown, hts⟩ hK hE hP hD hS hA (sX6_wrong l D k H.size ta 1 ta_signs ta_words ta_length ta_next ta_place ta_kind ta_value ta_letters ta_fault (by first | omega | assumption | decide) (by first | omega | assumption | decide)) (cwV 1 hts gX6_takeSign_X6_wrong rfl rfl rfl (by decide +kernel) (by rw [hR]; exact ⟨Nat.le_of_ble_eq_true rfl, Nat.le_of_ble_eq_true rfl⟩)) [2] [0, 1] rfl rfl (by decide +kernel) (by decide +kernel) (by decide +kernel) 0 rfl rfl rfl hl.1 rfl (Nat.le_of_ble_eq_true rfl) dX6_takeSign_10 (by rw [hR]; exact ⟨Nat.le_of_ble_eq_true rfl, Nat.le_of_ble_eq_true rfl⟩) (fun r4 u4 H locs hw4 hP hD hS => ?_)
      exact by
       obtain ⟨u_ta_84, ub4⟩ := u4
       try dsimp only at hw4
       obtain ⟨rfl, hw4⟩ := hw4
       have hP : va_P D vwCl [(ta_signs, kB k 1000 ta_signsF), (ta_words, kJ k 23 ta_wordsF), (ta, kO 6 [.ref ta_signs, .ref ta_words, .int (nI ta_length), .int (nI ta_next), .int ta_place, .int ta_kind, .int ta_value, .long ta_letters, .int u_ta_84])] H := hP
       have hD : va_D A [(ta_signs, kB k 1000 ta_signsF), (ta_words, kJ k 23 ta_wordsF), (ta, kO 6 [.ref ta_signs, .ref ta_words, .int (nI ta_length), .int (nI ta_next), .int ta_place, .int ta_kind, .int ta_value, .long ta_letters, .int u_ta_84])] := hD
       have hw4_0 := hw4
       have hZ := bn2_e hw4_0 hZ
       rw [hQ]
       have hP9 := hP.sub (ws' := [(ta, kO 6 [.ref ta_signs, .ref ta_words, .int (nI ta_length), .int (nI ta_next), .int ta_place, .int ta_kind, .int ta_value, .long ta_letters, .int u_ta_84]), (ta_signs, kB k 1000 ta_signsF), (ta_words, kJ k 23 ta_wordsF)]) [2, 0, 1] rfl
       have hD9 := hD.sub (ws' := [(ta, kO 6 [.ref ta_signs, .ref ta_words, .int (nI ta_length), .int (nI ta_next), .int ta_place, .int ta_kind, .int ta_value, .long ta_letters, .int u_ta_84]), (ta_signs, kB k 1000 ta_signsF), (ta_words, kJ k 23 ta_wordsF)]) [2, 0, 1] (by decide +kernel) rfl
       exact W.zret (v := (bB ub4)) hx hb hr (narrow_bB _) (fun zt ht hW => ⟨⟨(bB ub4), ⟨ta_next, ta_place, ta_kind, ta_value, ta_letters, u_ta_84, ub4⟩, rfl, ⟨rfl, (by first | omega | (dsimp only; omega) | assumption), (hZ.trans hE0)⟩, by rw [ht]; exact hP9, hD9⟩, hS.F ht⟩) hS.2.2 dX6_takeSign_13
theorem dX6_takeWord_0 : decode cX6_takeWord 0 = .ok (.aload_n 0, 1) := dk_aload_n_0 (by decide +kernel)
theorem dX6_takeWord_1 : decode cX6_takeWord 1 = .ok (.iload_n 1, 1) := dk_iload_n_1 (by decide +kernel)
theorem dX6_takeWord_2 : decode cX6_takeWord 2 = .ok (.invokevirtual 90, 3) := dk_invokevirtual (by decide +kernel)
theorem dX6_takeWord_5 : decode cX6_takeWord 5 = .ok (.ifCond .ne 9, 3) := dk_ifCond_ne (by decide +kernel)
theorem dX6_takeWord_8 : decode cX6_takeWord 8 = .ok (.aload_n 0, 1) := dk_aload_n_0 (by decide +kernel)
theorem dX6_takeWord_9 : decode cX6_takeWord 9 = .ok (.iconst 1, 1) := dk_iconst_1 (by decide +kernel)
theorem dX6_takeWord_10 : decode cX6_takeWord 10 = .ok (.invokevirtual 87, 3) := dk_invokevirtual (by decide +kernel)
theorem dX6_takeWord_13 : decode cX6_takeWord 13 = .ok (.ireturn, 1) := dk_ireturn (by decide +kernel)
theorem dX6_takeWord_14 : decode cX6_takeWord 14 = .ok (.aload_n 0, 1) := dk_aload_n_0 (by decide +kernel)
theorem dX6_takeWord_15 : decode cX6_takeWord 15 = .ok (.invokevirtual 50, 3) := dk_invokevirtual (by decide +kernel)
theorem dX6_takeWord_18 : decode cX6_takeWord 18 = .ok (.iconst 1, 1) := dk_iconst_1 (by decide +kernel)
theorem dX6_takeWord_19 : decode cX6_takeWord 19 = .ok (.ireturn, 1) := dk_ireturn (by decide +kernel)
set_option maxRecDepth 20000 in
theorem ggX6_takeWord_X6_isWord : GoodIn wsX6_takeWord wsX6_isWord := goodIn_sub (sub_cons (List.mem_cons_of_mem _ (List.mem_append_left _ (List.mem_append_left _ (List.mem_of_getElem? (i := 4) rfl)))) (sub_app (sub_cons (List.mem_cons_of_mem _ (List.mem_append_left _ (List.mem_append_left _ (List.mem_of_getElem? (i := 5) rfl)))) (sub_cons (List.mem_cons_of_mem _ (List.mem_append_left _ (List.mem_append_left _ (List.mem_of_getElem? (i := 6) rfl)))) sub_nil)) (fun w h9 => (List.mem_cons_of_mem _ (List.mem_append_right _ h9))))) gw_X6_isWord
set_option maxRecDepth 20000 in
theorem gX6_takeWord_X6_isWord : GoodIn wsX6_takeWord (wsV RX6 90 RX6 yX6_isWord wsX6_isWord) := goodIn_app (goodIn_sub (sub_cons (List.mem_cons_of_mem _ (List.mem_append_left _ (List.mem_append_left _ (List.mem_of_getElem? (i := 0) rfl)))) (sub_cons (List.mem_cons_of_mem _ (List.mem_append_left _ (List.mem_append_left _ (List.mem_of_getElem? (i := 1) rfl)))) (sub_cons (List.mem_cons_of_mem _ (List.mem_append_left _ (List.mem_append_left _ (List.mem_of_getElem? (i := 2) rfl)))) (sub_cons (List.mem_cons_of_mem _ (List.mem_append_left _ (List.mem_append_left _ (List.mem_of_getElem? (i := 3) rfl)))) sub_nil)))) (by decide +kernel)) ggX6_takeWord_X6_isWord
set_option maxRecDepth 20000 in
theorem ggX6_takeWord_X6_advance : GoodIn wsX6_takeWord wsX6_advance := goodIn_sub (sub_cons (List.mem_cons_of_mem _ (List.mem_append_left _ (List.mem_append_left _ (List.mem_of_getElem? (i := 16) rfl)))) (sub_app (sub_app (sub_cons (List.mem_cons_of_mem _ (List.mem_append_left _ (List.mem_append_left _ (List.mem_of_getElem? (i := 17) rfl)))) (sub_cons (List.mem_cons_of_mem _ (List.mem_append_left _ (List.mem_append_left _ (List.mem_of_getElem? (i := 18) rfl)))) (sub_cons (List.mem_cons_of_mem _ (List.mem_append_left _ (List.mem_append_left _ (List.mem_of_getElem? (i := 19) rfl)))) (sub_cons (List.mem_cons_of_mem _ (List.mem_append_left _ (List.mem_append_left _ (List.mem_of_getElem? (i := 11) rfl)))) (sub_cons (List.mem_cons_of_mem _ (List.mem_append_left _ (List.mem_append_left _ (List.mem_of_getElem? (i := 6) rfl)))) (sub_cons (List.mem_cons_of_mem _ (List.mem_append_left _ (List.mem_append_left _ (List.mem_of_getElem? (i := 5) rfl)))) (sub_cons (List.mem_cons_of_mem _ (List.mem_append_left _ (List.mem_append_left _ (List.mem_of_getElem? (i := 20) rfl)))) (sub_cons (List.mem_cons_of_mem _ (List.mem_append_left _ (List.mem_append_left _ (List.mem_of_getElem? (i := 21) rfl)))) (sub_cons (List.mem_cons_of_mem _ (List.mem_append_left _ (List.mem_append_left _ (List.mem_of_getElem? (i := 3) rfl)))) (sub_cons (List.mem_cons_of_mem _ (List.mem_append_left _ (List.mem_append_left _ (List.mem_of_getElem? (i := 22) rfl)))) (sub_cons (List.mem_cons_of_mem _ (List.mem_append_left _ (List.mem_append_left _ (List.mem_of_getElem? (i := 23) rfl)))) (sub_cons (List.mem_cons_of_mem _ (List.mem_append_left _ (List.mem_append_right _ (List.mem_append_left _ (List.mem_of_getElem? (i := 0) rfl))))) (sub_cons (List.mem_cons_of_mem _ (List.mem_append_left _ (List.mem_append_right _ (List.mem_append_left _ (List.mem_of_getElem? (i := 1) rfl))))) (sub_cons (List.mem_cons_of_mem _ (List.mem_append_left _ (List.mem_append_right _ (List.mem_append_left _ (List.mem_of_getElem? (i := 2) rfl))))) (sub_cons (List.mem_cons_of_mem _ (List.mem_append_left _ (List.mem_append_right _ (List.mem_append_left _ (List.mem_of_getElem? (i := 3) rfl))))) (sub_cons (List.mem_cons_of_mem _ (List.mem_append_left _ (List.mem_append_right _ (List.mem_append_left _ (List.mem_of_getElem? (i := 4) rfl))))) (sub_cons (List.mem_cons_of_mem _ (List.mem_append_left _ (List.mem_append_right _ (List.mem_append_left _ (List.mem_of_getElem? (i := 5) rfl))))) (sub_cons (List.mem_cons_of_mem _ (List.mem_append_left _ (List.mem_append_right _ (List.mem_append_left _ (List.mem_of_getElem? (i := 6) rfl))))) (sub_cons (List.mem_cons_of_mem _ (List.mem_append_left _ (List.mem_append_right _ (List.mem_append_left _ (List.mem_of_getElem? (i := 7) rfl))))) (sub_cons (List.mem_cons_of_mem _ (List.mem_append_left _ (List.mem_append_right _ (List.mem_append_left _ (List.mem_of_getElem? (i := 8) rfl))))) (sub_cons (List.mem_cons_of_mem _ (List.mem_append_left _ (List.mem_append_right _ (List.mem_append_left _ (List.mem_of_getElem? (i := 9) rfl))))) (sub_cons (List.mem_cons_of_mem _ (List.mem_append_left _ (List.mem_append_right _ (List.mem_append_left _ (List.mem_of_getElem? (i := 10) rfl))))) (sub_cons (List.mem_cons_of_mem _ (List.mem_append_left _ (List.mem_append_right _ (List.mem_append_left _ (List.mem_of_getElem? (i := 11) rfl))))) (sub_cons (List.mem_cons_of_mem _ (List.mem_append_left _ (List.mem_append_right _ (List.mem_append_left _ (List.mem_of_getElem? (i := 12) rfl))))) sub_nil)))))))))))))))))))))))) (sub_app (sub_cons (List.mem_cons_of_mem _ (List.mem_append_left _ (List.mem_append_right _ (List.mem_append_left _ (List.mem_of_getElem? (i := 13) rfl))))) (sub_cons (List.mem_cons_of_mem _ (List.mem_append_left _ (List.mem_append_right _ (List.mem_append_left _ (List.mem_of_getElem? (i := 14) rfl))))) (sub_cons (List.mem_cons_of_mem _ (List.mem_append_left _ (List.mem_append_right _ (List.mem_append_left _ (List.mem_of_getElem? (i := 15) rfl))))) (sub_cons (List.mem_cons_of_mem _ (List.mem_append_left _ (List.mem_append_right _ (List.mem_append_left _ (List.mem_of_getElem? (i := 16) rfl))))) (sub_cons (List.mem_cons_of_mem _ (List.mem_append_left _ (List.mem_append_right _ (List.mem_append_left _ (List.mem_of_getElem? (i := 17) rfl))))) (sub_cons (List.mem_cons_of_mem _ (List.mem_append_left _ (List.mem_append_right _ (List.mem_append_left _ (List.mem_of_getElem? (i := 18) rfl))))) (sub_cons (List.mem_cons_of_mem _ (List.mem_append_left _ (List.mem_append_right _ (List.mem_append_left _ (List.mem_of_getElem? (i := 19) rfl))))) (sub_cons (List.mem_cons_of_mem _ (List.mem_append_left _ (List.mem_append_right _ (List.mem_append_left _ (List.mem_of_getElem? (i := 20) rfl))))) (sub_cons (List.mem_cons_of_mem _ (List.mem_append_left _ (List.mem_append_right _ (List.mem_append_left _ (List.mem_of_getElem? (i := 21) rfl))))) (sub_cons (List.mem_cons_of_mem _ (List.mem_append_left _ (List.mem_append_right _ (List.mem_append_left _ (List.mem_of_getElem? (i := 22) rfl))))) (sub_cons (List.mem_cons_of_mem _ (List.mem_append_left _ (List.mem_append_right _ (List.mem_append_left _ (List.mem_of_getElem? (i := 23) rfl))))) (sub_cons (List.mem_cons_of_mem _ (List.mem_append_left _ (List.mem_append_right _ (List.mem_append_right _ (List.mem_append_left _ (List.mem_of_getElem? (i := 0) rfl)))))) (sub_cons (List.mem_cons_of_mem _ (List.mem_append_left _ (List.mem_append_right _ (List.mem_append_right _ (List.mem_append_left _ (List.mem_of_getElem? (i := 1) rfl)))))) (sub_cons (List.mem_cons_of_mem _ (List.mem_append_left _ (List.mem_append_right _ (List.mem_append_right _ (List.mem_append_left _ (List.mem_of_getElem? (i := 2) rfl)))))) (sub_cons (List.mem_cons_of_mem _ (List.mem_append_left _ (List.mem_append_right _ (List.mem_append_right _ (List.mem_append_left _ (List.mem_of_getElem? (i := 3) rfl)))))) (sub_cons (List.mem_cons_of_mem _ (List.mem_append_left _ (List.mem_append_right _ (List.mem_append_right _ (List.mem_append_left _ (List.mem_of_getElem? (i := 4) rfl)))))) (sub_cons (List.mem_cons_of_mem _ (List.mem_append_left _ (List.mem_append_right _ (List.mem_append_right _ (List.mem_append_left _ (List.mem_of_getElem? (i := 5) rfl)))))) (sub_cons (List.mem_cons_of_mem _ (List.mem_append_left _ (List.mem_append_right _ (List.mem_append_right _ (List.mem_append_left _ (List.mem_of_getElem? (i := 6) rfl)))))) (sub_cons (List.mem_cons_of_mem _ (List.mem_append_left _ (List.mem_append_right _ (List.mem_append_right _ (List.mem_append_left _ (List.mem_of_getElem? (i := 7) rfl)))))) (sub_cons (List.mem_cons_of_mem _ (List.mem_append_left _ (List.mem_append_right _ (List.mem_append_right _ (List.mem_append_left _ (List.mem_of_getElem? (i := 8) rfl)))))) (sub_cons (List.mem_cons_of_mem _ (List.mem_append_left _ (List.mem_append_right _ (List.mem_append_right _ (List.mem_append_left _ (List.mem_of_getElem? (i := 9) rfl)))))) (sub_cons (List.mem_cons_of_mem _ (List.mem_append_left _ (List.mem_append_right _ (List.mem_append_right _ (List.mem_append_left _ (List.mem_of_getElem? (i := 10) rfl)))))) (sub_cons (List.mem_cons_of_mem _ (List.mem_append_left _ (List.mem_append_right _ (List.mem_append_right _ (List.mem_append_left _ (List.mem_of_getElem? (i := 11) rfl)))))) (sub_cons (List.mem_cons_of_mem _ (List.mem_append_left _ (List.mem_append_right _ (List.mem_append_right _ (List.mem_append_left _ (List.mem_of_getElem? (i := 12) rfl)))))) sub_nil)))))))))))))))))))))))) (sub_app (sub_cons (List.mem_cons_of_mem _ (List.mem_append_left _ (List.mem_append_right _ (List.mem_append_right _ (List.mem_append_left _ (List.mem_of_getElem? (i := 13) rfl)))))) (sub_cons (List.mem_cons_of_mem _ (List.mem_append_left _ (List.mem_append_right _ (List.mem_append_right _ (List.mem_append_left _ (List.mem_of_getElem? (i := 14) rfl)))))) (sub_cons (List.mem_cons_of_mem _ (List.mem_append_left _ (List.mem_append_right _ (List.mem_append_right _ (List.mem_append_left _ (List.mem_of_getElem? (i := 15) rfl)))))) (sub_cons (List.mem_cons_of_mem _ (List.mem_append_left _ (List.mem_append_right _ (List.mem_append_right _ (List.mem_append_left _ (List.mem_of_getElem? (i := 16) rfl)))))) (sub_cons (List.mem_cons_of_mem _ (List.mem_append_left _ (List.mem_append_right _ (List.mem_append_right _ (List.mem_append_left _ (List.mem_of_getElem? (i := 17) rfl)))))) (sub_cons (List.mem_cons_of_mem _ (List.mem_append_left _ (List.mem_append_right _ (List.mem_append_right _ (List.mem_append_left _ (List.mem_of_getElem? (i := 18) rfl)))))) (sub_cons (List.mem_cons_of_mem _ (List.mem_append_left _ (List.mem_append_right _ (List.mem_append_right _ (List.mem_append_left _ (List.mem_of_getElem? (i := 19) rfl)))))) (sub_cons (List.mem_cons_of_mem _ (List.mem_append_left _ (List.mem_append_right _ (List.mem_append_right _ (List.mem_append_left _ (List.mem_of_getElem? (i := 20) rfl)))))) (sub_cons (List.mem_cons_of_mem _ (List.mem_append_left _ (List.mem_append_right _ (List.mem_append_right _ (List.mem_append_left _ (List.mem_of_getElem? (i := 21) rfl)))))) (sub_cons (List.mem_cons_of_mem _ (List.mem_append_left _ (List.mem_append_right _ (List.mem_append_right _ (List.mem_append_left _ (List.mem_of_getElem? (i := 22) rfl)))))) (sub_cons (List.mem_cons_of_mem _ (List.mem_append_left _ (List.mem_append_right _ (List.mem_append_right _ (List.mem_append_left _ (List.mem_of_getElem? (i := 23) rfl)))))) (sub_cons (List.mem_cons_of_mem _ (List.mem_append_left _ (List.mem_append_right _ (List.mem_append_right _ (List.mem_append_right _ (List.mem_append_left _ (List.mem_of_getElem? (i := 0) rfl))))))) (sub_cons (List.mem_cons_of_mem _ (List.mem_append_left _ (List.mem_append_right _ (List.mem_append_right _ (List.mem_append_right _ (List.mem_append_left _ (List.mem_of_getElem? (i := 1) rfl))))))) (sub_cons (List.mem_cons_of_mem _ (List.mem_append_left _ (List.mem_append_right _ (List.mem_append_right _ (List.mem_append_right _ (List.mem_append_left _ (List.mem_of_getElem? (i := 2) rfl))))))) (sub_cons (List.mem_cons_of_mem _ (List.mem_append_left _ (List.mem_append_right _ (List.mem_append_right _ (List.mem_append_right _ (List.mem_append_left _ (List.mem_of_getElem? (i := 3) rfl))))))) (sub_cons (List.mem_cons_of_mem _ (List.mem_append_left _ (List.mem_append_right _ (List.mem_append_right _ (List.mem_append_right _ (List.mem_append_left _ (List.mem_of_getElem? (i := 4) rfl))))))) (sub_cons (List.mem_cons_of_mem _ (List.mem_append_left _ (List.mem_append_right _ (List.mem_append_right _ (List.mem_append_right _ (List.mem_append_left _ (List.mem_of_getElem? (i := 5) rfl))))))) (sub_cons (List.mem_cons_of_mem _ (List.mem_append_left _ (List.mem_append_right _ (List.mem_append_right _ (List.mem_append_right _ (List.mem_append_left _ (List.mem_of_getElem? (i := 6) rfl))))))) (sub_cons (List.mem_cons_of_mem _ (List.mem_append_left _ (List.mem_append_right _ (List.mem_append_right _ (List.mem_append_right _ (List.mem_append_left _ (List.mem_of_getElem? (i := 7) rfl))))))) (sub_cons (List.mem_cons_of_mem _ (List.mem_append_left _ (List.mem_append_right _ (List.mem_append_right _ (List.mem_append_right _ (List.mem_append_left _ (List.mem_of_getElem? (i := 8) rfl))))))) (sub_cons (List.mem_cons_of_mem _ (List.mem_append_left _ (List.mem_append_right _ (List.mem_append_right _ (List.mem_append_right _ (List.mem_append_left _ (List.mem_of_getElem? (i := 9) rfl))))))) (sub_cons (List.mem_cons_of_mem _ (List.mem_append_left _ (List.mem_append_right _ (List.mem_append_right _ (List.mem_append_right _ (List.mem_append_left _ (List.mem_of_getElem? (i := 10) rfl))))))) (sub_cons (List.mem_cons_of_mem _ (List.mem_append_left _ (List.mem_append_right _ (List.mem_append_right _ (List.mem_append_right _ (List.mem_append_left _ (List.mem_of_getElem? (i := 11) rfl))))))) (sub_cons (List.mem_cons_of_mem _ (List.mem_append_left _ (List.mem_append_right _ (List.mem_append_right _ (List.mem_append_right _ (List.mem_append_left _ (List.mem_of_getElem? (i := 12) rfl))))))) sub_nil)))))))))))))))))))))))) (sub_app (sub_cons (List.mem_cons_of_mem _ (List.mem_append_left _ (List.mem_append_right _ (List.mem_append_right _ (List.mem_append_right _ (List.mem_append_left _ (List.mem_of_getElem? (i := 13) rfl))))))) (sub_cons (List.mem_cons_of_mem _ (List.mem_append_left _ (List.mem_append_right _ (List.mem_append_right _ (List.mem_append_right _ (List.mem_append_left _ (List.mem_of_getElem? (i := 14) rfl))))))) (sub_cons (List.mem_cons_of_mem _ (List.mem_append_left _ (List.mem_append_right _ (List.mem_append_right _ (List.mem_append_right _ (List.mem_append_left _ (List.mem_of_getElem? (i := 15) rfl))))))) (sub_cons (List.mem_cons_of_mem _ (List.mem_append_left _ (List.mem_append_right _ (List.mem_append_right _ (List.mem_append_right _ (List.mem_append_left _ (List.mem_of_getElem? (i := 16) rfl))))))) (sub_cons (List.mem_cons_of_mem _ (List.mem_append_left _ (List.mem_append_right _ (List.mem_append_right _ (List.mem_append_right _ (List.mem_append_left _ (List.mem_of_getElem? (i := 17) rfl))))))) (sub_cons (List.mem_cons_of_mem _ (List.mem_append_left _ (List.mem_append_right _ (List.mem_append_right _ (List.mem_append_right _ (List.mem_append_left _ (List.mem_of_getElem? (i := 18) rfl))))))) (sub_cons (List.mem_cons_of_mem _ (List.mem_append_left _ (List.mem_append_right _ (List.mem_append_right _ (List.mem_append_right _ (List.mem_append_left _ (List.mem_of_getElem? (i := 19) rfl))))))) (sub_cons (List.mem_cons_of_mem _ (List.mem_append_left _ (List.mem_append_right _ (List.mem_append_right _ (List.mem_append_right _ (List.mem_append_left _ (List.mem_of_getElem? (i := 20) rfl))))))) (sub_cons (List.mem_cons_of_mem _ (List.mem_append_left _ (List.mem_append_right _ (List.mem_append_right _ (List.mem_append_right _ (List.mem_append_left _ (List.mem_of_getElem? (i := 21) rfl))))))) (sub_cons (List.mem_cons_of_mem _ (List.mem_append_left _ (List.mem_append_right _ (List.mem_append_right _ (List.mem_append_right _ (List.mem_append_left _ (List.mem_of_getElem? (i := 22) rfl))))))) (sub_cons (List.mem_cons_of_mem _ (List.mem_append_left _ (List.mem_append_right _ (List.mem_append_right _ (List.mem_append_right _ (List.mem_append_left _ (List.mem_of_getElem? (i := 23) rfl))))))) (sub_cons (List.mem_cons_of_mem _ (List.mem_append_left _ (List.mem_append_right _ (List.mem_append_right _ (List.mem_append_right _ (List.mem_append_right _ (List.mem_append_left _ (List.mem_of_getElem? (i := 0) rfl)))))))) (sub_cons (List.mem_cons_of_mem _ (List.mem_append_left _ (List.mem_append_right _ (List.mem_append_right _ (List.mem_append_right _ (List.mem_append_right _ (List.mem_append_left _ (List.mem_of_getElem? (i := 1) rfl)))))))) (sub_cons (List.mem_cons_of_mem _ (List.mem_append_left _ (List.mem_append_right _ (List.mem_append_right _ (List.mem_append_right _ (List.mem_append_right _ (List.mem_append_left _ (List.mem_of_getElem? (i := 2) rfl)))))))) (sub_cons (List.mem_cons_of_mem _ (List.mem_append_left _ (List.mem_append_right _ (List.mem_append_right _ (List.mem_append_right _ (List.mem_append_right _ (List.mem_append_left _ (List.mem_of_getElem? (i := 3) rfl)))))))) (sub_cons (List.mem_cons_of_mem _ (List.mem_append_left _ (List.mem_append_right _ (List.mem_append_right _ (List.mem_append_right _ (List.mem_append_right _ (List.mem_append_left _ (List.mem_of_getElem? (i := 4) rfl)))))))) (sub_cons (List.mem_cons_of_mem _ (List.mem_append_left _ (List.mem_append_right _ (List.mem_append_right _ (List.mem_append_right _ (List.mem_append_right _ (List.mem_append_left _ (List.mem_of_getElem? (i := 5) rfl)))))))) (sub_cons (List.mem_cons_of_mem _ (List.mem_append_left _ (List.mem_append_right _ (List.mem_append_right _ (List.mem_append_right _ (List.mem_append_right _ (List.mem_append_left _ (List.mem_of_getElem? (i := 6) rfl)))))))) (sub_cons (List.mem_cons_of_mem _ (List.mem_append_left _ (List.mem_append_right _ (List.mem_append_right _ (List.mem_append_right _ (List.mem_append_right _ (List.mem_append_left _ (List.mem_of_getElem? (i := 7) rfl)))))))) (sub_cons (List.mem_cons_of_mem _ (List.mem_append_left _ (List.mem_append_right _ (List.mem_append_right _ (List.mem_append_right _ (List.mem_append_right _ (List.mem_append_left _ (List.mem_of_getElem? (i := 8) rfl)))))))) (sub_cons (List.mem_cons_of_mem _ (List.mem_append_left _ (List.mem_append_right _ (List.mem_append_right _ (List.mem_append_right _ (List.mem_append_right _ (List.mem_append_left _ (List.mem_of_getElem? (i := 9) rfl)))))))) (sub_cons (List.mem_cons_of_mem _ (List.mem_append_left _ (List.mem_append_right _ (List.mem_append_right _ (List.mem_append_right _ (List.mem_append_right _ (List.mem_append_left _ (List.mem_of_getElem? (i := 10) rfl)))))))) (sub_cons (List.mem_cons_of_mem _ (List.mem_append_left _ (List.mem_append_right _ (List.mem_append_right _ (List.mem_append_right _ (List.mem_append_right _ (List.mem_append_left _ (List.mem_of_getElem? (i := 11) rfl)))))))) (sub_cons (List.mem_cons_of_mem _ (List.mem_append_left _ (List.mem_append_right _ (List.mem_append_right _ (List.mem_append_right _ (List.mem_append_right _ (List.mem_append_left _ (List.mem_of_getElem? (i := 12) rfl)))))))) sub_nil)))))))))))))))))))))))) (sub_cons (List.mem_cons_of_mem _ (List.mem_append_left _ (List.mem_append_right _ (List.mem_append_right _ (List.mem_append_right _ (List.mem_append_right _ (List.mem_append_left _ (List.mem_of_getElem? (i := 13) rfl)))))))) (sub_cons (List.mem_cons_of_mem _ (List.mem_append_left _ (List.mem_append_right _ (List.mem_append_right _ (List.mem_append_right _ (List.mem_append_right _ (List.mem_append_left _ (List.mem_of_getElem? (i := 14) rfl)))))))) (sub_cons (List.mem_cons_of_mem _ (List.mem_append_left _ (List.mem_append_right _ (List.mem_append_right _ (List.mem_append_right _ (List.mem_append_right _ (List.mem_append_left _ (List.mem_of_getElem? (i := 15) rfl)))))))) (sub_cons (List.mem_cons_of_mem _ (List.mem_append_left _ (List.mem_append_right _ (List.mem_append_right _ (List.mem_append_right _ (List.mem_append_right _ (List.mem_append_left _ (List.mem_of_getElem? (i := 16) rfl)))))))) (sub_cons (List.mem_cons_of_mem _ (List.mem_append_left _ (List.mem_append_right _ (List.mem_append_right _ (List.mem_append_right _ (List.mem_append_right _ (List.mem_append_left _ (List.mem_of_getElem? (i := 17) rfl)))))))) (sub_cons (List.mem_cons_of_mem _ (List.mem_append_left _ (List.mem_append_right _ (List.mem_append_right _ (List.mem_append_right _ (List.mem_append_right _ (List.mem_append_left _ (List.mem_of_getElem? (i := 18) rfl)))))))) (sub_cons (List.mem_cons_of_mem _ (List.mem_append_left _ (List.mem_append_right _ (List.mem_append_right _ (List.mem_append_right _ (List.mem_append_right _ (List.mem_append_left _ (List.mem_of_getElem? (i := 19) rfl)))))))) (sub_cons (List.mem_cons_of_mem _ (List.mem_append_left _ (List.mem_append_right _ (List.mem_append_right _ (List.mem_append_right _ (List.mem_append_right _ (List.mem_append_left _ (List.mem_of_getElem? (i := 20) rfl)))))))) (sub_cons (List.mem_cons_of_mem _ (List.mem_append_left _ (List.mem_append_right _ (List.mem_append_right _ (List.mem_append_right _ (List.mem_append_right _ (List.mem_append_left _ (List.mem_of_getElem? (i := 21) rfl)))))))) (sub_cons (List.mem_cons_of_mem _ (List.mem_append_left _ (List.mem_append_right _ (List.mem_append_right _ (List.mem_append_right _ (List.mem_append_right _ (List.mem_append_left _ (List.mem_of_getElem? (i := 22) rfl)))))))) (sub_cons (List.mem_cons_of_mem _ (List.mem_append_left _ (List.mem_append_right _ (List.mem_append_right _ (List.mem_append_right _ (List.mem_append_right _ (List.mem_append_left _ (List.mem_of_getElem? (i := 23) rfl)))))))) (sub_cons (List.mem_cons_of_mem _ (List.mem_append_left _ (List.mem_append_right _ (List.mem_append_right _ (List.mem_append_right _ (List.mem_append_right _ (List.mem_append_right _ (List.mem_of_getElem? (i := 0) rfl)))))))) (sub_cons (List.mem_cons_of_mem _ (List.mem_append_left _ (List.mem_append_right _ (List.mem_append_right _ (List.mem_append_right _ (List.mem_append_right _ (List.mem_append_right _ (List.mem_of_getElem? (i := 1) rfl)))))))) (sub_cons (List.mem_cons_of_mem _ (List.mem_append_left _ (List.mem_append_right _ (List.mem_append_right _ (List.mem_append_right _ (List.mem_append_right _ (List.mem_append_right _ (List.mem_of_getElem? (i := 2) rfl)))))))) (sub_cons (List.mem_cons_of_mem _ (List.mem_append_left _ (List.mem_append_right _ (List.mem_append_right _ (List.mem_append_right _ (List.mem_append_right _ (List.mem_append_right _ (List.mem_of_getElem? (i := 3) rfl)))))))) (sub_cons (List.mem_cons_of_mem _ (List.mem_append_left _ (List.mem_append_right _ (List.mem_append_right _ (List.mem_append_right _ (List.mem_append_right _ (List.mem_append_right _ (List.mem_of_getElem? (i := 4) rfl)))))))) (sub_cons (List.mem_cons_of_mem _ (List.mem_append_left _ (List.mem_append_right _ (List.mem_append_right _ (List.mem_append_right _ (List.mem_append_right _ (List.mem_append_right _ (List.mem_of_getElem? (i := 5) rfl)))))))) (sub_cons (List.mem_cons_of_mem _ (List.mem_append_left _ (List.mem_append_right _ (List.mem_append_right _ (List.mem_append_right _ (List.mem_append_right _ (List.mem_append_right _ (List.mem_of_getElem? (i := 6) rfl)))))))) (sub_cons (List.mem_cons_of_mem _ (List.mem_append_left _ (List.mem_append_right _ (List.mem_append_right _ (List.mem_append_right _ (List.mem_append_right _ (List.mem_append_right _ (List.mem_of_getElem? (i := 7) rfl)))))))) (sub_cons (List.mem_cons_of_mem _ (List.mem_append_left _ (List.mem_append_right _ (List.mem_append_right _ (List.mem_append_right _ (List.mem_append_right _ (List.mem_append_right _ (List.mem_of_getElem? (i := 8) rfl)))))))) sub_nil)))))))))))))))))))))))) (fun w h9 => (List.mem_cons_of_mem _ (List.mem_append_right _ h9))))) gw_X6_advance
set_option maxRecDepth 20000 in
theorem gX6_takeWord_X6_advance : GoodIn wsX6_takeWord (wsV RX6 50 RX6 yX6_advance wsX6_advance) := goodIn_app (goodIn_sub (sub_cons (List.mem_cons_of_mem _ (List.mem_append_left _ (List.mem_append_left _ (List.mem_of_getElem? (i := 13) rfl)))) (sub_cons (List.mem_cons_of_mem _ (List.mem_append_left _ (List.mem_append_left _ (List.mem_of_getElem? (i := 14) rfl)))) (sub_cons (List.mem_cons_of_mem _ (List.mem_append_left _ (List.mem_append_left _ (List.mem_of_getElem? (i := 15) rfl)))) (sub_cons (List.mem_cons_of_mem _ (List.mem_append_left _ (List.mem_append_left _ (List.mem_of_getElem? (i := 3) rfl)))) sub_nil)))) (by decide +kernel)) ggX6_takeWord_X6_advance
set_option maxRecDepth 20000 in
theorem ggX6_takeWord_X6_wrong : GoodIn wsX6_takeWord wsX6_wrong := goodIn_sub (sub_cons (List.mem_cons_of_mem _ (List.mem_append_left _ (List.mem_append_left _ (List.mem_of_getElem? (i := 10) rfl)))) (sub_app (sub_cons (List.mem_cons_of_mem _ (List.mem_append_left _ (List.mem_append_left _ (List.mem_of_getElem? (i := 11) rfl)))) (sub_cons (List.mem_cons_of_mem _ (List.mem_append_left _ (List.mem_append_left _ (List.mem_of_getElem? (i := 12) rfl)))) sub_nil)) (fun w h9 => (List.mem_cons_of_mem _ (List.mem_append_right _ h9))))) gw_X6_wrong
set_option maxRecDepth 20000 in
theorem gX6_takeWord_X6_wrong : GoodIn wsX6_takeWord (wsV RX6 87 RX6 yX6_wrong wsX6_wrong) := goodIn_app (goodIn_sub (sub_cons (List.mem_cons_of_mem _ (List.mem_append_left _ (List.mem_append_left _ (List.mem_of_getElem? (i := 7) rfl)))) (sub_cons (List.mem_cons_of_mem _ (List.mem_append_left _ (List.mem_append_left _ (List.mem_of_getElem? (i := 8) rfl)))) (sub_cons (List.mem_cons_of_mem _ (List.mem_append_left _ (List.mem_append_left _ (List.mem_of_getElem? (i := 9) rfl)))) (sub_cons (List.mem_cons_of_mem _ (List.mem_append_left _ (List.mem_append_left _ (List.mem_of_getElem? (i := 3) rfl)))) sub_nil)))) (by decide +kernel)) ggX6_takeWord_X6_wrong
set_option maxHeartbeats 4000000 in
set_option maxRecDepth 100000 in
theorem sX6_takeWord (l : Launch) (D : va_G) (k : Nat → ClassId) (a0 sa sv : Nat) (f : Nat → Int32) (sz : Nat) (ta : Nat) (x : Int32) (ta_signs : Nat) (ta_words : Nat) (ta_length : Nat) (ta_next : Nat) (ta_place : Int32) (ta_kind : Int32) (ta_value : Int32) (ta_letters : Int64) (ta_fault : Int32) (ta_signsF : Nat → Int32) (ta_wordsF : Nat → Int64) (h_ta_length : ta_length ≤ 1000) (h_ta_next : ta_next ≤ 1000) : Met l yX6_takeWord wsX6_takeWord ({ frames := 5, cells := 0, slots := 0, locals := 350 }) (va_Pc [.ref ta, .int x] (kz_PreY D k [(ta, kO 6 [.ref ta_signs, .ref ta_words, .int (nI ta_length), .int (nI ta_next), .int ta_place, .int ta_kind, .int ta_value, .long ta_letters, .int ta_fault]), (ta_signs, kB k 1000 ta_signsF), (ta_words, kJ k 23 ta_wordsF)] a0 sa sv f sz)) (va_Qi (fun (rr : Int32) (uu : Nat × Int32 × Int32 × Int32 × Int64 × Int32 × Bool) => rr = bB uu.2.2.2.2.2.2 ∧ (uu.1 ≤ 1000) ∧ ((uu.1, uu.2.1, uu.2.2.1, uu.2.2.2.1, uu.2.2.2.2.1, uu.2.2.2.2.2.1, uu.2.2.2.2.2.2) = (fX6_takeWord x ta_length ta_next ta_place ta_kind ta_value ta_letters ta_fault ta_signsF ta_wordsF f))) (fun uu zt => kz_B D (va_A [(ta, kO 6 [.ref ta_signs, .ref ta_words, .int (nI ta_length), .int (nI ta_next), .int ta_place, .int ta_kind, .int ta_value, .long ta_letters, .int ta_fault]), (ta_signs, kB k 1000 ta_signsF), (ta_words, kJ k 23 ta_wordsF)] sz) [(ta, kO 6 [.ref ta_signs, .ref ta_words, .int (nI ta_length), .int (nI uu.1), .int uu.2.1, .int uu.2.2.1, .int uu.2.2.2.1, .long uu.2.2.2.2.1, .int uu.2.2.2.2.2.1]), (ta_signs, kB k 1000 ta_signsF), (ta_words, kJ k 23 ta_wordsF)] zt) (va_A [(ta, kO 6 [.ref ta_signs, .ref ta_words, .int (nI ta_length), .int (nI ta_next), .int ta_place, .int ta_kind, .int ta_value, .long ta_letters, .int ta_fault]), (ta_signs, kB k 1000 ta_signsF), (ta_words, kJ k 23 ta_wordsF)] sz)) 0 0 (va_A [(ta, kO 6 [.ref ta_signs, .ref ta_words, .int (nI ta_length), .int (nI ta_next), .int ta_place, .int ta_kind, .int ta_value, .long ta_letters, .int ta_fault]), (ta_signs, kB k 1000 ta_signsF), (ta_words, kJ k 23 ta_wordsF)] sz) := by
  refine Met.ofW (cc := cX6_takeWord) (maxL := 2) (ret := (some .boolean)) (by decide) rfl ?_
  intro p e s m args below meth c s₁ B hml hv
  obtain ⟨hav, ⟨hsz, hP, hK, hD0, hE⟩, ha0, hDa, hX⟩ := hv
  have hx := B.exec
  have hb := B.bytes
  have hr := B.returns
  have hts := atoms_spec (ws := wsX6_takeWord) B.pre
  have hown : s.vm.findClass RX6 = some m.cls := findClass_of_methodNamed B.named
  have hlocks := B.notSynchronized
  subst hsz
  have hD := hD0.self (sz := s.heap.size)
  generalize hAe : va_A [(ta, kO 6 [.ref ta_signs, .ref ta_words, .int (nI ta_length), .int (nI ta_next), .int ta_place, .int ta_kind, .int ta_value, .long ta_letters, .int ta_fault]), (ta_signs, kB k 1000 ta_signsF), (ta_words, kJ k 23 ta_wordsF)] s.heap.size = A at hD ⊢
  have hA : ∀ q : Nat, s.heap.size ≤ q → A q := fun q h => by rw [← hAe]; exact Or.inr h
  have hAX : ∀ q, A q → a0 ≤ q := fun q h => by rw [← hAe] at h; exact h.elim (fun ⟨k9, e9, h9⟩ => hDa.2 k9 _ h9) (fun e => Nat.le_trans ha0 e)
  obtain ⟨tx71, hR71⟩ := hX.1
  have hS : va_S A s.heap s.heap [] := va_S.rf
  have hl := lv_entry ([.ref ta, .int x]) (n := 2) (Nat.le_of_ble_eq_true rfl)
  rw [show entryFrame m args 2 = entryFrame m ([.ref ta, .int x] : List Value).toArray 2 by rw [hav], lg_entry_eq]
  generalize (lg_sl ([.ref ta, .int x]) ++ List.replicate (2 - (lg_sl ([.ref ta, .int x])).length) Slot.unset).toArray = ls at hl ⊢
  have hl : lv_has ls 2 [(0, .ref ta), (1, .int x)] := hl
  obtain ⟨R, hR⟩ : ∃ R, R = (headSpec wsX6_takeWord ({ frames := 5, cells := 0, slots := 0, locals := 350 } : Room)).room := ⟨_, rfl⟩
  rw [← hR]
  generalize hQ : MQ below _ args s 0 0 A = Q
  replace hQ := hQ.symm
  obtain ⟨H, hH⟩ : ∃ H, H = s.heap := ⟨_, rfl⟩
  rw [← hH] at hP ⊢
  have hS : va_S A s.heap H [] := by rw [hH]; exact hS
  obtain ⟨E0, hE0⟩ : ∃ E0 : Nat × Int32 × Int32 × Int32 × Int64 × Int32 × Bool, E0 = (fX6_takeWord x ta_length ta_next ta_place ta_kind ta_value ta_letters ta_fault ta_signsF ta_wordsF f) := ⟨_, rfl⟩
  have hZ : (fX6_takeWord x ta_length ta_next ta_place ta_kind ta_value ta_letters ta_fault ta_signsF ta_wordsF f) = E0 := hE0.symm
  refine lv_aload_n hx hb dX6_takeWord_0 rfl (lv_at hl 0 rfl) ?_
  refine lv_iload_n hx hb dX6_takeWord_1 rfl (lv_at hl 1 rfl) ?_
  refine kz_Vi (As := [.int x]) (rest := []) (wc := [(ta, kO 6 [.ref ta_signs, .ref ta_words, .int (nI ta_length), .int (nI ta_next), .int ta_place, .int ta_kind, .int ta_value, .long ta_letters, .int ta_fault])]) (wr := [(ta_signs, kB k 1000 ta_signsF), (ta_words, kJ k 23 ta_wordsF)]) ⟨hx, hb, hml, hown, hts⟩ hK hE hP hD hS hA (sX6_isWord l D k H.size ta x ta_signs ta_words ta_length ta_next ta_place ta_kind ta_value ta_letters ta_fault (by first | omega | assumption | decide) (by first | omega | assumption | decide)) (cwV 1 hts gX6_takeWord_X6_isWord rfl rfl rfl (by decide +kernel) (by rw [hR]; exact ⟨Nat.le_of_ble_eq_true rfl, Nat.le_of_ble_eq_true rfl⟩)) [0] [1, 2] rfl rfl (by decide +kernel) (by decide +kernel) (by decide +kernel) 0 rfl rfl rfl hl.1 rfl (Nat.le_of_ble_eq_true rfl) dX6_takeWord_2 (by rw [hR]; exact ⟨Nat.le_of_ble_eq_true rfl, Nat.le_of_ble_eq_true rfl⟩) (fun r1 u1 H locs hw1 hP hD hS => ?_)
  exact by
   try dsimp only at hw1
   obtain ⟨rfl, hw1⟩ := hw1
   have hP : va_P D vwCl [(ta_signs, kB k 1000 ta_signsF), (ta_words, kJ k 23 ta_wordsF), (ta, kO 6 [.ref ta_signs, .ref ta_words, .int (nI ta_length), .int (nI ta_next), .int ta_place, .int ta_kind, .int ta_value, .long ta_letters, .int ta_fault])] H := hP
   have hD : va_D A [(ta_signs, kB k 1000 ta_signsF), (ta_words, kJ k 23 ta_wordsF), (ta, kO 6 [.ref ta_signs, .ref ta_words, .int (nI ta_length), .int (nI ta_next), .int ta_place, .int ta_kind, .int ta_value, .long ta_letters, .int ta_fault])] := hD
   have hw1_0 := hw1
   have hZ := bn1_e hw1_0 hZ
   refine lv_if_ne (tgt := 14) hx hb dX6_takeWord_5 (by decide) (fun c_2 => ?_) (fun c_2 => ?_)
   · exact by
      have b_2 : u1 = true := bB_1 c_2
      have hZ := (if_pos b_2).symm.trans hZ
      refine lv_aload_n hx hb dX6_takeWord_14 rfl (lv_at hl 0 rfl) ?_
      refine kz_VvY (As := []) (rest := []) (wc := [(ta, kO 6 [.ref ta_signs, .ref ta_words, .int (nI ta_length), .int (nI ta_next), .int ta_place, .int ta_kind, .int ta_value, .long ta_letters, .int ta_fault]), (ta_signs, kB k 1000 ta_signsF), (ta_words, kJ k 23 ta_wordsF)]) (wr := []) ⟨hx, hb, hml, hown, hts⟩ hX hAX ha0 hK hE hP hD hS hA (sX6_advance l D k a0 sa sv f H.size ta ta_signs ta_words ta_length ta_next ta_place ta_kind ta_value ta_letters ta_fault ta_signsF ta_wordsF (by first | omega | assumption | decide) (by first | omega | assumption | decide)) (cwV 0 hts gX6_takeWord_X6_advance rfl rfl rfl (by decide +kernel) (by rw [hR]; exact ⟨Nat.le_of_ble_eq_true rfl, Nat.le_of_ble_eq_true rfl⟩)) [2, 0, 1] [] rfl rfl (by decide +kernel) (by decide +kernel) (by decide +kernel) 0 rfl rfl rfl hl.1 rfl (Nat.le_of_ble_eq_true rfl) dX6_takeWord_15 (by rw [hR]; exact ⟨Nat.le_of_ble_eq_true rfl, Nat.le_of_ble_eq_true rfl⟩) (fun u3 H locs hw3 hP hD hS => ?_)
      exact by
       obtain ⟨u_ta_33, u_ta_43, u_ta_53, u_ta_63, u_ta_73⟩ := u3
       try dsimp only at hw3
       have hP : va_P D vwCl [(ta, kO 6 [.ref ta_signs, .ref ta_words, .int (nI ta_length), .int (nI u_ta_33), .int u_ta_43, .int u_ta_53, .int u_ta_63, .long u_ta_73, .int ta_fault]), (ta_signs, kB k 1000 ta_signsF), (ta_words, kJ k 23 ta_wordsF)] H := hP
       have hD : va_D A [(ta, kO 6 [.ref ta_signs, .ref ta_words, .int (nI ta_length), .int (nI u_ta_33), .int u_ta_43, .int u_ta_53, .int u_ta_63, .long u_ta_73, .int ta_fault]), (ta_signs, kB k 1000 ta_signsF), (ta_words, kJ k 23 ta_wordsF)] := hD
       obtain ⟨hw3_0, hw3_1⟩ := hw3
       have hZ := bn5_e hw3_1 hZ
       refine lv_iconst (v := 1) hx hb dX6_takeWord_18 (by decide) ?_
       rw [hQ]
       have hP9 := hP.sub (ws' := [(ta, kO 6 [.ref ta_signs, .ref ta_words, .int (nI ta_length), .int (nI u_ta_33), .int u_ta_43, .int u_ta_53, .int u_ta_63, .long u_ta_73, .int ta_fault]), (ta_signs, kB k 1000 ta_signsF), (ta_words, kJ k 23 ta_wordsF)]) [0, 1, 2] rfl
       have hD9 := hD.sub (ws' := [(ta, kO 6 [.ref ta_signs, .ref ta_words, .int (nI ta_length), .int (nI u_ta_33), .int u_ta_43, .int u_ta_53, .int u_ta_63, .long u_ta_73, .int ta_fault]), (ta_signs, kB k 1000 ta_signsF), (ta_words, kJ k 23 ta_wordsF)]) [0, 1, 2] (by decide +kernel) rfl
       exact W.zret (v := 1) hx hb hr rfl (fun zt ht hW => ⟨⟨1, ⟨u_ta_33, u_ta_43, u_ta_53, u_ta_63, u_ta_73, ta_fault, true⟩, rfl, ⟨rfl, (by first | omega | (dsimp only; omega) | assumption), (hZ.trans hE0)⟩, by rw [ht]; exact hP9, hD9⟩, hS.F ht⟩) hS.2.2 dX6_takeWord_19
   · exact by
      have b_2 : u1 = false := bB_0 c_2
      have hZ := (if_neg (bF b_2)).symm.trans hZ
      refine lv_aload_n hx hb dX6_takeWord_8 rfl (lv_at hl 0 rfl) ?_
      refine lv_iconst (v := 1) hx hb dX6_takeWord_9 (by decide) ?_
      refine kz_Vi (As := [.int 1]) (rest := []) (wc := [(ta, kO 6 [.ref ta_signs, .ref ta_words, .int (nI ta_length), .int (nI ta_next), .int ta_place, .int ta_kind, .int ta_value, .long ta_letters, .int ta_fault])]) (wr := [(ta_signs, kB k 1000 ta_signsF), (ta_words, kJ k 23 ta_wordsF)]) ⟨hx, hb, hml, hown, hts⟩ hK hE hP hD hS hA (sX6_wrong l D k H.size ta 1 ta_signs ta_words ta_length ta_next ta_place ta_kind ta_value ta_letters ta_fault (by first | omega | assumption | decide) (by first | omega | assumption | decide)) (cwV 1 hts gX6_takeWord_X6_wrong rfl rfl rfl (by decide +kernel) (by rw [hR]; exact ⟨Nat.le_of_ble_eq_true rfl, Nat.le_of_ble_eq_true rfl⟩)) [2] [0, 1] rfl rfl (by decide +kernel) (by decide +kernel) (by decide +kernel) 0 rfl rfl rfl hl.1 rfl (Nat.le_of_ble_eq_true rfl) dX6_takeWord_10 (by rw [hR]; exact ⟨Nat.le_of_ble_eq_true rfl, Nat.le_of_ble_eq_true rfl⟩) (fun r4 u4 H locs hw4 hP hD hS => ?_)
      exact by
       obtain ⟨u_ta_84, ub4⟩ := u4
       try dsimp only at hw4
       obtain ⟨rfl, hw4⟩ := hw4
       have hP : va_P D vwCl [(ta_signs, kB k 1000 ta_signsF), (ta_words, kJ k 23 ta_wordsF), (ta, kO 6 [.ref ta_signs, .ref ta_words, .int (nI ta_length), .int (nI ta_next), .int ta_place, .int ta_kind, .int ta_value, .long ta_letters, .int u_ta_84])] H := hP
       have hD : va_D A [(ta_signs, kB k 1000 ta_signsF), (ta_words, kJ k 23 ta_wordsF), (ta, kO 6 [.ref ta_signs, .ref ta_words, .int (nI ta_length), .int (nI ta_next), .int ta_place, .int ta_kind, .int ta_value, .long ta_letters, .int u_ta_84])] := hD
       have hw4_0 := hw4
       have hZ := bn2_e hw4_0 hZ
       rw [hQ]
       have hP9 := hP.sub (ws' := [(ta, kO 6 [.ref ta_signs, .ref ta_words, .int (nI ta_length), .int (nI ta_next), .int ta_place, .int ta_kind, .int ta_value, .long ta_letters, .int u_ta_84]), (ta_signs, kB k 1000 ta_signsF), (ta_words, kJ k 23 ta_wordsF)]) [2, 0, 1] rfl
       have hD9 := hD.sub (ws' := [(ta, kO 6 [.ref ta_signs, .ref ta_words, .int (nI ta_length), .int (nI ta_next), .int ta_place, .int ta_kind, .int ta_value, .long ta_letters, .int u_ta_84]), (ta_signs, kB k 1000 ta_signsF), (ta_words, kJ k 23 ta_wordsF)]) [2, 0, 1] (by decide +kernel) rfl
       exact W.zret (v := (bB ub4)) hx hb hr (narrow_bB _) (fun zt ht hW => ⟨⟨(bB ub4), ⟨ta_next, ta_place, ta_kind, ta_value, ta_letters, u_ta_84, ub4⟩, rfl, ⟨rfl, (by first | omega | (dsimp only; omega) | assumption), (hZ.trans hE0)⟩, by rw [ht]; exact hP9, hD9⟩, hS.F ht⟩) hS.2.2 dX6_takeWord_13
theorem dX6_checkNumber_0 : decode cX6_checkNumber 0 = .ok (.aload_n 0, 1) := dk_aload_n_0 (by decide +kernel)
theorem dX6_checkNumber_1 : decode cX6_checkNumber 1 = .ok (.getfield 59, 3) := dk_getfield (by decide +kernel)
theorem dX6_checkNumber_4 : decode cX6_checkNumber 4 = .ok (.iconst 2, 1) := dk_iconst_2 (by decide +kernel)
theorem dX6_checkNumber_5 : decode cX6_checkNumber 5 = .ok (.if_icmp .eq 9, 3) := dk_if_icmp_eq (by decide +kernel)
theorem dX6_checkNumber_8 : decode cX6_checkNumber 8 = .ok (.aload_n 0, 1) := dk_aload_n_0 (by decide +kernel)
theorem dX6_checkNumber_9 : decode cX6_checkNumber 9 = .ok (.iconst 1, 1) := dk_iconst_1 (by decide +kernel)
theorem dX6_checkNumber_10 : decode cX6_checkNumber 10 = .ok (.invokevirtual 87, 3) := dk_invokevirtual (by decide +kernel)
theorem dX6_checkNumber_13 : decode cX6_checkNumber 13 = .ok (.ireturn, 1) := dk_ireturn (by decide +kernel)
theorem dX6_checkNumber_14 : decode cX6_checkNumber 14 = .ok (.aload_n 0, 1) := dk_aload_n_0 (by decide +kernel)
theorem dX6_checkNumber_15 : decode cX6_checkNumber 15 = .ok (.getfield 56, 3) := dk_getfield (by decide +kernel)
theorem dX6_checkNumber_18 : decode cX6_checkNumber 18 = .ok (.iload_n 1, 1) := dk_iload_n_1 (by decide +kernel)
theorem dX6_checkNumber_19 : decode cX6_checkNumber 19 = .ok (.iload_n 2, 1) := dk_iload_n_2 (by decide +kernel)
theorem dX6_checkNumber_20 : decode cX6_checkNumber 20 = .ok (.invokestatic 93, 3) := dk_invokestatic (by decide +kernel)
theorem dX6_checkNumber_23 : decode cX6_checkNumber 23 = .ok (.ifCond .ne 11, 3) := dk_ifCond_ne (by decide +kernel)
theorem dX6_checkNumber_26 : decode cX6_checkNumber 26 = .ok (.aload_n 0, 1) := dk_aload_n_0 (by decide +kernel)
theorem dX6_checkNumber_27 : decode cX6_checkNumber 27 = .ok (.iconst 4, 1) := dk_iconst_4 (by decide +kernel)
theorem dX6_checkNumber_28 : decode cX6_checkNumber 28 = .ok (.invokevirtual 87, 3) := dk_invokevirtual (by decide +kernel)
theorem dX6_checkNumber_31 : decode cX6_checkNumber 31 = .ok (.ifCond .eq 7, 3) := dk_ifCond_eq (by decide +kernel)
theorem dX6_checkNumber_34 : decode cX6_checkNumber 34 = .ok (.iconst 1, 1) := dk_iconst_1 (by decide +kernel)
theorem dX6_checkNumber_35 : decode cX6_checkNumber 35 = .ok (.goto 4, 3) := dk_goto (by decide +kernel)
theorem dX6_checkNumber_38 : decode cX6_checkNumber 38 = .ok (.iconst 0, 1) := dk_iconst_0 (by decide +kernel)
theorem dX6_checkNumber_39 : decode cX6_checkNumber 39 = .ok (.ireturn, 1) := dk_ireturn (by decide +kernel)
set_option maxRecDepth 20000 in
theorem ggX6_checkNumber_X8_isWithin : GoodIn wsX6_checkNumber wsX8_isWithin := goodIn_sub (sub_cons (List.mem_cons_of_mem _ (List.mem_append_left _ (List.mem_of_getElem? (i := 11) rfl))) sub_nil) gw_X8_isWithin
set_option maxRecDepth 20000 in
theorem gX6_checkNumber_X8_isWithin_n93 : GoodIn wsX6_checkNumber (wsX8_isWithin) := ggX6_checkNumber_X8_isWithin
set_option maxRecDepth 20000 in
theorem ggX6_checkNumber_X6_wrong : GoodIn wsX6_checkNumber wsX6_wrong := goodIn_sub (sub_cons (List.mem_cons_of_mem _ (List.mem_append_left _ (List.mem_of_getElem? (i := 6) rfl))) (sub_app (sub_cons (List.mem_cons_of_mem _ (List.mem_append_left _ (List.mem_of_getElem? (i := 7) rfl))) (sub_cons (List.mem_cons_of_mem _ (List.mem_append_left _ (List.mem_of_getElem? (i := 8) rfl))) sub_nil)) (fun w h9 => (List.mem_cons_of_mem _ (List.mem_append_right _ h9))))) gw_X6_wrong
set_option maxRecDepth 20000 in
theorem gX6_checkNumber_X6_wrong : GoodIn wsX6_checkNumber (wsV RX6 87 RX6 yX6_wrong wsX6_wrong) := goodIn_app (goodIn_sub (sub_cons (List.mem_cons_of_mem _ (List.mem_append_left _ (List.mem_of_getElem? (i := 2) rfl))) (sub_cons (List.mem_cons_of_mem _ (List.mem_append_left _ (List.mem_of_getElem? (i := 3) rfl))) (sub_cons (List.mem_cons_of_mem _ (List.mem_append_left _ (List.mem_of_getElem? (i := 4) rfl))) (sub_cons (List.mem_cons_of_mem _ (List.mem_append_left _ (List.mem_of_getElem? (i := 5) rfl))) sub_nil)))) (by decide +kernel)) ggX6_checkNumber_X6_wrong
set_option maxHeartbeats 4000000 in
set_option maxRecDepth 100000 in
theorem sX6_checkNumber (l : Launch) (D : va_G) (k : Nat → ClassId) (sz : Nat) (ta : Nat) (lo : Int32) (hi : Int32) (ta_signs : Nat) (ta_words : Nat) (ta_length : Nat) (ta_next : Nat) (ta_place : Int32) (ta_kind : Int32) (ta_value : Int32) (ta_letters : Int64) (ta_fault : Int32) (h_ta_length : ta_length ≤ 1000) (h_ta_next : ta_next ≤ 1000) : Met l yX6_checkNumber wsX6_checkNumber ({ frames := 1, cells := 0, slots := 0, locals := 70 }) (va_Pc [.ref ta, .int lo, .int hi] (kz_Pre D k [(ta, kO 6 [.ref ta_signs, .ref ta_words, .int (nI ta_length), .int (nI ta_next), .int ta_place, .int ta_kind, .int ta_value, .long ta_letters, .int ta_fault])] sz)) (va_Qi (fun (rr : Int32) (uu : Int32 × Bool) => rr = bB uu.2 ∧ ((uu.1, uu.2) = (fX6_checkNumber lo hi ta_place ta_kind ta_value ta_fault))) (fun uu zt => kz_B D (va_A [(ta, kO 6 [.ref ta_signs, .ref ta_words, .int (nI ta_length), .int (nI ta_next), .int ta_place, .int ta_kind, .int ta_value, .long ta_letters, .int ta_fault])] sz) [(ta, kO 6 [.ref ta_signs, .ref ta_words, .int (nI ta_length), .int (nI ta_next), .int ta_place, .int ta_kind, .int ta_value, .long ta_letters, .int uu.1])] zt) (va_A [(ta, kO 6 [.ref ta_signs, .ref ta_words, .int (nI ta_length), .int (nI ta_next), .int ta_place, .int ta_kind, .int ta_value, .long ta_letters, .int ta_fault])] sz)) 0 0 (va_A [(ta, kO 6 [.ref ta_signs, .ref ta_words, .int (nI ta_length), .int (nI ta_next), .int ta_place, .int ta_kind, .int ta_value, .long ta_letters, .int ta_fault])] sz) := by
  refine Met.ofW (cc := cX6_checkNumber) (maxL := 3) (ret := (some .boolean)) (by decide) rfl ?_
  intro p e s m args below meth c s₁ B hml hv
  obtain ⟨hav, hsz, hP, hK, hD0, hE⟩ := hv
  have hx := B.exec
  have hb := B.bytes
  have hr := B.returns
  have hts := atoms_spec (ws := wsX6_checkNumber) B.pre
  have hown : s.vm.findClass RX6 = some m.cls := findClass_of_methodNamed B.named
  have hlocks := B.notSynchronized
  have hi6 : ∀ w ∈ u_ws RX6 TX6 9, w ∈ wsX6_checkNumber := fun w h9 => List.mem_cons_of_mem _ (List.mem_append_right _ h9)
  have lf59 := hts (.fieldLink RX6 59 "LastCook$Tape" "kind" "I") (List.mem_cons_of_mem _ (List.mem_append_left _ (List.mem_of_getElem? (i := 0) rfl)))
  have lf56 := hts (.fieldLink RX6 56 "LastCook$Tape" "value" "I") (List.mem_cons_of_mem _ (List.mem_append_left _ (List.mem_of_getElem? (i := 1) rfl)))
  have lz8 := hts (.initialized RX8) (List.mem_cons_of_mem _ (List.mem_append_left _ (List.mem_of_getElem? (i := 10) rfl)))
  have lnst_X8_isWithin := hts (.static yX8_isWithin) (List.mem_cons_of_mem _ (List.mem_append_left _ (List.mem_of_getElem? (i := 9) rfl)))
  subst hsz
  have hD := hD0.self (sz := s.heap.size)
  generalize hAe : va_A [(ta, kO 6 [.ref ta_signs, .ref ta_words, .int (nI ta_length), .int (nI ta_next), .int ta_place, .int ta_kind, .int ta_value, .long ta_letters, .int ta_fault])] s.heap.size = A at hD ⊢
  have hA : ∀ q : Nat, s.heap.size ≤ q → A q := fun q h => by rw [← hAe]; exact Or.inr h
  have hS : va_S A s.heap s.heap [] := va_S.rf
  have hl := lv_entry ([.ref ta, .int lo, .int hi]) (n := 3) (Nat.le_of_ble_eq_true rfl)
  rw [show entryFrame m args 3 = entryFrame m ([.ref ta, .int lo, .int hi] : List Value).toArray 3 by rw [hav], lg_entry_eq]
  generalize (lg_sl ([.ref ta, .int lo, .int hi]) ++ List.replicate (3 - (lg_sl ([.ref ta, .int lo, .int hi])).length) Slot.unset).toArray = ls at hl ⊢
  have hl : lv_has ls 3 [(0, .ref ta), (1, .int lo), (2, .int hi)] := hl
  obtain ⟨R, hR⟩ : ∃ R, R = (headSpec wsX6_checkNumber ({ frames := 1, cells := 0, slots := 0, locals := 70 } : Room)).room := ⟨_, rfl⟩
  rw [← hR]
  generalize hQ : MQ below _ args s 0 0 A = Q
  replace hQ := hQ.symm
  obtain ⟨H, hH⟩ : ∃ H, H = s.heap := ⟨_, rfl⟩
  rw [← hH] at hP ⊢
  have hS : va_S A s.heap H [] := by rw [hH]; exact hS
  obtain ⟨E0, hE0⟩ : ∃ E0 : Int32 × Bool, E0 = (fX6_checkNumber lo hi ta_place ta_kind ta_value ta_fault) := ⟨_, rfl⟩
  have hZ : (fX6_checkNumber lo hi ta_place ta_kind ta_value ta_fault) = E0 := hE0.symm
  refine lv_aload_n hx hb dX6_checkNumber_0 rfl (lv_at hl 0 rfl) ?_
  refine va_get (D := D) (ci := 6) (v := .int ta_kind) (C := RX6) (T := TX6) (N := 9) hx hb hts hi6 hown hK hP 0 rfl rfl 5 (by decide) lf59 (fun _ h9 => h9) rfl dX6_checkNumber_1 ?_
  refine lv_iconst (v := 2) hx hb dX6_checkNumber_4 (by decide) ?_
  refine lv_icmp_eq (tgt := 14) hx hb dX6_checkNumber_5 (by decide) (fun c_1 => ?_) (fun c_1 => ?_)
  · exact by
     have t_1 : (Int32.toInt ta_kind) = 2 := tI_eq rfl (by decide) c_1
     have hZ := (if_pos c_1).symm.trans hZ
     refine lv_aload_n hx hb dX6_checkNumber_14 rfl (lv_at hl 0 rfl) ?_
     refine va_get (D := D) (ci := 6) (v := .int ta_value) (C := RX6) (T := TX6) (N := 9) hx hb hts hi6 hown hK hP 0 rfl rfl 6 (by decide) lf56 (fun _ h9 => h9) rfl dX6_checkNumber_15 ?_
     refine lv_iload_n hx hb dX6_checkNumber_18 rfl (lv_at hl 1 rfl) ?_
     refine lv_iload_n hx hb dX6_checkNumber_19 rfl (lv_at hl 2 rfl) ?_
     refine kz_SNi (As := [.int ta_value, .int lo, .int hi]) (rest := []) (wc := []) (wr := [(ta, kO 6 [.ref ta_signs, .ref ta_words, .int (nI ta_length), .int (nI ta_next), .int ta_place, .int ta_kind, .int ta_value, .long ta_letters, .int ta_fault])]) ⟨hx, hb, hml, hown, hts⟩ hK hE hP hD hS hA (sX8_isWithin l D k H.size ta_value lo hi) ⟨va_cnB 3 hts gX6_checkNumber_X8_isWithin_n93 rfl rfl rfl hE.2.2.2.2.2.2.2.2.2.1 lz8 (by decide +kernel) (by rw [hR]; exact ⟨Nat.le_of_ble_eq_true rfl, Nat.le_of_ble_eq_true rfl⟩), lnst_X8_isWithin, trivial⟩ [] [0] rfl rfl (by decide +kernel) (by decide +kernel) (by decide +kernel) rfl hl.1 rfl (Nat.le_of_ble_eq_true rfl) dX6_checkNumber_20 (by rw [hR]; exact ⟨Nat.le_of_ble_eq_true rfl, Nat.le_of_ble_eq_true rfl⟩) (fun r2 u2 H locs hw2 hP hD hS => ?_)
     exact by
      try dsimp only at hw2
      obtain ⟨rfl, hw2⟩ := hw2
      have hP : va_P D vwCl [(ta, kO 6 [.ref ta_signs, .ref ta_words, .int (nI ta_length), .int (nI ta_next), .int ta_place, .int ta_kind, .int ta_value, .long ta_letters, .int ta_fault])] H := hP
      have hD : va_D A [(ta, kO 6 [.ref ta_signs, .ref ta_words, .int (nI ta_length), .int (nI ta_next), .int ta_place, .int ta_kind, .int ta_value, .long ta_letters, .int ta_fault])] := hD
      obtain ⟨hw2_0, hw2_1⟩ := hw2
      have hZ := bn1_e hw2_0 hZ
      have hj39_3 : ∀ (s0_39 : Bool) (fta_8_39 : Int32) (H : Heap) (locs : List Loc) (ls : Array Slot), (fX6_checkNumber_J39a s0_39 fta_8_39 = E0) → va_P D vwCl [(ta, kO 6 [.ref ta_signs, .ref ta_words, .int (nI ta_length), .int (nI ta_next), .int ta_place, .int ta_kind, .int ta_value, .long ta_letters, .int fta_8_39])] H → va_D A [(ta, kO 6 [.ref ta_signs, .ref ta_words, .int (nI ta_length), .int (nI ta_next), .int ta_place, .int ta_kind, .int ta_value, .long ta_letters, .int fta_8_39])] → va_S A s.heap H locs → lv_has ls 3 [(0, .ref ta), (1, .int lo), (2, .int hi)] → W p l e R s m args below meth c H locs 0 0 Q (F0 m 39 ls [.int (bB s0_39)]) := by
        intro s0_39 fta_8_39 H locs ls hZ hP hD hS hl
        rw [hQ]
        have hP9 := hP.sub (ws' := [(ta, kO 6 [.ref ta_signs, .ref ta_words, .int (nI ta_length), .int (nI ta_next), .int ta_place, .int ta_kind, .int ta_value, .long ta_letters, .int fta_8_39])]) [0] rfl
        have hD9 := hD.sub (ws' := [(ta, kO 6 [.ref ta_signs, .ref ta_words, .int (nI ta_length), .int (nI ta_next), .int ta_place, .int ta_kind, .int ta_value, .long ta_letters, .int fta_8_39])]) [0] (by decide +kernel) rfl
        exact W.zret (v := (bB s0_39)) hx hb hr (narrow_bB _) (fun zt ht hW => ⟨⟨(bB s0_39), ⟨fta_8_39, s0_39⟩, rfl, ⟨rfl, (hZ.trans hE0)⟩, by rw [ht]; exact hP9, hD9⟩, hS.F ht⟩) hS.2.2 dX6_checkNumber_39
      have hj34_4 : ∀ (fta_8_34 : Int32) (H : Heap) (locs : List Loc) (ls : Array Slot), (fX6_checkNumber_J34a fta_8_34 = E0) → va_P D vwCl [(ta, kO 6 [.ref ta_signs, .ref ta_words, .int (nI ta_length), .int (nI ta_next), .int ta_place, .int ta_kind, .int ta_value, .long ta_letters, .int fta_8_34])] H → va_D A [(ta, kO 6 [.ref ta_signs, .ref ta_words, .int (nI ta_length), .int (nI ta_next), .int ta_place, .int ta_kind, .int ta_value, .long ta_letters, .int fta_8_34])] → va_S A s.heap H locs → lv_has ls 3 [(0, .ref ta), (1, .int lo), (2, .int hi)] → W p l e R s m args below meth c H locs 0 0 Q (F0 m 34 ls []) := by
        intro fta_8_34 H locs ls hZ hP hD hS hl
        refine lv_iconst (v := 1) hx hb dX6_checkNumber_34 (by decide) ?_
        refine lv_goto (tgt := 39) hx hb dX6_checkNumber_35 (by decide) ?_
        exact hj39_3 true fta_8_34 _ _ _ hZ (hP.sub [0] rfl) (hD.sub [0] (by decide +kernel) rfl) hS (lv_sub hl [0, 1, 2] rfl)
      refine lv_if_ne (tgt := 34) hx hb dX6_checkNumber_23 (by decide) (fun c_5 => ?_) (fun c_5 => ?_)
      · exact by
         have b_5 : u2 = true := bB_1 c_5
         have zf_5 := hw2_1 b_5
         have hZ := (if_pos b_5).symm.trans hZ
         exact hj34_4 ta_fault _ _ _ hZ (hP.sub [0] rfl) (hD.sub [0] (by decide +kernel) rfl) hS (lv_sub hl [0, 1, 2] rfl)
      · exact by
         have b_5 : u2 = false := bB_0 c_5
         have hZ := (if_neg (bF b_5)).symm.trans hZ
         refine lv_aload_n hx hb dX6_checkNumber_26 rfl (lv_at hl 0 rfl) ?_
         refine lv_iconst (v := 4) hx hb dX6_checkNumber_27 (by decide) ?_
         refine kz_Vi (As := [.int 4]) (rest := []) (wc := [(ta, kO 6 [.ref ta_signs, .ref ta_words, .int (nI ta_length), .int (nI ta_next), .int ta_place, .int ta_kind, .int ta_value, .long ta_letters, .int ta_fault])]) (wr := []) ⟨hx, hb, hml, hown, hts⟩ hK hE hP hD hS hA (sX6_wrong l D k H.size ta 4 ta_signs ta_words ta_length ta_next ta_place ta_kind ta_value ta_letters ta_fault (by first | omega | assumption | decide) (by first | omega | assumption | decide)) (cwV 1 hts gX6_checkNumber_X6_wrong rfl rfl rfl (by decide +kernel) (by rw [hR]; exact ⟨Nat.le_of_ble_eq_true rfl, Nat.le_of_ble_eq_true rfl⟩)) [0] [] rfl rfl (by decide +kernel) (by decide +kernel) (by decide +kernel) 0 rfl rfl rfl hl.1 rfl (Nat.le_of_ble_eq_true rfl) dX6_checkNumber_28 (by rw [hR]; exact ⟨Nat.le_of_ble_eq_true rfl, Nat.le_of_ble_eq_true rfl⟩) (fun r6 u6 H locs hw6 hP hD hS => ?_)
         exact by
          obtain ⟨u_ta_86, ub6⟩ := u6
          try dsimp only at hw6
          obtain ⟨rfl, hw6⟩ := hw6
          have hP : va_P D vwCl [(ta, kO 6 [.ref ta_signs, .ref ta_words, .int (nI ta_length), .int (nI ta_next), .int ta_place, .int ta_kind, .int ta_value, .long ta_letters, .int u_ta_86])] H := hP
          have hD : va_D A [(ta, kO 6 [.ref ta_signs, .ref ta_words, .int (nI ta_length), .int (nI ta_next), .int ta_place, .int ta_kind, .int ta_value, .long ta_letters, .int u_ta_86])] := hD
          have hw6_0 := hw6
          have hZ := bn2_e hw6_0 hZ
          refine lv_if_eq (tgt := 38) hx hb dX6_checkNumber_31 (by decide) (fun c_7 => ?_) (fun c_7 => ?_)
          · exact by
             have b_7 : ub6 = false := bB_0 c_7
             have hZ := (if_neg (bF b_7)).symm.trans hZ
             refine lv_iconst (v := 0) hx hb dX6_checkNumber_38 (by decide) ?_
             exact hj39_3 false u_ta_86 _ _ _ hZ (hP.sub [0] rfl) (hD.sub [0] (by decide +kernel) rfl) hS (lv_sub hl [0, 1, 2] rfl)
          · exact by
             have b_7 : ub6 = true := bB_1 c_7
             have hZ := (if_pos b_7).symm.trans hZ
             exact hj34_4 u_ta_86 _ _ _ hZ (hP.sub [0] rfl) (hD.sub [0] (by decide +kernel) rfl) hS (lv_sub hl [0, 1, 2] rfl)
  · exact by
     have t_1 : (Int32.toInt ta_kind) ≠ 2 := tI_ne rfl (by decide) c_1
     have hZ := (if_neg c_1).symm.trans hZ
     refine lv_aload_n hx hb dX6_checkNumber_8 rfl (lv_at hl 0 rfl) ?_
     refine lv_iconst (v := 1) hx hb dX6_checkNumber_9 (by decide) ?_
     refine kz_Vi (As := [.int 1]) (rest := []) (wc := [(ta, kO 6 [.ref ta_signs, .ref ta_words, .int (nI ta_length), .int (nI ta_next), .int ta_place, .int ta_kind, .int ta_value, .long ta_letters, .int ta_fault])]) (wr := []) ⟨hx, hb, hml, hown, hts⟩ hK hE hP hD hS hA (sX6_wrong l D k H.size ta 1 ta_signs ta_words ta_length ta_next ta_place ta_kind ta_value ta_letters ta_fault (by first | omega | assumption | decide) (by first | omega | assumption | decide)) (cwV 1 hts gX6_checkNumber_X6_wrong rfl rfl rfl (by decide +kernel) (by rw [hR]; exact ⟨Nat.le_of_ble_eq_true rfl, Nat.le_of_ble_eq_true rfl⟩)) [0] [] rfl rfl (by decide +kernel) (by decide +kernel) (by decide +kernel) 0 rfl rfl rfl hl.1 rfl (Nat.le_of_ble_eq_true rfl) dX6_checkNumber_10 (by rw [hR]; exact ⟨Nat.le_of_ble_eq_true rfl, Nat.le_of_ble_eq_true rfl⟩) (fun r8 u8 H locs hw8 hP hD hS => ?_)
     exact by
      obtain ⟨u_ta_88, ub8⟩ := u8
      try dsimp only at hw8
      obtain ⟨rfl, hw8⟩ := hw8
      have hP : va_P D vwCl [(ta, kO 6 [.ref ta_signs, .ref ta_words, .int (nI ta_length), .int (nI ta_next), .int ta_place, .int ta_kind, .int ta_value, .long ta_letters, .int u_ta_88])] H := hP
      have hD : va_D A [(ta, kO 6 [.ref ta_signs, .ref ta_words, .int (nI ta_length), .int (nI ta_next), .int ta_place, .int ta_kind, .int ta_value, .long ta_letters, .int u_ta_88])] := hD
      have hw8_0 := hw8
      have hZ := bn2_e hw8_0 hZ
      rw [hQ]
      have hP9 := hP.sub (ws' := [(ta, kO 6 [.ref ta_signs, .ref ta_words, .int (nI ta_length), .int (nI ta_next), .int ta_place, .int ta_kind, .int ta_value, .long ta_letters, .int u_ta_88])]) [0] rfl
      have hD9 := hD.sub (ws' := [(ta, kO 6 [.ref ta_signs, .ref ta_words, .int (nI ta_length), .int (nI ta_next), .int ta_place, .int ta_kind, .int ta_value, .long ta_letters, .int u_ta_88])]) [0] (by decide +kernel) rfl
      exact W.zret (v := (bB ub8)) hx hb hr (narrow_bB _) (fun zt ht hW => ⟨⟨(bB ub8), ⟨u_ta_88, ub8⟩, rfl, ⟨rfl, (hZ.trans hE0)⟩, by rw [ht]; exact hP9, hD9⟩, hS.F ht⟩) hS.2.2 dX6_checkNumber_13
theorem dX6_takeNumber_0 : decode cX6_takeNumber 0 = .ok (.aload_n 0, 1) := dk_aload_n_0 (by decide +kernel)
theorem dX6_takeNumber_1 : decode cX6_takeNumber 1 = .ok (.iload_n 1, 1) := dk_iload_n_1 (by decide +kernel)
theorem dX6_takeNumber_2 : decode cX6_takeNumber 2 = .ok (.iload_n 2, 1) := dk_iload_n_2 (by decide +kernel)
theorem dX6_takeNumber_3 : decode cX6_takeNumber 3 = .ok (.invokevirtual 97, 3) := dk_invokevirtual (by decide +kernel)
theorem dX6_takeNumber_6 : decode cX6_takeNumber 6 = .ok (.ifCond .ne 5, 3) := dk_ifCond_ne (by decide +kernel)
theorem dX6_takeNumber_9 : decode cX6_takeNumber 9 = .ok (.iconst (-1), 1) := dk_iconst_m1 (by decide +kernel)
theorem dX6_takeNumber_10 : decode cX6_takeNumber 10 = .ok (.ireturn, 1) := dk_ireturn (by decide +kernel)
theorem dX6_takeNumber_11 : decode cX6_takeNumber 11 = .ok (.aload_n 0, 1) := dk_aload_n_0 (by decide +kernel)
theorem dX6_takeNumber_12 : decode cX6_takeNumber 12 = .ok (.getfield 56, 3) := dk_getfield (by decide +kernel)
theorem dX6_takeNumber_15 : decode cX6_takeNumber 15 = .ok (.istore_n 3, 1) := dk_istore_n_3 (by decide +kernel)
theorem dX6_takeNumber_16 : decode cX6_takeNumber 16 = .ok (.aload_n 0, 1) := dk_aload_n_0 (by decide +kernel)
theorem dX6_takeNumber_17 : decode cX6_takeNumber 17 = .ok (.invokevirtual 50, 3) := dk_invokevirtual (by decide +kernel)
theorem dX6_takeNumber_20 : decode cX6_takeNumber 20 = .ok (.iload_n 3, 1) := dk_iload_n_3 (by decide +kernel)
theorem dX6_takeNumber_21 : decode cX6_takeNumber 21 = .ok (.ireturn, 1) := dk_ireturn (by decide +kernel)
set_option maxRecDepth 20000 in
theorem ggX6_takeNumber_X6_checkNumber : GoodIn wsX6_takeNumber wsX6_checkNumber := goodIn_sub (sub_cons (List.mem_cons_of_mem _ (List.mem_append_left _ (List.mem_append_left _ (List.mem_of_getElem? (i := 5) rfl)))) (sub_app (sub_cons (List.mem_cons_of_mem _ (List.mem_append_left _ (List.mem_append_left _ (List.mem_of_getElem? (i := 6) rfl)))) (sub_cons (List.mem_cons_of_mem _ (List.mem_append_left _ (List.mem_append_left _ (List.mem_of_getElem? (i := 0) rfl)))) (sub_cons (List.mem_cons_of_mem _ (List.mem_append_left _ (List.mem_append_left _ (List.mem_of_getElem? (i := 7) rfl)))) (sub_cons (List.mem_cons_of_mem _ (List.mem_append_left _ (List.mem_append_left _ (List.mem_of_getElem? (i := 8) rfl)))) (sub_cons (List.mem_cons_of_mem _ (List.mem_append_left _ (List.mem_append_left _ (List.mem_of_getElem? (i := 9) rfl)))) (sub_cons (List.mem_cons_of_mem _ (List.mem_append_left _ (List.mem_append_left _ (List.mem_of_getElem? (i := 4) rfl)))) (sub_cons (List.mem_cons_of_mem _ (List.mem_append_left _ (List.mem_append_left _ (List.mem_of_getElem? (i := 10) rfl)))) (sub_cons (List.mem_cons_of_mem _ (List.mem_append_left _ (List.mem_append_left _ (List.mem_of_getElem? (i := 11) rfl)))) (sub_cons (List.mem_cons_of_mem _ (List.mem_append_left _ (List.mem_append_left _ (List.mem_of_getElem? (i := 12) rfl)))) (sub_cons (List.mem_cons_of_mem _ (List.mem_append_left _ (List.mem_append_left _ (List.mem_of_getElem? (i := 13) rfl)))) (sub_cons (List.mem_cons_of_mem _ (List.mem_append_left _ (List.mem_append_left _ (List.mem_of_getElem? (i := 14) rfl)))) (sub_cons (List.mem_cons_of_mem _ (List.mem_append_left _ (List.mem_append_left _ (List.mem_of_getElem? (i := 15) rfl)))) sub_nil)))))))))))) (fun w h9 => (List.mem_cons_of_mem _ (List.mem_append_right _ h9))))) gw_X6_checkNumber
set_option maxRecDepth 20000 in
theorem gX6_takeNumber_X6_checkNumber : GoodIn wsX6_takeNumber (wsV RX6 97 RX6 yX6_checkNumber wsX6_checkNumber) := goodIn_app (goodIn_sub (sub_cons (List.mem_cons_of_mem _ (List.mem_append_left _ (List.mem_append_left _ (List.mem_of_getElem? (i := 1) rfl)))) (sub_cons (List.mem_cons_of_mem _ (List.mem_append_left _ (List.mem_append_left _ (List.mem_of_getElem? (i := 2) rfl)))) (sub_cons (List.mem_cons_of_mem _ (List.mem_append_left _ (List.mem_append_left _ (List.mem_of_getElem? (i := 3) rfl)))) (sub_cons (List.mem_cons_of_mem _ (List.mem_append_left _ (List.mem_append_left _ (List.mem_of_getElem? (i := 4) rfl)))) sub_nil)))) (by decide +kernel)) ggX6_takeNumber_X6_checkNumber
set_option maxRecDepth 20000 in
theorem ggX6_takeNumber_X6_advance : GoodIn wsX6_takeNumber wsX6_advance := goodIn_sub (sub_cons (List.mem_cons_of_mem _ (List.mem_append_left _ (List.mem_append_left _ (List.mem_of_getElem? (i := 19) rfl)))) (sub_app (sub_app (sub_cons (List.mem_cons_of_mem _ (List.mem_append_left _ (List.mem_append_left _ (List.mem_of_getElem? (i := 20) rfl)))) (sub_cons (List.mem_cons_of_mem _ (List.mem_append_left _ (List.mem_append_left _ (List.mem_of_getElem? (i := 21) rfl)))) (sub_cons (List.mem_cons_of_mem _ (List.mem_append_left _ (List.mem_append_left _ (List.mem_of_getElem? (i := 22) rfl)))) (sub_cons (List.mem_cons_of_mem _ (List.mem_append_left _ (List.mem_append_left _ (List.mem_of_getElem? (i := 11) rfl)))) (sub_cons (List.mem_cons_of_mem _ (List.mem_append_left _ (List.mem_append_left _ (List.mem_of_getElem? (i := 0) rfl)))) (sub_cons (List.mem_cons_of_mem _ (List.mem_append_left _ (List.mem_append_left _ (List.mem_of_getElem? (i := 6) rfl)))) (sub_cons (List.mem_cons_of_mem _ (List.mem_append_left _ (List.mem_append_left _ (List.mem_of_getElem? (i := 23) rfl)))) (sub_cons (List.mem_cons_of_mem _ (List.mem_append_left _ (List.mem_append_right _ (List.mem_append_left _ (List.mem_of_getElem? (i := 0) rfl))))) (sub_cons (List.mem_cons_of_mem _ (List.mem_append_left _ (List.mem_append_left _ (List.mem_of_getElem? (i := 4) rfl)))) (sub_cons (List.mem_cons_of_mem _ (List.mem_append_left _ (List.mem_append_right _ (List.mem_append_left _ (List.mem_of_getElem? (i := 1) rfl))))) (sub_cons (List.mem_cons_of_mem _ (List.mem_append_left _ (List.mem_append_right _ (List.mem_append_left _ (List.mem_of_getElem? (i := 2) rfl))))) (sub_cons (List.mem_cons_of_mem _ (List.mem_append_left _ (List.mem_append_right _ (List.mem_append_left _ (List.mem_of_getElem? (i := 3) rfl))))) (sub_cons (List.mem_cons_of_mem _ (List.mem_append_left _ (List.mem_append_right _ (List.mem_append_left _ (List.mem_of_getElem? (i := 4) rfl))))) (sub_cons (List.mem_cons_of_mem _ (List.mem_append_left _ (List.mem_append_right _ (List.mem_append_left _ (List.mem_of_getElem? (i := 5) rfl))))) (sub_cons (List.mem_cons_of_mem _ (List.mem_append_left _ (List.mem_append_right _ (List.mem_append_left _ (List.mem_of_getElem? (i := 6) rfl))))) (sub_cons (List.mem_cons_of_mem _ (List.mem_append_left _ (List.mem_append_right _ (List.mem_append_left _ (List.mem_of_getElem? (i := 7) rfl))))) (sub_cons (List.mem_cons_of_mem _ (List.mem_append_left _ (List.mem_append_right _ (List.mem_append_left _ (List.mem_of_getElem? (i := 8) rfl))))) (sub_cons (List.mem_cons_of_mem _ (List.mem_append_left _ (List.mem_append_right _ (List.mem_append_left _ (List.mem_of_getElem? (i := 9) rfl))))) (sub_cons (List.mem_cons_of_mem _ (List.mem_append_left _ (List.mem_append_right _ (List.mem_append_left _ (List.mem_of_getElem? (i := 10) rfl))))) (sub_cons (List.mem_cons_of_mem _ (List.mem_append_left _ (List.mem_append_right _ (List.mem_append_left _ (List.mem_of_getElem? (i := 11) rfl))))) (sub_cons (List.mem_cons_of_mem _ (List.mem_append_left _ (List.mem_append_right _ (List.mem_append_left _ (List.mem_of_getElem? (i := 12) rfl))))) (sub_cons (List.mem_cons_of_mem _ (List.mem_append_left _ (List.mem_append_right _ (List.mem_append_left _ (List.mem_of_getElem? (i := 13) rfl))))) (sub_cons (List.mem_cons_of_mem _ (List.mem_append_left _ (List.mem_append_right _ (List.mem_append_left _ (List.mem_of_getElem? (i := 14) rfl))))) (sub_cons (List.mem_cons_of_mem _ (List.mem_append_left _ (List.mem_append_right _ (List.mem_append_left _ (List.mem_of_getElem? (i := 15) rfl))))) sub_nil)))))))))))))))))))))))) (sub_app (sub_cons (List.mem_cons_of_mem _ (List.mem_append_left _ (List.mem_append_right _ (List.mem_append_left _ (List.mem_of_getElem? (i := 16) rfl))))) (sub_cons (List.mem_cons_of_mem _ (List.mem_append_left _ (List.mem_append_right _ (List.mem_append_left _ (List.mem_of_getElem? (i := 17) rfl))))) (sub_cons (List.mem_cons_of_mem _ (List.mem_append_left _ (List.mem_append_right _ (List.mem_append_left _ (List.mem_of_getElem? (i := 18) rfl))))) (sub_cons (List.mem_cons_of_mem _ (List.mem_append_left _ (List.mem_append_right _ (List.mem_append_left _ (List.mem_of_getElem? (i := 19) rfl))))) (sub_cons (List.mem_cons_of_mem _ (List.mem_append_left _ (List.mem_append_right _ (List.mem_append_left _ (List.mem_of_getElem? (i := 20) rfl))))) (sub_cons (List.mem_cons_of_mem _ (List.mem_append_left _ (List.mem_append_right _ (List.mem_append_left _ (List.mem_of_getElem? (i := 21) rfl))))) (sub_cons (List.mem_cons_of_mem _ (List.mem_append_left _ (List.mem_append_right _ (List.mem_append_left _ (List.mem_of_getElem? (i := 22) rfl))))) (sub_cons (List.mem_cons_of_mem _ (List.mem_append_left _ (List.mem_append_right _ (List.mem_append_left _ (List.mem_of_getElem? (i := 23) rfl))))) (sub_cons (List.mem_cons_of_mem _ (List.mem_append_left _ (List.mem_append_right _ (List.mem_append_right _ (List.mem_append_left _ (List.mem_of_getElem? (i := 0) rfl)))))) (sub_cons (List.mem_cons_of_mem _ (List.mem_append_left _ (List.mem_append_right _ (List.mem_append_right _ (List.mem_append_left _ (List.mem_of_getElem? (i := 1) rfl)))))) (sub_cons (List.mem_cons_of_mem _ (List.mem_append_left _ (List.mem_append_right _ (List.mem_append_right _ (List.mem_append_left _ (List.mem_of_getElem? (i := 2) rfl)))))) (sub_cons (List.mem_cons_of_mem _ (List.mem_append_left _ (List.mem_append_right _ (List.mem_append_right _ (List.mem_append_left _ (List.mem_of_getElem? (i := 3) rfl)))))) (sub_cons (List.mem_cons_of_mem _ (List.mem_append_left _ (List.mem_append_right _ (List.mem_append_right _ (List.mem_append_left _ (List.mem_of_getElem? (i := 4) rfl)))))) (sub_cons (List.mem_cons_of_mem _ (List.mem_append_left _ (List.mem_append_right _ (List.mem_append_right _ (List.mem_append_left _ (List.mem_of_getElem? (i := 5) rfl)))))) (sub_cons (List.mem_cons_of_mem _ (List.mem_append_left _ (List.mem_append_right _ (List.mem_append_right _ (List.mem_append_left _ (List.mem_of_getElem? (i := 6) rfl)))))) (sub_cons (List.mem_cons_of_mem _ (List.mem_append_left _ (List.mem_append_right _ (List.mem_append_right _ (List.mem_append_left _ (List.mem_of_getElem? (i := 7) rfl)))))) (sub_cons (List.mem_cons_of_mem _ (List.mem_append_left _ (List.mem_append_right _ (List.mem_append_right _ (List.mem_append_left _ (List.mem_of_getElem? (i := 8) rfl)))))) (sub_cons (List.mem_cons_of_mem _ (List.mem_append_left _ (List.mem_append_right _ (List.mem_append_right _ (List.mem_append_left _ (List.mem_of_getElem? (i := 9) rfl)))))) (sub_cons (List.mem_cons_of_mem _ (List.mem_append_left _ (List.mem_append_right _ (List.mem_append_right _ (List.mem_append_left _ (List.mem_of_getElem? (i := 10) rfl)))))) (sub_cons (List.mem_cons_of_mem _ (List.mem_append_left _ (List.mem_append_right _ (List.mem_append_right _ (List.mem_append_left _ (List.mem_of_getElem? (i := 11) rfl)))))) (sub_cons (List.mem_cons_of_mem _ (List.mem_append_left _ (List.mem_append_right _ (List.mem_append_right _ (List.mem_append_left _ (List.mem_of_getElem? (i := 12) rfl)))))) (sub_cons (List.mem_cons_of_mem _ (List.mem_append_left _ (List.mem_append_right _ (List.mem_append_right _ (List.mem_append_left _ (List.mem_of_getElem? (i := 13) rfl)))))) (sub_cons (List.mem_cons_of_mem _ (List.mem_append_left _ (List.mem_append_right _ (List.mem_append_right _ (List.mem_append_left _ (List.mem_of_getElem? (i := 14) rfl)))))) (sub_cons (List.mem_cons_of_mem _ (List.mem_append_left _ (List.mem_append_right _ (List.mem_append_right _ (List.mem_append_left _ (List.mem_of_getElem? (i := 15) rfl)))))) sub_nil)))))))))))))))))))))))) (sub_app (sub_cons (List.mem_cons_of_mem _ (List.mem_append_left _ (List.mem_append_right _ (List.mem_append_right _ (List.mem_append_left _ (List.mem_of_getElem? (i := 16) rfl)))))) (sub_cons (List.mem_cons_of_mem _ (List.mem_append_left _ (List.mem_append_right _ (List.mem_append_right _ (List.mem_append_left _ (List.mem_of_getElem? (i := 17) rfl)))))) (sub_cons (List.mem_cons_of_mem _ (List.mem_append_left _ (List.mem_append_right _ (List.mem_append_right _ (List.mem_append_left _ (List.mem_of_getElem? (i := 18) rfl)))))) (sub_cons (List.mem_cons_of_mem _ (List.mem_append_left _ (List.mem_append_right _ (List.mem_append_right _ (List.mem_append_left _ (List.mem_of_getElem? (i := 19) rfl)))))) (sub_cons (List.mem_cons_of_mem _ (List.mem_append_left _ (List.mem_append_right _ (List.mem_append_right _ (List.mem_append_left _ (List.mem_of_getElem? (i := 20) rfl)))))) (sub_cons (List.mem_cons_of_mem _ (List.mem_append_left _ (List.mem_append_right _ (List.mem_append_right _ (List.mem_append_left _ (List.mem_of_getElem? (i := 21) rfl)))))) (sub_cons (List.mem_cons_of_mem _ (List.mem_append_left _ (List.mem_append_right _ (List.mem_append_right _ (List.mem_append_left _ (List.mem_of_getElem? (i := 22) rfl)))))) (sub_cons (List.mem_cons_of_mem _ (List.mem_append_left _ (List.mem_append_right _ (List.mem_append_right _ (List.mem_append_left _ (List.mem_of_getElem? (i := 23) rfl)))))) (sub_cons (List.mem_cons_of_mem _ (List.mem_append_left _ (List.mem_append_right _ (List.mem_append_right _ (List.mem_append_right _ (List.mem_append_left _ (List.mem_of_getElem? (i := 0) rfl))))))) (sub_cons (List.mem_cons_of_mem _ (List.mem_append_left _ (List.mem_append_right _ (List.mem_append_right _ (List.mem_append_right _ (List.mem_append_left _ (List.mem_of_getElem? (i := 1) rfl))))))) (sub_cons (List.mem_cons_of_mem _ (List.mem_append_left _ (List.mem_append_right _ (List.mem_append_right _ (List.mem_append_right _ (List.mem_append_left _ (List.mem_of_getElem? (i := 2) rfl))))))) (sub_cons (List.mem_cons_of_mem _ (List.mem_append_left _ (List.mem_append_right _ (List.mem_append_right _ (List.mem_append_right _ (List.mem_append_left _ (List.mem_of_getElem? (i := 3) rfl))))))) (sub_cons (List.mem_cons_of_mem _ (List.mem_append_left _ (List.mem_append_right _ (List.mem_append_right _ (List.mem_append_right _ (List.mem_append_left _ (List.mem_of_getElem? (i := 4) rfl))))))) (sub_cons (List.mem_cons_of_mem _ (List.mem_append_left _ (List.mem_append_right _ (List.mem_append_right _ (List.mem_append_right _ (List.mem_append_left _ (List.mem_of_getElem? (i := 5) rfl))))))) (sub_cons (List.mem_cons_of_mem _ (List.mem_append_left _ (List.mem_append_right _ (List.mem_append_right _ (List.mem_append_right _ (List.mem_append_left _ (List.mem_of_getElem? (i := 6) rfl))))))) (sub_cons (List.mem_cons_of_mem _ (List.mem_append_left _ (List.mem_append_right _ (List.mem_append_right _ (List.mem_append_right _ (List.mem_append_left _ (List.mem_of_getElem? (i := 7) rfl))))))) (sub_cons (List.mem_cons_of_mem _ (List.mem_append_left _ (List.mem_append_right _ (List.mem_append_right _ (List.mem_append_right _ (List.mem_append_left _ (List.mem_of_getElem? (i := 8) rfl))))))) (sub_cons (List.mem_cons_of_mem _ (List.mem_append_left _ (List.mem_append_right _ (List.mem_append_right _ (List.mem_append_right _ (List.mem_append_left _ (List.mem_of_getElem? (i := 9) rfl))))))) (sub_cons (List.mem_cons_of_mem _ (List.mem_append_left _ (List.mem_append_right _ (List.mem_append_right _ (List.mem_append_right _ (List.mem_append_left _ (List.mem_of_getElem? (i := 10) rfl))))))) (sub_cons (List.mem_cons_of_mem _ (List.mem_append_left _ (List.mem_append_right _ (List.mem_append_right _ (List.mem_append_right _ (List.mem_append_left _ (List.mem_of_getElem? (i := 11) rfl))))))) (sub_cons (List.mem_cons_of_mem _ (List.mem_append_left _ (List.mem_append_right _ (List.mem_append_right _ (List.mem_append_right _ (List.mem_append_left _ (List.mem_of_getElem? (i := 12) rfl))))))) (sub_cons (List.mem_cons_of_mem _ (List.mem_append_left _ (List.mem_append_right _ (List.mem_append_right _ (List.mem_append_right _ (List.mem_append_left _ (List.mem_of_getElem? (i := 13) rfl))))))) (sub_cons (List.mem_cons_of_mem _ (List.mem_append_left _ (List.mem_append_right _ (List.mem_append_right _ (List.mem_append_right _ (List.mem_append_left _ (List.mem_of_getElem? (i := 14) rfl))))))) (sub_cons (List.mem_cons_of_mem _ (List.mem_append_left _ (List.mem_append_right _ (List.mem_append_right _ (List.mem_append_right _ (List.mem_append_left _ (List.mem_of_getElem? (i := 15) rfl))))))) sub_nil)))))))))))))))))))))))) (sub_app (sub_cons (List.mem_cons_of_mem _ (List.mem_append_left _ (List.mem_append_right _ (List.mem_append_right _ (List.mem_append_right _ (List.mem_append_left _ (List.mem_of_getElem? (i := 16) rfl))))))) (sub_cons (List.mem_cons_of_mem _ (List.mem_append_left _ (List.mem_append_right _ (List.mem_append_right _ (List.mem_append_right _ (List.mem_append_left _ (List.mem_of_getElem? (i := 17) rfl))))))) (sub_cons (List.mem_cons_of_mem _ (List.mem_append_left _ (List.mem_append_right _ (List.mem_append_right _ (List.mem_append_right _ (List.mem_append_left _ (List.mem_of_getElem? (i := 18) rfl))))))) (sub_cons (List.mem_cons_of_mem _ (List.mem_append_left _ (List.mem_append_right _ (List.mem_append_right _ (List.mem_append_right _ (List.mem_append_left _ (List.mem_of_getElem? (i := 19) rfl))))))) (sub_cons (List.mem_cons_of_mem _ (List.mem_append_left _ (List.mem_append_right _ (List.mem_append_right _ (List.mem_append_right _ (List.mem_append_left _ (List.mem_of_getElem? (i := 20) rfl))))))) (sub_cons (List.mem_cons_of_mem _ (List.mem_append_left _ (List.mem_append_right _ (List.mem_append_right _ (List.mem_append_right _ (List.mem_append_left _ (List.mem_of_getElem? (i := 21) rfl))))))) (sub_cons (List.mem_cons_of_mem _ (List.mem_append_left _ (List.mem_append_right _ (List.mem_append_right _ (List.mem_append_right _ (List.mem_append_left _ (List.mem_of_getElem? (i := 22) rfl))))))) (sub_cons (List.mem_cons_of_mem _ (List.mem_append_left _ (List.mem_append_right _ (List.mem_append_right _ (List.mem_append_right _ (List.mem_append_left _ (List.mem_of_getElem? (i := 23) rfl))))))) (sub_cons (List.mem_cons_of_mem _ (List.mem_append_left _ (List.mem_append_right _ (List.mem_append_right _ (List.mem_append_right _ (List.mem_append_right _ (List.mem_append_left _ (List.mem_of_getElem? (i := 0) rfl)))))))) (sub_cons (List.mem_cons_of_mem _ (List.mem_append_left _ (List.mem_append_right _ (List.mem_append_right _ (List.mem_append_right _ (List.mem_append_right _ (List.mem_append_left _ (List.mem_of_getElem? (i := 1) rfl)))))))) (sub_cons (List.mem_cons_of_mem _ (List.mem_append_left _ (List.mem_append_right _ (List.mem_append_right _ (List.mem_append_right _ (List.mem_append_right _ (List.mem_append_left _ (List.mem_of_getElem? (i := 2) rfl)))))))) (sub_cons (List.mem_cons_of_mem _ (List.mem_append_left _ (List.mem_append_right _ (List.mem_append_right _ (List.mem_append_right _ (List.mem_append_right _ (List.mem_append_left _ (List.mem_of_getElem? (i := 3) rfl)))))))) (sub_cons (List.mem_cons_of_mem _ (List.mem_append_left _ (List.mem_append_right _ (List.mem_append_right _ (List.mem_append_right _ (List.mem_append_right _ (List.mem_append_left _ (List.mem_of_getElem? (i := 4) rfl)))))))) (sub_cons (List.mem_cons_of_mem _ (List.mem_append_left _ (List.mem_append_right _ (List.mem_append_right _ (List.mem_append_right _ (List.mem_append_right _ (List.mem_append_left _ (List.mem_of_getElem? (i := 5) rfl)))))))) (sub_cons (List.mem_cons_of_mem _ (List.mem_append_left _ (List.mem_append_right _ (List.mem_append_right _ (List.mem_append_right _ (List.mem_append_right _ (List.mem_append_left _ (List.mem_of_getElem? (i := 6) rfl)))))))) (sub_cons (List.mem_cons_of_mem _ (List.mem_append_left _ (List.mem_append_right _ (List.mem_append_right _ (List.mem_append_right _ (List.mem_append_right _ (List.mem_append_left _ (List.mem_of_getElem? (i := 7) rfl)))))))) (sub_cons (List.mem_cons_of_mem _ (List.mem_append_left _ (List.mem_append_right _ (List.mem_append_right _ (List.mem_append_right _ (List.mem_append_right _ (List.mem_append_left _ (List.mem_of_getElem? (i := 8) rfl)))))))) (sub_cons (List.mem_cons_of_mem _ (List.mem_append_left _ (List.mem_append_right _ (List.mem_append_right _ (List.mem_append_right _ (List.mem_append_right _ (List.mem_append_left _ (List.mem_of_getElem? (i := 9) rfl)))))))) (sub_cons (List.mem_cons_of_mem _ (List.mem_append_left _ (List.mem_append_right _ (List.mem_append_right _ (List.mem_append_right _ (List.mem_append_right _ (List.mem_append_left _ (List.mem_of_getElem? (i := 10) rfl)))))))) (sub_cons (List.mem_cons_of_mem _ (List.mem_append_left _ (List.mem_append_right _ (List.mem_append_right _ (List.mem_append_right _ (List.mem_append_right _ (List.mem_append_left _ (List.mem_of_getElem? (i := 11) rfl)))))))) (sub_cons (List.mem_cons_of_mem _ (List.mem_append_left _ (List.mem_append_right _ (List.mem_append_right _ (List.mem_append_right _ (List.mem_append_right _ (List.mem_append_left _ (List.mem_of_getElem? (i := 12) rfl)))))))) (sub_cons (List.mem_cons_of_mem _ (List.mem_append_left _ (List.mem_append_right _ (List.mem_append_right _ (List.mem_append_right _ (List.mem_append_right _ (List.mem_append_left _ (List.mem_of_getElem? (i := 13) rfl)))))))) (sub_cons (List.mem_cons_of_mem _ (List.mem_append_left _ (List.mem_append_right _ (List.mem_append_right _ (List.mem_append_right _ (List.mem_append_right _ (List.mem_append_left _ (List.mem_of_getElem? (i := 14) rfl)))))))) (sub_cons (List.mem_cons_of_mem _ (List.mem_append_left _ (List.mem_append_right _ (List.mem_append_right _ (List.mem_append_right _ (List.mem_append_right _ (List.mem_append_left _ (List.mem_of_getElem? (i := 15) rfl)))))))) sub_nil)))))))))))))))))))))))) (sub_cons (List.mem_cons_of_mem _ (List.mem_append_left _ (List.mem_append_right _ (List.mem_append_right _ (List.mem_append_right _ (List.mem_append_right _ (List.mem_append_left _ (List.mem_of_getElem? (i := 16) rfl)))))))) (sub_cons (List.mem_cons_of_mem _ (List.mem_append_left _ (List.mem_append_right _ (List.mem_append_right _ (List.mem_append_right _ (List.mem_append_right _ (List.mem_append_left _ (List.mem_of_getElem? (i := 17) rfl)))))))) (sub_cons (List.mem_cons_of_mem _ (List.mem_append_left _ (List.mem_append_right _ (List.mem_append_right _ (List.mem_append_right _ (List.mem_append_right _ (List.mem_append_left _ (List.mem_of_getElem? (i := 18) rfl)))))))) (sub_cons (List.mem_cons_of_mem _ (List.mem_append_left _ (List.mem_append_right _ (List.mem_append_right _ (List.mem_append_right _ (List.mem_append_right _ (List.mem_append_left _ (List.mem_of_getElem? (i := 19) rfl)))))))) (sub_cons (List.mem_cons_of_mem _ (List.mem_append_left _ (List.mem_append_right _ (List.mem_append_right _ (List.mem_append_right _ (List.mem_append_right _ (List.mem_append_left _ (List.mem_of_getElem? (i := 20) rfl)))))))) (sub_cons (List.mem_cons_of_mem _ (List.mem_append_left _ (List.mem_append_right _ (List.mem_append_right _ (List.mem_append_right _ (List.mem_append_right _ (List.mem_append_left _ (List.mem_of_getElem? (i := 21) rfl)))))))) (sub_cons (List.mem_cons_of_mem _ (List.mem_append_left _ (List.mem_append_right _ (List.mem_append_right _ (List.mem_append_right _ (List.mem_append_right _ (List.mem_append_left _ (List.mem_of_getElem? (i := 22) rfl)))))))) (sub_cons (List.mem_cons_of_mem _ (List.mem_append_left _ (List.mem_append_right _ (List.mem_append_right _ (List.mem_append_right _ (List.mem_append_right _ (List.mem_append_left _ (List.mem_of_getElem? (i := 23) rfl)))))))) (sub_cons (List.mem_cons_of_mem _ (List.mem_append_left _ (List.mem_append_right _ (List.mem_append_right _ (List.mem_append_right _ (List.mem_append_right _ (List.mem_append_right _ (List.mem_of_getElem? (i := 0) rfl)))))))) (sub_cons (List.mem_cons_of_mem _ (List.mem_append_left _ (List.mem_append_right _ (List.mem_append_right _ (List.mem_append_right _ (List.mem_append_right _ (List.mem_append_right _ (List.mem_of_getElem? (i := 1) rfl)))))))) (sub_cons (List.mem_cons_of_mem _ (List.mem_append_left _ (List.mem_append_right _ (List.mem_append_right _ (List.mem_append_right _ (List.mem_append_right _ (List.mem_append_right _ (List.mem_of_getElem? (i := 2) rfl)))))))) (sub_cons (List.mem_cons_of_mem _ (List.mem_append_left _ (List.mem_append_right _ (List.mem_append_right _ (List.mem_append_right _ (List.mem_append_right _ (List.mem_append_right _ (List.mem_of_getElem? (i := 3) rfl)))))))) (sub_cons (List.mem_cons_of_mem _ (List.mem_append_left _ (List.mem_append_right _ (List.mem_append_right _ (List.mem_append_right _ (List.mem_append_right _ (List.mem_append_right _ (List.mem_of_getElem? (i := 4) rfl)))))))) (sub_cons (List.mem_cons_of_mem _ (List.mem_append_left _ (List.mem_append_right _ (List.mem_append_right _ (List.mem_append_right _ (List.mem_append_right _ (List.mem_append_right _ (List.mem_of_getElem? (i := 5) rfl)))))))) (sub_cons (List.mem_cons_of_mem _ (List.mem_append_left _ (List.mem_append_right _ (List.mem_append_right _ (List.mem_append_right _ (List.mem_append_right _ (List.mem_append_right _ (List.mem_of_getElem? (i := 6) rfl)))))))) (sub_cons (List.mem_cons_of_mem _ (List.mem_append_left _ (List.mem_append_right _ (List.mem_append_right _ (List.mem_append_right _ (List.mem_append_right _ (List.mem_append_right _ (List.mem_of_getElem? (i := 7) rfl)))))))) (sub_cons (List.mem_cons_of_mem _ (List.mem_append_left _ (List.mem_append_right _ (List.mem_append_right _ (List.mem_append_right _ (List.mem_append_right _ (List.mem_append_right _ (List.mem_of_getElem? (i := 8) rfl)))))))) (sub_cons (List.mem_cons_of_mem _ (List.mem_append_left _ (List.mem_append_right _ (List.mem_append_right _ (List.mem_append_right _ (List.mem_append_right _ (List.mem_append_right _ (List.mem_of_getElem? (i := 9) rfl)))))))) (sub_cons (List.mem_cons_of_mem _ (List.mem_append_left _ (List.mem_append_right _ (List.mem_append_right _ (List.mem_append_right _ (List.mem_append_right _ (List.mem_append_right _ (List.mem_of_getElem? (i := 10) rfl)))))))) (sub_cons (List.mem_cons_of_mem _ (List.mem_append_left _ (List.mem_append_right _ (List.mem_append_right _ (List.mem_append_right _ (List.mem_append_right _ (List.mem_append_right _ (List.mem_of_getElem? (i := 11) rfl)))))))) sub_nil)))))))))))))))))))))))) (fun w h9 => (List.mem_cons_of_mem _ (List.mem_append_right _ h9))))) gw_X6_advance
set_option maxRecDepth 20000 in
theorem gX6_takeNumber_X6_advance : GoodIn wsX6_takeNumber (wsV RX6 50 RX6 yX6_advance wsX6_advance) := goodIn_app (goodIn_sub (sub_cons (List.mem_cons_of_mem _ (List.mem_append_left _ (List.mem_append_left _ (List.mem_of_getElem? (i := 16) rfl)))) (sub_cons (List.mem_cons_of_mem _ (List.mem_append_left _ (List.mem_append_left _ (List.mem_of_getElem? (i := 17) rfl)))) (sub_cons (List.mem_cons_of_mem _ (List.mem_append_left _ (List.mem_append_left _ (List.mem_of_getElem? (i := 18) rfl)))) (sub_cons (List.mem_cons_of_mem _ (List.mem_append_left _ (List.mem_append_left _ (List.mem_of_getElem? (i := 4) rfl)))) sub_nil)))) (by decide +kernel)) ggX6_takeNumber_X6_advance
set_option maxHeartbeats 4000000 in
set_option maxRecDepth 100000 in
theorem sX6_takeNumber (l : Launch) (D : va_G) (k : Nat → ClassId) (a0 sa sv : Nat) (f : Nat → Int32) (sz : Nat) (ta : Nat) (lo : Int32) (hi : Int32) (ta_signs : Nat) (ta_words : Nat) (ta_length : Nat) (ta_next : Nat) (ta_place : Int32) (ta_kind : Int32) (ta_value : Int32) (ta_letters : Int64) (ta_fault : Int32) (ta_signsF : Nat → Int32) (ta_wordsF : Nat → Int64) (h_ta_length : ta_length ≤ 1000) (h_ta_next : ta_next ≤ 1000) : Met l yX6_takeNumber wsX6_takeNumber ({ frames := 5, cells := 0, slots := 0, locals := 350 }) (va_Pc [.ref ta, .int lo, .int hi] (kz_PreY D k [(ta, kO 6 [.ref ta_signs, .ref ta_words, .int (nI ta_length), .int (nI ta_next), .int ta_place, .int ta_kind, .int ta_value, .long ta_letters, .int ta_fault]), (ta_signs, kB k 1000 ta_signsF), (ta_words, kJ k 23 ta_wordsF)] a0 sa sv f sz)) (va_Qi (fun (rr : Int32) (uu : Nat × Int32 × Int32 × Int32 × Int64 × Int32) => (uu.1 ≤ 1000) ∧ ((uu.1, uu.2.1, uu.2.2.1, uu.2.2.2.1, uu.2.2.2.2.1, uu.2.2.2.2.2, rr) = (fX6_takeNumber lo hi ta_length ta_next ta_place ta_kind ta_value ta_letters ta_fault ta_signsF ta_wordsF f))) (fun uu zt => kz_B D (va_A [(ta, kO 6 [.ref ta_signs, .ref ta_words, .int (nI ta_length), .int (nI ta_next), .int ta_place, .int ta_kind, .int ta_value, .long ta_letters, .int ta_fault]), (ta_signs, kB k 1000 ta_signsF), (ta_words, kJ k 23 ta_wordsF)] sz) [(ta, kO 6 [.ref ta_signs, .ref ta_words, .int (nI ta_length), .int (nI uu.1), .int uu.2.1, .int uu.2.2.1, .int uu.2.2.2.1, .long uu.2.2.2.2.1, .int uu.2.2.2.2.2]), (ta_signs, kB k 1000 ta_signsF), (ta_words, kJ k 23 ta_wordsF)] zt) (va_A [(ta, kO 6 [.ref ta_signs, .ref ta_words, .int (nI ta_length), .int (nI ta_next), .int ta_place, .int ta_kind, .int ta_value, .long ta_letters, .int ta_fault]), (ta_signs, kB k 1000 ta_signsF), (ta_words, kJ k 23 ta_wordsF)] sz)) 0 0 (va_A [(ta, kO 6 [.ref ta_signs, .ref ta_words, .int (nI ta_length), .int (nI ta_next), .int ta_place, .int ta_kind, .int ta_value, .long ta_letters, .int ta_fault]), (ta_signs, kB k 1000 ta_signsF), (ta_words, kJ k 23 ta_wordsF)] sz) := by
  refine Met.ofW (cc := cX6_takeNumber) (maxL := 4) (ret := (some .int)) (by decide) rfl ?_
  intro p e s m args below meth c s₁ B hml hv
  obtain ⟨hav, ⟨hsz, hP, hK, hD0, hE⟩, ha0, hDa, hX⟩ := hv
  have hx := B.exec
  have hb := B.bytes
  have hr := B.returns
  have hts := atoms_spec (ws := wsX6_takeNumber) B.pre
  have hown : s.vm.findClass RX6 = some m.cls := findClass_of_methodNamed B.named
  have hlocks := B.notSynchronized
  have hi6 : ∀ w ∈ u_ws RX6 TX6 9, w ∈ wsX6_takeNumber := fun w h9 => List.mem_cons_of_mem _ (List.mem_append_right _ h9)
  have lf56 := hts (.fieldLink RX6 56 "LastCook$Tape" "value" "I") (List.mem_cons_of_mem _ (List.mem_append_left _ (List.mem_append_left _ (List.mem_of_getElem? (i := 0) rfl))))
  subst hsz
  have hD := hD0.self (sz := s.heap.size)
  generalize hAe : va_A [(ta, kO 6 [.ref ta_signs, .ref ta_words, .int (nI ta_length), .int (nI ta_next), .int ta_place, .int ta_kind, .int ta_value, .long ta_letters, .int ta_fault]), (ta_signs, kB k 1000 ta_signsF), (ta_words, kJ k 23 ta_wordsF)] s.heap.size = A at hD ⊢
  have hA : ∀ q : Nat, s.heap.size ≤ q → A q := fun q h => by rw [← hAe]; exact Or.inr h
  have hAX : ∀ q, A q → a0 ≤ q := fun q h => by rw [← hAe] at h; exact h.elim (fun ⟨k9, e9, h9⟩ => hDa.2 k9 _ h9) (fun e => Nat.le_trans ha0 e)
  obtain ⟨tx71, hR71⟩ := hX.1
  have hS : va_S A s.heap s.heap [] := va_S.rf
  have hl := lv_entry ([.ref ta, .int lo, .int hi]) (n := 4) (Nat.le_of_ble_eq_true rfl)
  rw [show entryFrame m args 4 = entryFrame m ([.ref ta, .int lo, .int hi] : List Value).toArray 4 by rw [hav], lg_entry_eq]
  generalize (lg_sl ([.ref ta, .int lo, .int hi]) ++ List.replicate (4 - (lg_sl ([.ref ta, .int lo, .int hi])).length) Slot.unset).toArray = ls at hl ⊢
  have hl : lv_has ls 4 [(0, .ref ta), (1, .int lo), (2, .int hi)] := hl
  obtain ⟨R, hR⟩ : ∃ R, R = (headSpec wsX6_takeNumber ({ frames := 5, cells := 0, slots := 0, locals := 350 } : Room)).room := ⟨_, rfl⟩
  rw [← hR]
  generalize hQ : MQ below _ args s 0 0 A = Q
  replace hQ := hQ.symm
  obtain ⟨H, hH⟩ : ∃ H, H = s.heap := ⟨_, rfl⟩
  rw [← hH] at hP ⊢
  have hS : va_S A s.heap H [] := by rw [hH]; exact hS
  obtain ⟨E0, hE0⟩ : ∃ E0 : Nat × Int32 × Int32 × Int32 × Int64 × Int32 × Int32, E0 = (fX6_takeNumber lo hi ta_length ta_next ta_place ta_kind ta_value ta_letters ta_fault ta_signsF ta_wordsF f) := ⟨_, rfl⟩
  have hZ : (fX6_takeNumber lo hi ta_length ta_next ta_place ta_kind ta_value ta_letters ta_fault ta_signsF ta_wordsF f) = E0 := hE0.symm
  refine lv_aload_n hx hb dX6_takeNumber_0 rfl (lv_at hl 0 rfl) ?_
  refine lv_iload_n hx hb dX6_takeNumber_1 rfl (lv_at hl 1 rfl) ?_
  refine lv_iload_n hx hb dX6_takeNumber_2 rfl (lv_at hl 2 rfl) ?_
  refine kz_Vi (As := [.int lo, .int hi]) (rest := []) (wc := [(ta, kO 6 [.ref ta_signs, .ref ta_words, .int (nI ta_length), .int (nI ta_next), .int ta_place, .int ta_kind, .int ta_value, .long ta_letters, .int ta_fault])]) (wr := [(ta_signs, kB k 1000 ta_signsF), (ta_words, kJ k 23 ta_wordsF)]) ⟨hx, hb, hml, hown, hts⟩ hK hE hP hD hS hA (sX6_checkNumber l D k H.size ta lo hi ta_signs ta_words ta_length ta_next ta_place ta_kind ta_value ta_letters ta_fault (by first | omega | assumption | decide) (by first | omega | assumption | decide)) (cwV 2 hts gX6_takeNumber_X6_checkNumber rfl rfl rfl (by decide +kernel) (by rw [hR]; exact ⟨Nat.le_of_ble_eq_true rfl, Nat.le_of_ble_eq_true rfl⟩)) [0] [1, 2] rfl rfl (by decide +kernel) (by decide +kernel) (by decide +kernel) 0 rfl rfl rfl hl.1 rfl (Nat.le_of_ble_eq_true rfl) dX6_takeNumber_3 (by rw [hR]; exact ⟨Nat.le_of_ble_eq_true rfl, Nat.le_of_ble_eq_true rfl⟩) (fun r1 u1 H locs hw1 hP hD hS => ?_)
  exact by
   obtain ⟨u_ta_81, ub1⟩ := u1
   try dsimp only at hw1
   obtain ⟨rfl, hw1⟩ := hw1
   have hP : va_P D vwCl [(ta_signs, kB k 1000 ta_signsF), (ta_words, kJ k 23 ta_wordsF), (ta, kO 6 [.ref ta_signs, .ref ta_words, .int (nI ta_length), .int (nI ta_next), .int ta_place, .int ta_kind, .int ta_value, .long ta_letters, .int u_ta_81])] H := hP
   have hD : va_D A [(ta_signs, kB k 1000 ta_signsF), (ta_words, kJ k 23 ta_wordsF), (ta, kO 6 [.ref ta_signs, .ref ta_words, .int (nI ta_length), .int (nI ta_next), .int ta_place, .int ta_kind, .int ta_value, .long ta_letters, .int u_ta_81])] := hD
   have hw1_0 := hw1
   have hZ := bn2_e hw1_0 hZ
   refine lv_if_ne (tgt := 11) hx hb dX6_takeNumber_6 (by decide) (fun c_2 => ?_) (fun c_2 => ?_)
   · exact by
      have b_2 : ub1 = true := bB_1 c_2
      have hZ := (if_pos b_2).symm.trans hZ
      refine lv_aload_n hx hb dX6_takeNumber_11 rfl (lv_at hl 0 rfl) ?_
      refine va_get (D := D) (ci := 6) (v := .int ta_value) (C := RX6) (T := TX6) (N := 9) hx hb hts hi6 hown hK hP 2 rfl rfl 6 (by decide) lf56 (fun _ h9 => h9) rfl dX6_takeNumber_12 ?_
      refine lv_istore_n (lv' := [(3, .int ta_value), (0, .ref ta), (1, .int lo), (2, .int hi)]) hx hb dX6_takeNumber_15 rfl hl (by decide) rfl (fun ls hl => ?_)
      exact by
       refine lv_aload_n hx hb dX6_takeNumber_16 rfl (lv_at hl 1 rfl) ?_
       refine kz_VvY (As := []) (rest := []) (wc := [(ta, kO 6 [.ref ta_signs, .ref ta_words, .int (nI ta_length), .int (nI ta_next), .int ta_place, .int ta_kind, .int ta_value, .long ta_letters, .int u_ta_81]), (ta_signs, kB k 1000 ta_signsF), (ta_words, kJ k 23 ta_wordsF)]) (wr := []) ⟨hx, hb, hml, hown, hts⟩ hX hAX ha0 hK hE hP hD hS hA (sX6_advance l D k a0 sa sv f H.size ta ta_signs ta_words ta_length ta_next ta_place ta_kind ta_value ta_letters u_ta_81 ta_signsF ta_wordsF (by first | omega | assumption | decide) (by first | omega | assumption | decide)) (cwV 0 hts gX6_takeNumber_X6_advance rfl rfl rfl (by decide +kernel) (by rw [hR]; exact ⟨Nat.le_of_ble_eq_true rfl, Nat.le_of_ble_eq_true rfl⟩)) [2, 0, 1] [] rfl rfl (by decide +kernel) (by decide +kernel) (by decide +kernel) 0 rfl rfl rfl hl.1 rfl (Nat.le_of_ble_eq_true rfl) dX6_takeNumber_17 (by rw [hR]; exact ⟨Nat.le_of_ble_eq_true rfl, Nat.le_of_ble_eq_true rfl⟩) (fun u3 H locs hw3 hP hD hS => ?_)
       exact by
        obtain ⟨u_ta_33, u_ta_43, u_ta_53, u_ta_63, u_ta_73⟩ := u3
        try dsimp only at hw3
        have hP : va_P D vwCl [(ta, kO 6 [.ref ta_signs, .ref ta_words, .int (nI ta_length), .int (nI u_ta_33), .int u_ta_43, .int u_ta_53, .int u_ta_63, .long u_ta_73, .int u_ta_81]), (ta_signs, kB k 1000 ta_signsF), (ta_words, kJ k 23 ta_wordsF)] H := hP
        have hD : va_D A [(ta, kO 6 [.ref ta_signs, .ref ta_words, .int (nI ta_length), .int (nI u_ta_33), .int u_ta_43, .int u_ta_53, .int u_ta_63, .long u_ta_73, .int u_ta_81]), (ta_signs, kB k 1000 ta_signsF), (ta_words, kJ k 23 ta_wordsF)] := hD
        obtain ⟨hw3_0, hw3_1⟩ := hw3
        have hZ := bn5_e hw3_1 hZ
        refine lv_iload_n hx hb dX6_takeNumber_20 rfl (lv_at hl 0 rfl) ?_
        rw [hQ]
        have hP9 := hP.sub (ws' := [(ta, kO 6 [.ref ta_signs, .ref ta_words, .int (nI ta_length), .int (nI u_ta_33), .int u_ta_43, .int u_ta_53, .int u_ta_63, .long u_ta_73, .int u_ta_81]), (ta_signs, kB k 1000 ta_signsF), (ta_words, kJ k 23 ta_wordsF)]) [0, 1, 2] rfl
        have hD9 := hD.sub (ws' := [(ta, kO 6 [.ref ta_signs, .ref ta_words, .int (nI ta_length), .int (nI u_ta_33), .int u_ta_43, .int u_ta_53, .int u_ta_63, .long u_ta_73, .int u_ta_81]), (ta_signs, kB k 1000 ta_signsF), (ta_words, kJ k 23 ta_wordsF)]) [0, 1, 2] (by decide +kernel) rfl
        exact W.iret (v := ta_value) hx hb hr (fun zt ht hW => ⟨⟨ta_value, ⟨u_ta_33, u_ta_43, u_ta_53, u_ta_63, u_ta_73, u_ta_81⟩, rfl, ⟨(by first | omega | (dsimp only; omega) | assumption), (hZ.trans hE0)⟩, by rw [ht]; exact hP9, hD9⟩, hS.F ht⟩) hS.2.2 dX6_takeNumber_21
   · exact by
      have b_2 : ub1 = false := bB_0 c_2
      have hZ := (if_neg (bF b_2)).symm.trans hZ
      refine lv_iconst (v := (-1)) hx hb dX6_takeNumber_9 (by decide) ?_
      rw [hQ]
      have hP9 := hP.sub (ws' := [(ta, kO 6 [.ref ta_signs, .ref ta_words, .int (nI ta_length), .int (nI ta_next), .int ta_place, .int ta_kind, .int ta_value, .long ta_letters, .int u_ta_81]), (ta_signs, kB k 1000 ta_signsF), (ta_words, kJ k 23 ta_wordsF)]) [2, 0, 1] rfl
      have hD9 := hD.sub (ws' := [(ta, kO 6 [.ref ta_signs, .ref ta_words, .int (nI ta_length), .int (nI ta_next), .int ta_place, .int ta_kind, .int ta_value, .long ta_letters, .int u_ta_81]), (ta_signs, kB k 1000 ta_signsF), (ta_words, kJ k 23 ta_wordsF)]) [2, 0, 1] (by decide +kernel) rfl
      exact W.iret (v := (-1)) hx hb hr (fun zt ht hW => ⟨⟨(-1), ⟨ta_next, ta_place, ta_kind, ta_value, ta_letters, u_ta_81⟩, rfl, ⟨(by first | omega | (dsimp only; omega) | assumption), (hZ.trans hE0)⟩, by rw [ht]; exact hP9, hD9⟩, hS.F ht⟩) hS.2.2 dX6_takeNumber_10
