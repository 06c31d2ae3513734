set_option maxHeartbeats 4000000 in
set_option maxRecDepth 100000 in
theorem sX0_readPart_3 (l : Launch) (D : va_G) (k : Nat → ClassId) (a0 sa sv : Nat) (f : Nat → Int32) (sz : Nat) (w : Nat) (ta : Nat) (w_code : Nat) (w_stack : Nat) (w_facts : Nat) (w_length : Nat) (w_top : Nat) (w_codeF : Nat → Int32) (ta_signs : Nat) (ta_words : Nat) (ta_length : Nat) (ta_next : Nat) (ta_place : Int32) (ta_kind : Int32) (ta_value : Int32) (ta_letters : Int64) (ta_fault : Int32) (ta_signsF : Nat → Int32) (ta_wordsF : Nat → Int64) (h_w_length : w_length ≤ 1000) (h_w_top : w_top ≤ 24) (h_ta_length : ta_length ≤ 1000) (h_ta_next : ta_next ≤ 1000) : Met l yX0_readPart wsX0_readPart ({ frames := 15, cells := 0, slots := 0, locals := 1050 }) (va_Pc [.ref w, .ref ta, .int 3] (kz_PreY D k [(w, kO 0 [.ref w_code, .ref w_stack, .ref w_facts, .int (nI w_length), .int (nI w_top)]), (w_code, kI k 1000 w_codeF), (ta, kO 6 [.ref ta_signs, .ref ta_words, .int (nI ta_length), .int (nI ta_next), .int ta_place, .int ta_kind, .int ta_value, .long ta_letters, .int ta_fault]), (ta_signs, kB k 1000 ta_signsF), (ta_words, kJ k 23 ta_wordsF)] a0 sa sv f sz)) (va_Qi (fun (rr : Int32) (uu : Nat × (Nat → Int32) × Nat × Int32 × Int32 × Int32 × Int64 × Int32 × Bool) => rr = bB uu.2.2.2.2.2.2.2.2 ∧ (uu.1 ≤ 1000) ∧ (uu.2.2.1 ≤ 1000) ∧ ((uu.1, uu.2.1, uu.2.2.1, uu.2.2.2.1, uu.2.2.2.2.1, uu.2.2.2.2.2.1, uu.2.2.2.2.2.2.1, uu.2.2.2.2.2.2.2.1, uu.2.2.2.2.2.2.2.2) = (fX0_readPart_3 w_length w_codeF ta_length ta_next ta_place ta_kind ta_value ta_letters ta_fault ta_signsF ta_wordsF f))) (fun uu zt => kz_B D (va_A [(w, kO 0 [.ref w_code, .ref w_stack, .ref w_facts, .int (nI w_length), .int (nI w_top)]), (w_code, kI k 1000 w_codeF), (ta, kO 6 [.ref ta_signs, .ref ta_words, .int (nI ta_length), .int (nI ta_next), .int ta_place, .int ta_kind, .int ta_value, .long ta_letters, .int ta_fault]), (ta_signs, kB k 1000 ta_signsF), (ta_words, kJ k 23 ta_wordsF)] sz) [(w, kO 0 [.ref w_code, .ref w_stack, .ref w_facts, .int (nI uu.1), .int (nI w_top)]), (w_code, kI k 1000 uu.2.1), (ta, kO 6 [.ref ta_signs, .ref ta_words, .int (nI ta_length), .int (nI uu.2.2.1), .int uu.2.2.2.1, .int uu.2.2.2.2.1, .int uu.2.2.2.2.2.1, .long uu.2.2.2.2.2.2.1, .int uu.2.2.2.2.2.2.2.1]), (ta_signs, kB k 1000 ta_signsF), (ta_words, kJ k 23 ta_wordsF)] zt) (va_A [(w, kO 0 [.ref w_code, .ref w_stack, .ref w_facts, .int (nI w_length), .int (nI w_top)]), (w_code, kI k 1000 w_codeF), (ta, kO 6 [.ref ta_signs, .ref ta_words, .int (nI ta_length), .int (nI ta_next), .int ta_place, .int ta_kind, .int ta_value, .long ta_letters, .int ta_fault]), (ta_signs, kB k 1000 ta_signsF), (ta_words, kJ k 23 ta_wordsF)] sz)) 0 0 (va_A [(w, kO 0 [.ref w_code, .ref w_stack, .ref w_facts, .int (nI w_length), .int (nI w_top)]), (w_code, kI k 1000 w_codeF), (ta, kO 6 [.ref ta_signs, .ref ta_words, .int (nI ta_length), .int (nI ta_next), .int ta_place, .int ta_kind, .int ta_value, .long ta_letters, .int ta_fault]), (ta_signs, kB k 1000 ta_signsF), (ta_words, kJ k 23 ta_wordsF)] sz) := by
  refine Met.ofW (cc := cX0_readPart) (maxL := 6) (ret := (some .boolean)) (by decide) rfl ?_
  intro p e s m args below meth c s₁ B hml hv
  obtain ⟨hav, ⟨hsz, hP, hK, hD0, hE⟩, ha0, hDa, hX⟩ := hv
  have hx := B.exec
  have hb := B.bytes
  have hr := B.returns
  have hts := atoms_spec (ws := wsX0_readPart) B.pre
  have hown : s.vm.findClass RX0 = some m.cls := findClass_of_methodNamed B.named
  have hlocks := B.notSynchronized
  have hi6 : ∀ w ∈ u_ws RX6 TX6 9, w ∈ wsX0_readPart := fun w h9 => List.mem_cons_of_mem _ (List.mem_append_left _ (List.mem_append_right _ h9))
  have lf67 := hts (.fieldLink RX0 67 "LastCook$Tape" "value" "I") (List.mem_cons_of_mem _ (List.mem_append_left _ (List.mem_append_left _ (List.mem_append_left _ (List.mem_of_getElem? (i := 0) rfl)))))
  subst hsz
  have hD := hD0.self (sz := s.heap.size)
  generalize hAe : va_A [(w, kO 0 [.ref w_code, .ref w_stack, .ref w_facts, .int (nI w_length), .int (nI w_top)]), (w_code, kI k 1000 w_codeF), (ta, kO 6 [.ref ta_signs, .ref ta_words, .int (nI ta_length), .int (nI ta_next), .int ta_place, .int ta_kind, .int ta_value, .long ta_letters, .int ta_fault]), (ta_signs, kB k 1000 ta_signsF), (ta_words, kJ k 23 ta_wordsF)] s.heap.size = A at hD ⊢
  have hA : ∀ q : Nat, s.heap.size ≤ q → A q := fun q h => by rw [← hAe]; exact Or.inr h
  have hAX : ∀ q, A q → a0 ≤ q := fun q h => by rw [← hAe] at h; exact h.elim (fun ⟨k9, e9, h9⟩ => hDa.2 k9 _ h9) (fun e => Nat.le_trans ha0 e)
  obtain ⟨tx71, hR71⟩ := hX.1
  have hS : va_S A s.heap s.heap [] := va_S.rf
  have hl := lv_entry ([.ref w, .ref ta, .int 3]) (n := 6) (Nat.le_of_ble_eq_true rfl)
  rw [show entryFrame m args 6 = entryFrame m ([.ref w, .ref ta, .int 3] : List Value).toArray 6 by rw [hav], lg_entry_eq]
  generalize (lg_sl ([.ref w, .ref ta, .int 3]) ++ List.replicate (6 - (lg_sl ([.ref w, .ref ta, .int 3])).length) Slot.unset).toArray = ls at hl ⊢
  have hl : lv_has ls 6 [(0, .ref w), (1, .ref ta), (2, .int 3)] := hl
  obtain ⟨R, hR⟩ : ∃ R, R = (headSpec wsX0_readPart ({ frames := 15, cells := 0, slots := 0, locals := 1050 } : Room)).room := ⟨_, rfl⟩
  rw [← hR]
  generalize hQ : MQ below _ args s 0 0 A = Q
  replace hQ := hQ.symm
  obtain ⟨H, hH⟩ : ∃ H, H = s.heap := ⟨_, rfl⟩
  rw [← hH] at hP ⊢
  have hS : va_S A s.heap H [] := by rw [hH]; exact hS
  obtain ⟨E0, hE0⟩ : ∃ E0 : Nat × (Nat → Int32) × Nat × Int32 × Int32 × Int32 × Int64 × Int32 × Bool, E0 = (fX0_readPart_3 w_length w_codeF ta_length ta_next ta_place ta_kind ta_value ta_letters ta_fault ta_signsF ta_wordsF f) := ⟨_, rfl⟩
  have hZ : (fX0_readPart_3 w_length w_codeF ta_length ta_next ta_place ta_kind ta_value ta_letters ta_fault ta_signsF ta_wordsF f) = E0 := hE0.symm
  refine lv_aload_n hx hb dX0_readPart_0 rfl (lv_at hl 1 rfl) ?_
  refine kz_Vi (As := []) (rest := []) (wc := [(ta, kO 6 [.ref ta_signs, .ref ta_words, .int (nI ta_length), .int (nI ta_next), .int ta_place, .int ta_kind, .int ta_value, .long ta_letters, .int ta_fault])]) (wr := [(w, kO 0 [.ref w_code, .ref w_stack, .ref w_facts, .int (nI w_length), .int (nI w_top)]), (w_code, kI k 1000 w_codeF), (ta_signs, kB k 1000 ta_signsF), (ta_words, kJ k 23 ta_wordsF)]) ⟨hx, hb, hml, hown, hts⟩ hK hE hP hD hS hA (sX6_isNumber l D k H.size ta ta_signs ta_words ta_length ta_next ta_place ta_kind ta_value ta_letters ta_fault (by first | omega | assumption | decide) (by first | omega | assumption | decide)) (cwV 0 hts gX0_readPart_X6_isNumber rfl rfl rfl (by decide +kernel) (by rw [hR]; exact ⟨Nat.le_of_ble_eq_true rfl, Nat.le_of_ble_eq_true rfl⟩)) [2] [0, 1, 3, 4] rfl rfl (by decide +kernel) (by decide +kernel) (by decide +kernel) 0 rfl rfl rfl hl.1 rfl (Nat.le_of_ble_eq_true rfl) dX0_readPart_1 (by rw [hR]; exact ⟨Nat.le_of_ble_eq_true rfl, Nat.le_of_ble_eq_true rfl⟩) (fun r1 u1 H locs hw1 hP hD hS => ?_)
  exact by
   try dsimp only at hw1
   obtain ⟨rfl, hw1⟩ := hw1
   have hP : va_P D vwCl [(w, kO 0 [.ref w_code, .ref w_stack, .ref w_facts, .int (nI w_length), .int (nI w_top)]), (w_code, kI k 1000 w_codeF), (ta_signs, kB k 1000 ta_signsF), (ta_words, kJ k 23 ta_wordsF), (ta, kO 6 [.ref ta_signs, .ref ta_words, .int (nI ta_length), .int (nI ta_next), .int ta_place, .int ta_kind, .int ta_value, .long ta_letters, .int ta_fault])] H := hP
   have hD : va_D A [(w, kO 0 [.ref w_code, .ref w_stack, .ref w_facts, .int (nI w_length), .int (nI w_top)]), (w_code, kI k 1000 w_codeF), (ta_signs, kB k 1000 ta_signsF), (ta_words, kJ k 23 ta_wordsF), (ta, kO 6 [.ref ta_signs, .ref ta_words, .int (nI ta_length), .int (nI ta_next), .int ta_place, .int ta_kind, .int ta_value, .long ta_letters, .int ta_fault])] := hD
   have hw1_0 := hw1
   have hZ := bn1_e hw1_0 hZ
   refine lv_istore_n (lv' := [(3, .int (bB u1)), (0, .ref w), (1, .ref ta), (2, .int 3)]) hx hb dX0_readPart_4 rfl hl (by decide) rfl (fun ls hl => ?_)
   exact by
    refine lv_aload_n hx hb dX0_readPart_5 rfl (lv_at hl 2 rfl) ?_
    refine kz_Vi (As := []) (rest := []) (wc := [(ta, kO 6 [.ref ta_signs, .ref ta_words, .int (nI ta_length), .int (nI ta_next), .int ta_place, .int ta_kind, .int ta_value, .long ta_letters, .int ta_fault])]) (wr := [(w, kO 0 [.ref w_code, .ref w_stack, .ref w_facts, .int (nI w_length), .int (nI w_top)]), (w_code, kI k 1000 w_codeF), (ta_signs, kB k 1000 ta_signsF), (ta_words, kJ k 23 ta_wordsF)]) ⟨hx, hb, hml, hown, hts⟩ hK hE hP hD hS hA (sX6_wordHere l D k H.size ta ta_signs ta_words ta_length ta_next ta_place ta_kind ta_value ta_letters ta_fault (by first | omega | assumption | decide) (by first | omega | assumption | decide)) (cwV 0 hts gX0_readPart_X6_wordHere rfl rfl rfl (by decide +kernel) (by rw [hR]; exact ⟨Nat.le_of_ble_eq_true rfl, Nat.le_of_ble_eq_true rfl⟩)) [4] [0, 1, 2, 3] rfl rfl (by decide +kernel) (by decide +kernel) (by decide +kernel) 0 rfl rfl rfl hl.1 rfl (Nat.le_of_ble_eq_true rfl) dX0_readPart_6 (by rw [hR]; exact ⟨Nat.le_of_ble_eq_true rfl, Nat.le_of_ble_eq_true rfl⟩) (fun r2 u2 H locs hw2 hP hD hS => ?_)
    exact by
     try dsimp only at hw2
     have hP : va_P D vwCl [(w, kO 0 [.ref w_code, .ref w_stack, .ref w_facts, .int (nI w_length), .int (nI w_top)]), (w_code, kI k 1000 w_codeF), (ta_signs, kB k 1000 ta_signsF), (ta_words, kJ k 23 ta_wordsF), (ta, kO 6 [.ref ta_signs, .ref ta_words, .int (nI ta_length), .int (nI ta_next), .int ta_place, .int ta_kind, .int ta_value, .long ta_letters, .int ta_fault])] H := hP
     have hD : va_D A [(w, kO 0 [.ref w_code, .ref w_stack, .ref w_facts, .int (nI w_length), .int (nI w_top)]), (w_code, kI k 1000 w_codeF), (ta_signs, kB k 1000 ta_signsF), (ta_words, kJ k 23 ta_wordsF), (ta, kO 6 [.ref ta_signs, .ref ta_words, .int (nI ta_length), .int (nI ta_next), .int ta_place, .int ta_kind, .int ta_value, .long ta_letters, .int ta_fault])] := hD
     have hw2_0 := hw2
     have hZ := bn1_e hw2_0 hZ
     refine lv_bipush (v := 19) hx hb dX0_readPart_9 (by decide) ?_
     have hj19_3 : ∀ (s0_19 : Bool) (H : Heap) (locs : List Loc) (ls : Array Slot), ((fX0_readPart_3_J19a w_length w_codeF ta_length ta_next ta_place ta_kind ta_value ta_letters ta_fault ta_signsF ta_wordsF f u1) s0_19 = E0) → va_P D vwCl [(w, kO 0 [.ref w_code, .ref w_stack, .ref w_facts, .int (nI w_length), .int (nI w_top)]), (w_code, kI k 1000 w_codeF), (ta_signs, kB k 1000 ta_signsF), (ta_words, kJ k 23 ta_wordsF), (ta, kO 6 [.ref ta_signs, .ref ta_words, .int (nI ta_length), .int (nI ta_next), .int ta_place, .int ta_kind, .int ta_value, .long ta_letters, .int ta_fault])] H → va_D A [(w, kO 0 [.ref w_code, .ref w_stack, .ref w_facts, .int (nI w_length), .int (nI w_top)]), (w_code, kI k 1000 w_codeF), (ta_signs, kB k 1000 ta_signsF), (ta_words, kJ k 23 ta_wordsF), (ta, kO 6 [.ref ta_signs, .ref ta_words, .int (nI ta_length), .int (nI ta_next), .int ta_place, .int ta_kind, .int ta_value, .long ta_letters, .int ta_fault])] → va_S A s.heap H locs → lv_has ls 6 [(0, .ref w), (1, .ref ta), (2, .int 3), (3, .int (bB u1))] → W p l e R s m args below meth c H locs 0 0 Q (F0 m 19 ls [.int (bB s0_19)]) := by
       intro s0_19 H locs ls hZ hP hD hS hl
       refine lv_istore (lv' := [(4, .int (bB s0_19)), (0, .ref w), (1, .ref ta), (2, .int 3), (3, .int (bB u1))]) hx hb dX0_readPart_19 hl (by decide) rfl (fun ls hl => ?_)
       exact by
        refine lv_aload_n hx hb dX0_readPart_21 rfl (lv_at hl 2 rfl) ?_
        refine lv_bipush (v := 16) hx hb dX0_readPart_22 (by decide) ?_
        refine kz_Vi (As := [.int 16]) (rest := []) (wc := [(ta, kO 6 [.ref ta_signs, .ref ta_words, .int (nI ta_length), .int (nI ta_next), .int ta_place, .int ta_kind, .int ta_value, .long ta_letters, .int ta_fault])]) (wr := [(w, kO 0 [.ref w_code, .ref w_stack, .ref w_facts, .int (nI w_length), .int (nI w_top)]), (w_code, kI k 1000 w_codeF), (ta_signs, kB k 1000 ta_signsF), (ta_words, kJ k 23 ta_wordsF)]) ⟨hx, hb, hml, hown, hts⟩ hK hE hP hD hS hA (sX6_isWord l D k H.size ta 16 ta_signs ta_words ta_length ta_next ta_place ta_kind ta_value ta_letters ta_fault (by first | omega | assumption | decide) (by first | omega | assumption | decide)) (cwV 1 hts gX0_readPart_X6_isWord rfl rfl rfl (by decide +kernel) (by rw [hR]; exact ⟨Nat.le_of_ble_eq_true rfl, Nat.le_of_ble_eq_true rfl⟩)) [4] [0, 1, 2, 3] rfl rfl (by decide +kernel) (by decide +kernel) (by decide +kernel) 0 rfl rfl rfl hl.1 rfl (Nat.le_of_ble_eq_true rfl) dX0_readPart_24 (by rw [hR]; exact ⟨Nat.le_of_ble_eq_true rfl, Nat.le_of_ble_eq_true rfl⟩) (fun r4 u4 H locs hw4 hP hD hS => ?_)
        exact by
         try dsimp only at hw4
         obtain ⟨rfl, hw4⟩ := hw4
         have hP : va_P D vwCl [(w, kO 0 [.ref w_code, .ref w_stack, .ref w_facts, .int (nI w_length), .int (nI w_top)]), (w_code, kI k 1000 w_codeF), (ta_signs, kB k 1000 ta_signsF), (ta_words, kJ k 23 ta_wordsF), (ta, kO 6 [.ref ta_signs, .ref ta_words, .int (nI ta_length), .int (nI ta_next), .int ta_place, .int ta_kind, .int ta_value, .long ta_letters, .int ta_fault])] H := hP
         have hD : va_D A [(w, kO 0 [.ref w_code, .ref w_stack, .ref w_facts, .int (nI w_length), .int (nI w_top)]), (w_code, kI k 1000 w_codeF), (ta_signs, kB k 1000 ta_signsF), (ta_words, kJ k 23 ta_wordsF), (ta, kO 6 [.ref ta_signs, .ref ta_words, .int (nI ta_length), .int (nI ta_next), .int ta_place, .int ta_kind, .int ta_value, .long ta_letters, .int ta_fault])] := hD
         have hw4_0 := hw4
         have hZ := bn1_e hw4_0 hZ
         refine lv_istore (lv' := [(5, .int (bB u4)), (4, .int (bB s0_19)), (0, .ref w), (1, .ref ta), (2, .int 3), (3, .int (bB u1))]) hx hb dX0_readPart_27 hl (by decide) rfl (fun ls hl => ?_)
         exact by
          refine lv_iload_n hx hb dX0_readPart_29 rfl (lv_at hl 5 rfl) ?_
          have hj58_5 : ∀ (H : Heap) (locs : List Loc) (ls : Array Slot), ((fX0_readPart_3_J58a w_length w_codeF ta_length ta_next ta_value ta_letters ta_fault ta_signsF ta_wordsF f u1 s0_19 u4) = E0) → va_P D vwCl [(w, kO 0 [.ref w_code, .ref w_stack, .ref w_facts, .int (nI w_length), .int (nI w_top)]), (w_code, kI k 1000 w_codeF), (ta_signs, kB k 1000 ta_signsF), (ta_words, kJ k 23 ta_wordsF), (ta, kO 6 [.ref ta_signs, .ref ta_words, .int (nI ta_length), .int (nI ta_next), .int ta_place, .int ta_kind, .int ta_value, .long ta_letters, .int ta_fault])] H → va_D A [(w, kO 0 [.ref w_code, .ref w_stack, .ref w_facts, .int (nI w_length), .int (nI w_top)]), (w_code, kI k 1000 w_codeF), (ta_signs, kB k 1000 ta_signsF), (ta_words, kJ k 23 ta_wordsF), (ta, kO 6 [.ref ta_signs, .ref ta_words, .int (nI ta_length), .int (nI ta_next), .int ta_place, .int ta_kind, .int ta_value, .long ta_letters, .int ta_fault])] → va_S A s.heap H locs → lv_has ls 6 [(0, .ref w), (1, .ref ta), (2, .int 3), (3, .int (bB u1)), (4, .int (bB s0_19)), (5, .int (bB u4))] → W p l e R s m args below meth c H locs 0 0 Q (F0 m 58 ls []) := by
            intro H locs ls hZ hP hD hS hl
            refine lv_iload_n hx hb dX0_readPart_58 rfl (lv_at hl 2 rfl) ?_
            refine lv_iconst (v := 5) hx hb dX0_readPart_59 (by decide) ?_
            refine lv_icmp_lt (tgt := 69) hx hb dX0_readPart_60 (by decide) (fun c_7 => ?_) (fun c_7 => absurd (by decide) c_7)
            refine lv_iload_n hx hb dX0_readPart_69 rfl (lv_at hl 3 rfl) ?_
            have hj78_8 : ∀ (H : Heap) (locs : List Loc) (ls : Array Slot), ((fX0_readPart_3_J78a w_length w_codeF ta_length ta_next ta_value ta_letters ta_fault ta_signsF ta_wordsF f u1) = E0) → va_P D vwCl [(w, kO 0 [.ref w_code, .ref w_stack, .ref w_facts, .int (nI w_length), .int (nI w_top)]), (w_code, kI k 1000 w_codeF), (ta_signs, kB k 1000 ta_signsF), (ta_words, kJ k 23 ta_wordsF), (ta, kO 6 [.ref ta_signs, .ref ta_words, .int (nI ta_length), .int (nI ta_next), .int ta_place, .int ta_kind, .int ta_value, .long ta_letters, .int ta_fault])] H → va_D A [(w, kO 0 [.ref w_code, .ref w_stack, .ref w_facts, .int (nI w_length), .int (nI w_top)]), (w_code, kI k 1000 w_codeF), (ta_signs, kB k 1000 ta_signsF), (ta_words, kJ k 23 ta_wordsF), (ta, kO 6 [.ref ta_signs, .ref ta_words, .int (nI ta_length), .int (nI ta_next), .int ta_place, .int ta_kind, .int ta_value, .long ta_letters, .int ta_fault])] → va_S A s.heap H locs → lv_has ls 6 [(0, .ref w), (1, .ref ta), (2, .int 3), (3, .int (bB u1)), (4, .int (bB s0_19)), (5, .int (bB u4))] → W p l e R s m args below meth c H locs 0 0 Q (F0 m 78 ls []) := by
              intro H locs ls hZ hP hD hS hl
              refine lv_aload_n hx hb dX0_readPart_78 rfl (lv_at hl 0 rfl) ?_
              refine lv_iload_n hx hb dX0_readPart_79 rfl (lv_at hl 3 rfl) ?_
              have hj99_9 : ∀ (s1_99 : Int32) (H : Heap) (locs : List Loc) (ls : Array Slot), ((fX0_readPart_3_J99a w_length w_codeF ta_length ta_next ta_letters ta_fault ta_signsF ta_wordsF f) s1_99 = E0) → va_P D vwCl [(w, kO 0 [.ref w_code, .ref w_stack, .ref w_facts, .int (nI w_length), .int (nI w_top)]), (w_code, kI k 1000 w_codeF), (ta_signs, kB k 1000 ta_signsF), (ta_words, kJ k 23 ta_wordsF), (ta, kO 6 [.ref ta_signs, .ref ta_words, .int (nI ta_length), .int (nI ta_next), .int ta_place, .int ta_kind, .int ta_value, .long ta_letters, .int ta_fault])] H → va_D A [(w, kO 0 [.ref w_code, .ref w_stack, .ref w_facts, .int (nI w_length), .int (nI w_top)]), (w_code, kI k 1000 w_codeF), (ta_signs, kB k 1000 ta_signsF), (ta_words, kJ k 23 ta_wordsF), (ta, kO 6 [.ref ta_signs, .ref ta_words, .int (nI ta_length), .int (nI ta_next), .int ta_place, .int ta_kind, .int ta_value, .long ta_letters, .int ta_fault])] → va_S A s.heap H locs → lv_has ls 6 [(0, .ref w), (1, .ref ta), (2, .int 3), (3, .int (bB u1)), (4, .int (bB s0_19)), (5, .int (bB u4))] → W p l e R s m args below meth c H locs 0 0 Q (F0 m 99 ls [.int s1_99, .ref w]) := by
                intro s1_99 H locs ls hZ hP hD hS hl
                refine kz_Vv (As := [.int s1_99]) (rest := []) (wc := [(w, kO 0 [.ref w_code, .ref w_stack, .ref w_facts, .int (nI w_length), .int (nI w_top)]), (w_code, kI k 1000 w_codeF)]) (wr := [(ta_signs, kB k 1000 ta_signsF), (ta_words, kJ k 23 ta_wordsF), (ta, kO 6 [.ref ta_signs, .ref ta_words, .int (nI ta_length), .int (nI ta_next), .int ta_place, .int ta_kind, .int ta_value, .long ta_letters, .int ta_fault])]) ⟨hx, hb, hml, hown, hts⟩ hK hE hP hD hS hA (sX0_write l D k H.size w s1_99 w_code w_stack w_facts w_length w_top w_codeF (by first | omega | assumption | decide) (by first | omega | assumption | decide)) (cwV 1 hts gX0_readPart_X0_write rfl rfl rfl (by decide +kernel) (by rw [hR]; exact ⟨Nat.le_of_ble_eq_true rfl, Nat.le_of_ble_eq_true rfl⟩)) [0, 1] [2, 3, 4] rfl rfl (by decide +kernel) (by decide +kernel) (by decide +kernel) 0 rfl rfl rfl hl.1 rfl (Nat.le_of_ble_eq_true rfl) dX0_readPart_99 (by rw [hR]; exact ⟨Nat.le_of_ble_eq_true rfl, Nat.le_of_ble_eq_true rfl⟩) (fun u10 H locs hw10 hP hD hS => ?_)
                exact by
                 obtain ⟨u_w_310, u_w_code10⟩ := u10
                 try dsimp only at hw10
                 have hP : va_P D vwCl [(ta_signs, kB k 1000 ta_signsF), (ta_words, kJ k 23 ta_wordsF), (ta, kO 6 [.ref ta_signs, .ref ta_words, .int (nI ta_length), .int (nI ta_next), .int ta_place, .int ta_kind, .int ta_value, .long ta_letters, .int ta_fault]), (w, kO 0 [.ref w_code, .ref w_stack, .ref w_facts, .int (nI u_w_310), .int (nI w_top)]), (w_code, kI k 1000 u_w_code10)] H := hP
                 have hD : va_D A [(ta_signs, kB k 1000 ta_signsF), (ta_words, kJ k 23 ta_wordsF), (ta, kO 6 [.ref ta_signs, .ref ta_words, .int (nI ta_length), .int (nI ta_next), .int ta_place, .int ta_kind, .int ta_value, .long ta_letters, .int ta_fault]), (w, kO 0 [.ref w_code, .ref w_stack, .ref w_facts, .int (nI u_w_310), .int (nI w_top)]), (w_code, kI k 1000 u_w_code10)] := hD
                 obtain ⟨hw10_0, hw10_1⟩ := hw10
                 have hZ := bn2_e hw10_1 hZ
                 refine lv_aload_n hx hb dX0_readPart_102 rfl (lv_at hl 1 rfl) ?_
                 refine kz_VvY (As := []) (rest := []) (wc := [(ta, kO 6 [.ref ta_signs, .ref ta_words, .int (nI ta_length), .int (nI ta_next), .int ta_place, .int ta_kind, .int ta_value, .long ta_letters, .int ta_fault]), (ta_signs, kB k 1000 ta_signsF), (ta_words, kJ k 23 ta_wordsF)]) (wr := [(w, kO 0 [.ref w_code, .ref w_stack, .ref w_facts, .int (nI u_w_310), .int (nI w_top)]), (w_code, kI k 1000 u_w_code10)]) ⟨hx, hb, hml, hown, hts⟩ hX hAX ha0 hK hE hP hD hS hA (sX6_advance l D k a0 sa sv f H.size ta ta_signs ta_words ta_length ta_next ta_place ta_kind ta_value ta_letters ta_fault ta_signsF ta_wordsF (by first | omega | assumption | decide) (by first | omega | assumption | decide)) (cwV 0 hts gX0_readPart_X6_advance rfl rfl rfl (by decide +kernel) (by rw [hR]; exact ⟨Nat.le_of_ble_eq_true rfl, Nat.le_of_ble_eq_true rfl⟩)) [2, 0, 1] [3, 4] rfl rfl (by decide +kernel) (by decide +kernel) (by decide +kernel) 0 rfl rfl rfl hl.1 rfl (Nat.le_of_ble_eq_true rfl) dX0_readPart_103 (by rw [hR]; exact ⟨Nat.le_of_ble_eq_true rfl, Nat.le_of_ble_eq_true rfl⟩) (fun u11 H locs hw11 hP hD hS => ?_)
                 exact by
                  obtain ⟨u_ta_311, u_ta_411, u_ta_511, u_ta_611, u_ta_711⟩ := u11
                  try dsimp only at hw11
                  have hP : va_P D vwCl [(w, kO 0 [.ref w_code, .ref w_stack, .ref w_facts, .int (nI u_w_310), .int (nI w_top)]), (w_code, kI k 1000 u_w_code10), (ta, kO 6 [.ref ta_signs, .ref ta_words, .int (nI ta_length), .int (nI u_ta_311), .int u_ta_411, .int u_ta_511, .int u_ta_611, .long u_ta_711, .int ta_fault]), (ta_signs, kB k 1000 ta_signsF), (ta_words, kJ k 23 ta_wordsF)] H := hP
                  have hD : va_D A [(w, kO 0 [.ref w_code, .ref w_stack, .ref w_facts, .int (nI u_w_310), .int (nI w_top)]), (w_code, kI k 1000 u_w_code10), (ta, kO 6 [.ref ta_signs, .ref ta_words, .int (nI ta_length), .int (nI u_ta_311), .int u_ta_411, .int u_ta_511, .int u_ta_611, .long u_ta_711, .int ta_fault]), (ta_signs, kB k 1000 ta_signsF), (ta_words, kJ k 23 ta_wordsF)] := hD
                  obtain ⟨hw11_0, hw11_1⟩ := hw11
                  have hZ := bn5_e hw11_1 hZ
                  refine lv_iconst (v := 1) hx hb dX0_readPart_106 (by decide) ?_
                  rw [hQ]
                  have hP9 := hP.sub (ws' := [(w, kO 0 [.ref w_code, .ref w_stack, .ref w_facts, .int (nI u_w_310), .int (nI w_top)]), (w_code, kI k 1000 u_w_code10), (ta, kO 6 [.ref ta_signs, .ref ta_words, .int (nI ta_length), .int (nI u_ta_311), .int u_ta_411, .int u_ta_511, .int u_ta_611, .long u_ta_711, .int ta_fault]), (ta_signs, kB k 1000 ta_signsF), (ta_words, kJ k 23 ta_wordsF)]) [0, 1, 2, 3, 4] rfl
                  have hD9 := hD.sub (ws' := [(w, kO 0 [.ref w_code, .ref w_stack, .ref w_facts, .int (nI u_w_310), .int (nI w_top)]), (w_code, kI k 1000 u_w_code10), (ta, kO 6 [.ref ta_signs, .ref ta_words, .int (nI ta_length), .int (nI u_ta_311), .int u_ta_411, .int u_ta_511, .int u_ta_611, .long u_ta_711, .int ta_fault]), (ta_signs, kB k 1000 ta_signsF), (ta_words, kJ k 23 ta_wordsF)]) [0, 1, 2, 3, 4] (by decide +kernel) rfl
                  exact W.zret (v := 1) hx hb hr rfl (fun zt ht hW => ⟨⟨1, ⟨u_w_310, u_w_code10, u_ta_311, u_ta_411, u_ta_511, u_ta_611, u_ta_711, ta_fault, true⟩, rfl, ⟨rfl, (by first | omega | (dsimp only; omega) | assumption), (by first | omega | (dsimp only; omega) | assumption), (hZ.trans hE0)⟩, by rw [ht]; exact hP9, hD9⟩, hS.F ht⟩) hS.2.2 dX0_readPart_107
              refine lv_if_eq (tgt := 90) hx hb dX0_readPart_80 (by decide) (fun c_12 => ?_) (fun c_12 => ?_)
              · exact by
                 have b_12 : u1 = false := bB_0 c_12
                 have hZ := (if_neg (bF b_12)).symm.trans hZ
                 refine lv_iconst (v := (-1)) hx hb dX0_readPart_90 (by decide) ?_
                 refine lv_aload_n hx hb dX0_readPart_91 rfl (lv_at hl 1 rfl) ?_
                 refine va_get (D := D) (ci := 6) (v := .int ta_value) (C := RX6) (T := TX6) (N := 9) hx hb hts hi6 hown hK hP 4 rfl rfl 6 (by decide) lf67 (fun _ h9 => h9) rfl dX0_readPart_92 ?_
                 refine lv_bipush (v := 19) hx hb dX0_readPart_95 (by decide) ?_
                 refine lv_isub hx hb dX0_readPart_97 ?_
                 refine lv_isub hx hb dX0_readPart_98 ?_
                 exact hj99_9 ((-1) - (ta_value - 19)) _ _ _ hZ (hP.sub [0, 1, 2, 3, 4] rfl) (hD.sub [0, 1, 2, 3, 4] (by decide +kernel) rfl) hS (lv_sub hl [0, 1, 2, 3, 4, 5] rfl)
              · exact by
                 have b_12 : u1 = true := bB_1 c_12
                 have hZ := (if_pos b_12).symm.trans hZ
                 refine lv_aload_n hx hb dX0_readPart_83 rfl (lv_at hl 1 rfl) ?_
                 refine va_get (D := D) (ci := 6) (v := .int ta_value) (C := RX6) (T := TX6) (N := 9) hx hb hts hi6 hown hK hP 4 rfl rfl 6 (by decide) lf67 (fun _ h9 => h9) rfl dX0_readPart_84 ?_
                 refine lv_goto (tgt := 99) hx hb dX0_readPart_87 (by decide) ?_
                 exact hj99_9 ta_value _ _ _ hZ (hP.sub [0, 1, 2, 3, 4] rfl) (hD.sub [0, 1, 2, 3, 4] (by decide +kernel) rfl) hS (lv_sub hl [0, 1, 2, 3, 4, 5] rfl)
            refine lv_if_ne (tgt := 78) hx hb dX0_readPart_70 (by decide) (fun c_13 => ?_) (fun c_13 => ?_)
            · exact by
               have b_13 : u1 = true := bB_1 c_13
               have hZ := (if_pos b_13).symm.trans hZ
               exact hj78_8 _ _ _ hZ (hP.sub [0, 1, 2, 3, 4] rfl) (hD.sub [0, 1, 2, 3, 4] (by decide +kernel) rfl) hS (lv_sub hl [0, 1, 2, 3, 4, 5] rfl)
            · exact by
               have b_13 : u1 = false := bB_0 c_13
               have hZ := (if_neg (bF b_13)).symm.trans hZ
               refine lv_iload hx hb dX0_readPart_73 (lv_at hl 4 rfl) ?_
               refine lv_if_eq (tgt := 108) hx hb dX0_readPart_75 (by decide) (fun c_14 => ?_) (fun c_14 => ?_)
               · exact by
                  have b_14 : s0_19 = false := bB_0 c_14
                  have hZ := (if_neg (bF b_14)).symm.trans hZ
                  refine lv_aload_n hx hb dX0_readPart_108 rfl (lv_at hl 1 rfl) ?_
                  refine kz_VvY (As := []) (rest := []) (wc := [(ta, kO 6 [.ref ta_signs, .ref ta_words, .int (nI ta_length), .int (nI ta_next), .int ta_place, .int ta_kind, .int ta_value, .long ta_letters, .int ta_fault]), (ta_signs, kB k 1000 ta_signsF), (ta_words, kJ k 23 ta_wordsF)]) (wr := [(w, kO 0 [.ref w_code, .ref w_stack, .ref w_facts, .int (nI w_length), .int (nI w_top)]), (w_code, kI k 1000 w_codeF)]) ⟨hx, hb, hml, hown, hts⟩ hX hAX ha0 hK hE hP hD hS hA (sX6_advance l D k a0 sa sv f H.size ta ta_signs ta_words ta_length ta_next ta_place ta_kind ta_value ta_letters ta_fault ta_signsF ta_wordsF (by first | omega | assumption | decide) (by first | omega | assumption | decide)) (cwV 0 hts gX0_readPart_X6_advance rfl rfl rfl (by decide +kernel) (by rw [hR]; exact ⟨Nat.le_of_ble_eq_true rfl, Nat.le_of_ble_eq_true rfl⟩)) [4, 2, 3] [0, 1] rfl rfl (by decide +kernel) (by decide +kernel) (by decide +kernel) 0 rfl rfl rfl hl.1 rfl (Nat.le_of_ble_eq_true rfl) dX0_readPart_109 (by rw [hR]; exact ⟨Nat.le_of_ble_eq_true rfl, Nat.le_of_ble_eq_true rfl⟩) (fun u15 H locs hw15 hP hD hS => ?_)
                  exact by
                   obtain ⟨u_ta_315, u_ta_415, u_ta_515, u_ta_615, u_ta_715⟩ := u15
                   try dsimp only at hw15
                   have hP : va_P D vwCl [(w, kO 0 [.ref w_code, .ref w_stack, .ref w_facts, .int (nI w_length), .int (nI w_top)]), (w_code, kI k 1000 w_codeF), (ta, kO 6 [.ref ta_signs, .ref ta_words, .int (nI ta_length), .int (nI u_ta_315), .int u_ta_415, .int u_ta_515, .int u_ta_615, .long u_ta_715, .int ta_fault]), (ta_signs, kB k 1000 ta_signsF), (ta_words, kJ k 23 ta_wordsF)] H := hP
                   have hD : va_D A [(w, kO 0 [.ref w_code, .ref w_stack, .ref w_facts, .int (nI w_length), .int (nI w_top)]), (w_code, kI k 1000 w_codeF), (ta, kO 6 [.ref ta_signs, .ref ta_words, .int (nI ta_length), .int (nI u_ta_315), .int u_ta_415, .int u_ta_515, .int u_ta_615, .long u_ta_715, .int ta_fault]), (ta_signs, kB k 1000 ta_signsF), (ta_words, kJ k 23 ta_wordsF)] := hD
                   obtain ⟨hw15_0, hw15_1⟩ := hw15
                   have hZ := bn5_e hw15_1 hZ
                   refine lv_iload hx hb dX0_readPart_112 (lv_at hl 5 rfl) ?_
                   refine lv_if_ne (tgt := 144) hx hb dX0_readPart_114 (by decide) (fun c_16 => ?_) (fun c_16 => ?_)
                   · exact by
                      have b_16 : u4 = true := bB_1 c_16
                      have hZ := (if_pos b_16).symm.trans hZ
                      refine lv_aload_n hx hb dX0_readPart_144 rfl (lv_at hl 0 rfl) ?_
                      refine lv_aload_n hx hb dX0_readPart_145 rfl (lv_at hl 1 rfl) ?_
                      refine lv_iload_n hx hb dX0_readPart_146 rfl (lv_at hl 2 rfl) ?_
                      refine lv_iconst (v := 1) hx hb dX0_readPart_147 (by decide) ?_
                      refine lv_iadd hx hb dX0_readPart_148 ?_
                      refine lv_topi (fun x17 ex17 => ?_)
                      exact by
                       obtain rfl : x17 = 4 := ex17.trans (by decide)
                       refine kz_ViY (As := [.ref ta, .int 4]) (rest := []) (wc := [(w, kO 0 [.ref w_code, .ref w_stack, .ref w_facts, .int (nI w_length), .int (nI w_top)]), (w_code, kI k 1000 w_codeF), (ta, kO 6 [.ref ta_signs, .ref ta_words, .int (nI ta_length), .int (nI u_ta_315), .int u_ta_415, .int u_ta_515, .int u_ta_615, .long u_ta_715, .int ta_fault]), (ta_signs, kB k 1000 ta_signsF), (ta_words, kJ k 23 ta_wordsF)]) (wr := []) ⟨hx, hb, hml, hown, hts⟩ hX hAX ha0 hK hE hP hD hS hA (sX0_readPart_4 l D k a0 sa sv f H.size w ta w_code w_stack w_facts w_length w_top w_codeF ta_signs ta_words ta_length u_ta_315 u_ta_415 u_ta_515 u_ta_615 u_ta_715 ta_fault ta_signsF ta_wordsF (by first | omega | assumption | decide) (by first | omega | assumption | decide) (by first | omega | assumption | decide) (by first | omega | assumption | decide)) (cwV 2 hts gX0_readPart_X0_readPart rfl rfl rfl (by decide +kernel) (by rw [hR]; exact ⟨Nat.le_of_ble_eq_true rfl, Nat.le_of_ble_eq_true rfl⟩)) [0, 1, 2, 3, 4] [] rfl rfl (by decide +kernel) (by decide +kernel) (by decide +kernel) 0 rfl rfl rfl hl.1 rfl (Nat.le_of_ble_eq_true rfl) dX0_readPart_149 (by rw [hR]; exact ⟨Nat.le_of_ble_eq_true rfl, Nat.le_of_ble_eq_true rfl⟩) (fun r18 u18 H locs hw18 hP hD hS => ?_)
                       exact by
                        obtain ⟨u_w_318, u_w_code18, u_ta_318, u_ta_418, u_ta_518, u_ta_618, u_ta_718, u_ta_818, ub18⟩ := u18
                        try dsimp only at hw18
                        obtain ⟨rfl, hw18⟩ := hw18
                        have hP : va_P D vwCl [(w, kO 0 [.ref w_code, .ref w_stack, .ref w_facts, .int (nI u_w_318), .int (nI w_top)]), (w_code, kI k 1000 u_w_code18), (ta, kO 6 [.ref ta_signs, .ref ta_words, .int (nI ta_length), .int (nI u_ta_318), .int u_ta_418, .int u_ta_518, .int u_ta_618, .long u_ta_718, .int u_ta_818]), (ta_signs, kB k 1000 ta_signsF), (ta_words, kJ k 23 ta_wordsF)] H := hP
                        have hD : va_D A [(w, kO 0 [.ref w_code, .ref w_stack, .ref w_facts, .int (nI u_w_318), .int (nI w_top)]), (w_code, kI k 1000 u_w_code18), (ta, kO 6 [.ref ta_signs, .ref ta_words, .int (nI ta_length), .int (nI u_ta_318), .int u_ta_418, .int u_ta_518, .int u_ta_618, .long u_ta_718, .int u_ta_818]), (ta_signs, kB k 1000 ta_signsF), (ta_words, kJ k 23 ta_wordsF)] := hD
                        obtain ⟨hw18_0, hw18_1, hw18_2⟩ := hw18
                        have hZ := bn9_e hw18_2 hZ
                        refine lv_if_ne (tgt := 157) hx hb dX0_readPart_152 (by decide) (fun c_19 => ?_) (fun c_19 => ?_)
                        · exact by
                           have b_19 : ub18 = true := bB_1 c_19
                           have hZ := (if_pos b_19).symm.trans hZ
                           refine lv_aload_n hx hb dX0_readPart_157 rfl (lv_at hl 0 rfl) ?_
                           refine lv_bipush (v := (-5)) hx hb dX0_readPart_158 (by decide) ?_
                           refine kz_Vv (As := [.int (-5)]) (rest := []) (wc := [(w, kO 0 [.ref w_code, .ref w_stack, .ref w_facts, .int (nI u_w_318), .int (nI w_top)]), (w_code, kI k 1000 u_w_code18)]) (wr := [(ta, kO 6 [.ref ta_signs, .ref ta_words, .int (nI ta_length), .int (nI u_ta_318), .int u_ta_418, .int u_ta_518, .int u_ta_618, .long u_ta_718, .int u_ta_818]), (ta_signs, kB k 1000 ta_signsF), (ta_words, kJ k 23 ta_wordsF)]) ⟨hx, hb, hml, hown, hts⟩ hK hE hP hD hS hA (sX0_write l D k H.size w (-5) w_code w_stack w_facts u_w_318 w_top u_w_code18 (by first | omega | assumption | decide) (by first | omega | assumption | decide)) (cwV 1 hts gX0_readPart_X0_write rfl rfl rfl (by decide +kernel) (by rw [hR]; exact ⟨Nat.le_of_ble_eq_true rfl, Nat.le_of_ble_eq_true rfl⟩)) [0, 1] [2, 3, 4] rfl rfl (by decide +kernel) (by decide +kernel) (by decide +kernel) 0 rfl rfl rfl hl.1 rfl (Nat.le_of_ble_eq_true rfl) dX0_readPart_160 (by rw [hR]; exact ⟨Nat.le_of_ble_eq_true rfl, Nat.le_of_ble_eq_true rfl⟩) (fun u20 H locs hw20 hP hD hS => ?_)
                           exact by
                            obtain ⟨u_w_320, u_w_code20⟩ := u20
                            try dsimp only at hw20
                            have hP : va_P D vwCl [(ta, kO 6 [.ref ta_signs, .ref ta_words, .int (nI ta_length), .int (nI u_ta_318), .int u_ta_418, .int u_ta_518, .int u_ta_618, .long u_ta_718, .int u_ta_818]), (ta_signs, kB k 1000 ta_signsF), (ta_words, kJ k 23 ta_wordsF), (w, kO 0 [.ref w_code, .ref w_stack, .ref w_facts, .int (nI u_w_320), .int (nI w_top)]), (w_code, kI k 1000 u_w_code20)] H := hP
                            have hD : va_D A [(ta, kO 6 [.ref ta_signs, .ref ta_words, .int (nI ta_length), .int (nI u_ta_318), .int u_ta_418, .int u_ta_518, .int u_ta_618, .long u_ta_718, .int u_ta_818]), (ta_signs, kB k 1000 ta_signsF), (ta_words, kJ k 23 ta_wordsF), (w, kO 0 [.ref w_code, .ref w_stack, .ref w_facts, .int (nI u_w_320), .int (nI w_top)]), (w_code, kI k 1000 u_w_code20)] := hD
                            obtain ⟨hw20_0, hw20_1⟩ := hw20
                            have hZ := bn2_e hw20_1 hZ
                            refine lv_iconst (v := 1) hx hb dX0_readPart_163 (by decide) ?_
                            rw [hQ]
                            have hP9 := hP.sub (ws' := [(w, kO 0 [.ref w_code, .ref w_stack, .ref w_facts, .int (nI u_w_320), .int (nI w_top)]), (w_code, kI k 1000 u_w_code20), (ta, kO 6 [.ref ta_signs, .ref ta_words, .int (nI ta_length), .int (nI u_ta_318), .int u_ta_418, .int u_ta_518, .int u_ta_618, .long u_ta_718, .int u_ta_818]), (ta_signs, kB k 1000 ta_signsF), (ta_words, kJ k 23 ta_wordsF)]) [3, 4, 0, 1, 2] rfl
                            have hD9 := hD.sub (ws' := [(w, kO 0 [.ref w_code, .ref w_stack, .ref w_facts, .int (nI u_w_320), .int (nI w_top)]), (w_code, kI k 1000 u_w_code20), (ta, kO 6 [.ref ta_signs, .ref ta_words, .int (nI ta_length), .int (nI u_ta_318), .int u_ta_418, .int u_ta_518, .int u_ta_618, .long u_ta_718, .int u_ta_818]), (ta_signs, kB k 1000 ta_signsF), (ta_words, kJ k 23 ta_wordsF)]) [3, 4, 0, 1, 2] (by decide +kernel) rfl
                            exact W.zret (v := 1) hx hb hr rfl (fun zt ht hW => ⟨⟨1, ⟨u_w_320, u_w_code20, u_ta_318, u_ta_418, u_ta_518, u_ta_618, u_ta_718, u_ta_818, true⟩, rfl, ⟨rfl, (by first | omega | (dsimp only; omega) | assumption), (by first | omega | (dsimp only; omega) | assumption), (hZ.trans hE0)⟩, by rw [ht]; exact hP9, hD9⟩, hS.F ht⟩) hS.2.2 dX0_readPart_164
                        · exact by
                           have b_19 : ub18 = false := bB_0 c_19
                           have hZ := (if_neg (bF b_19)).symm.trans hZ
                           refine lv_iconst (v := 0) hx hb dX0_readPart_155 (by decide) ?_
                           rw [hQ]
                           have hP9 := hP.sub (ws' := [(w, kO 0 [.ref w_code, .ref w_stack, .ref w_facts, .int (nI u_w_318), .int (nI w_top)]), (w_code, kI k 1000 u_w_code18), (ta, kO 6 [.ref ta_signs, .ref ta_words, .int (nI ta_length), .int (nI u_ta_318), .int u_ta_418, .int u_ta_518, .int u_ta_618, .long u_ta_718, .int u_ta_818]), (ta_signs, kB k 1000 ta_signsF), (ta_words, kJ k 23 ta_wordsF)]) [0, 1, 2, 3, 4] rfl
                           have hD9 := hD.sub (ws' := [(w, kO 0 [.ref w_code, .ref w_stack, .ref w_facts, .int (nI u_w_318), .int (nI w_top)]), (w_code, kI k 1000 u_w_code18), (ta, kO 6 [.ref ta_signs, .ref ta_words, .int (nI ta_length), .int (nI u_ta_318), .int u_ta_418, .int u_ta_518, .int u_ta_618, .long u_ta_718, .int u_ta_818]), (ta_signs, kB k 1000 ta_signsF), (ta_words, kJ k 23 ta_wordsF)]) [0, 1, 2, 3, 4] (by decide +kernel) rfl
                           exact W.zret (v := 0) hx hb hr rfl (fun zt ht hW => ⟨⟨0, ⟨u_w_318, u_w_code18, u_ta_318, u_ta_418, u_ta_518, u_ta_618, u_ta_718, u_ta_818, false⟩, rfl, ⟨rfl, (by first | omega | (dsimp only; omega) | assumption), (by first | omega | (dsimp only; omega) | assumption), (hZ.trans hE0)⟩, by rw [ht]; exact hP9, hD9⟩, hS.F ht⟩) hS.2.2 dX0_readPart_156
                   · exact by
                      have b_16 : u4 = false := bB_0 c_16
                      have hZ := (if_neg (bF b_16)).symm.trans hZ
                      refine lv_aload_n hx hb dX0_readPart_117 rfl (lv_at hl 0 rfl) ?_
                      refine lv_aload_n hx hb dX0_readPart_118 rfl (lv_at hl 1 rfl) ?_
                      refine lv_iconst (v := 1) hx hb dX0_readPart_119 (by decide) ?_
                      refine lv_iload_n hx hb dX0_readPart_120 rfl (lv_at hl 2 rfl) ?_
                      refine lv_iconst (v := 1) hx hb dX0_readPart_121 (by decide) ?_
                      refine lv_iadd hx hb dX0_readPart_122 ?_
                      refine lv_topi (fun x21 ex21 => ?_)
                      exact by
                       obtain rfl : x21 = 4 := ex21.trans (by decide)
                       refine kz_ViY (As := [.ref ta, .int 1, .int 4]) (rest := []) (wc := [(w, kO 0 [.ref w_code, .ref w_stack, .ref w_facts, .int (nI w_length), .int (nI w_top)]), (w_code, kI k 1000 w_codeF), (ta, kO 6 [.ref ta_signs, .ref ta_words, .int (nI ta_length), .int (nI u_ta_315), .int u_ta_415, .int u_ta_515, .int u_ta_615, .long u_ta_715, .int ta_fault]), (ta_signs, kB k 1000 ta_signsF), (ta_words, kJ k 23 ta_wordsF)]) (wr := []) ⟨hx, hb, hml, hown, hts⟩ hX hAX ha0 hK hE hP hD hS hA (sX0_readOver_1_4 l D k a0 sa sv f H.size w ta w_code w_stack w_facts w_length w_top w_codeF ta_signs ta_words ta_length u_ta_315 u_ta_415 u_ta_515 u_ta_615 u_ta_715 ta_fault ta_signsF ta_wordsF (by first | omega | assumption | decide) (by first | omega | assumption | decide) (by first | omega | assumption | decide) (by first | omega | assumption | decide)) (cwV 3 hts gX0_readPart_X0_readOver rfl rfl rfl (by decide +kernel) (by rw [hR]; exact ⟨Nat.le_of_ble_eq_true rfl, Nat.le_of_ble_eq_true rfl⟩)) [0, 1, 2, 3, 4] [] rfl rfl (by decide +kernel) (by decide +kernel) (by decide +kernel) 0 rfl rfl rfl hl.1 rfl (Nat.le_of_ble_eq_true rfl) dX0_readPart_123 (by rw [hR]; exact ⟨Nat.le_of_ble_eq_true rfl, Nat.le_of_ble_eq_true rfl⟩) (fun r22 u22 H locs hw22 hP hD hS => ?_)
                       exact by
                        obtain ⟨u_w_322, u_w_code22, u_ta_322, u_ta_422, u_ta_522, u_ta_622, u_ta_722, u_ta_822, ub22⟩ := u22
                        try dsimp only at hw22
                        obtain ⟨rfl, hw22⟩ := hw22
                        have hP : va_P D vwCl [(w, kO 0 [.ref w_code, .ref w_stack, .ref w_facts, .int (nI u_w_322), .int (nI w_top)]), (w_code, kI k 1000 u_w_code22), (ta, kO 6 [.ref ta_signs, .ref ta_words, .int (nI ta_length), .int (nI u_ta_322), .int u_ta_422, .int u_ta_522, .int u_ta_622, .long u_ta_722, .int u_ta_822]), (ta_signs, kB k 1000 ta_signsF), (ta_words, kJ k 23 ta_wordsF)] H := hP
                        have hD : va_D A [(w, kO 0 [.ref w_code, .ref w_stack, .ref w_facts, .int (nI u_w_322), .int (nI w_top)]), (w_code, kI k 1000 u_w_code22), (ta, kO 6 [.ref ta_signs, .ref ta_words, .int (nI ta_length), .int (nI u_ta_322), .int u_ta_422, .int u_ta_522, .int u_ta_622, .long u_ta_722, .int u_ta_822]), (ta_signs, kB k 1000 ta_signsF), (ta_words, kJ k 23 ta_wordsF)] := hD
                        obtain ⟨hw22_0, hw22_1, hw22_2⟩ := hw22
                        have hZ := bn9_e hw22_2 hZ
                        have hj142_23 : ∀ (fta_3_142 : Nat) (fta_4_142 : Int32) (fta_5_142 : Int32) (fta_6_142 : Int32) (fta_7_142 : Int64) (fta_8_142 : Int32) (H : Heap) (locs : List Loc) (ls : Array Slot), (fta_3_142 ≤ 1000) → ((fX0_readPart_3_J142a u_w_322 u_w_code22) fta_3_142 fta_4_142 fta_5_142 fta_6_142 fta_7_142 fta_8_142 = E0) → va_P D vwCl [(w, kO 0 [.ref w_code, .ref w_stack, .ref w_facts, .int (nI u_w_322), .int (nI w_top)]), (w_code, kI k 1000 u_w_code22), (ta, kO 6 [.ref ta_signs, .ref ta_words, .int (nI ta_length), .int (nI fta_3_142), .int fta_4_142, .int fta_5_142, .int fta_6_142, .long fta_7_142, .int fta_8_142]), (ta_signs, kB k 1000 ta_signsF), (ta_words, kJ k 23 ta_wordsF)] H → va_D A [(w, kO 0 [.ref w_code, .ref w_stack, .ref w_facts, .int (nI u_w_322), .int (nI w_top)]), (w_code, kI k 1000 u_w_code22), (ta, kO 6 [.ref ta_signs, .ref ta_words, .int (nI ta_length), .int (nI fta_3_142), .int fta_4_142, .int fta_5_142, .int fta_6_142, .long fta_7_142, .int fta_8_142]), (ta_signs, kB k 1000 ta_signsF), (ta_words, kJ k 23 ta_wordsF)] → va_S A s.heap H locs → lv_has ls 6 [(0, .ref w), (1, .ref ta), (2, .int 3), (3, .int (bB u1)), (4, .int (bB s0_19)), (5, .int (bB u4))] → W p l e R s m args below meth c H locs 0 0 Q (F0 m 142 ls []) := by
                          intro fta_3_142 fta_4_142 fta_5_142 fta_6_142 fta_7_142 fta_8_142 H locs ls i_fta_3_142 hZ hP hD hS hl
                          refine lv_iconst (v := 0) hx hb dX0_readPart_142 (by decide) ?_
                          rw [hQ]
                          have hP9 := hP.sub (ws' := [(w, kO 0 [.ref w_code, .ref w_stack, .ref w_facts, .int (nI u_w_322), .int (nI w_top)]), (w_code, kI k 1000 u_w_code22), (ta, kO 6 [.ref ta_signs, .ref ta_words, .int (nI ta_length), .int (nI fta_3_142), .int fta_4_142, .int fta_5_142, .int fta_6_142, .long fta_7_142, .int fta_8_142]), (ta_signs, kB k 1000 ta_signsF), (ta_words, kJ k 23 ta_wordsF)]) [0, 1, 2, 3, 4] rfl
                          have hD9 := hD.sub (ws' := [(w, kO 0 [.ref w_code, .ref w_stack, .ref w_facts, .int (nI u_w_322), .int (nI w_top)]), (w_code, kI k 1000 u_w_code22), (ta, kO 6 [.ref ta_signs, .ref ta_words, .int (nI ta_length), .int (nI fta_3_142), .int fta_4_142, .int fta_5_142, .int fta_6_142, .long fta_7_142, .int fta_8_142]), (ta_signs, kB k 1000 ta_signsF), (ta_words, kJ k 23 ta_wordsF)]) [0, 1, 2, 3, 4] (by decide +kernel) rfl
                          exact W.zret (v := 0) hx hb hr rfl (fun zt ht hW => ⟨⟨0, ⟨u_w_322, u_w_code22, fta_3_142, fta_4_142, fta_5_142, fta_6_142, fta_7_142, fta_8_142, false⟩, rfl, ⟨rfl, (by first | omega | (dsimp only; omega) | assumption), (by first | omega | (dsimp only; omega) | assumption), (hZ.trans hE0)⟩, by rw [ht]; exact hP9, hD9⟩, hS.F ht⟩) hS.2.2 dX0_readPart_143
                        refine lv_if_eq (tgt := 142) hx hb dX0_readPart_126 (by decide) (fun c_24 => ?_) (fun c_24 => ?_)
                        · exact by
                           have b_24 : ub22 = false := bB_0 c_24
                           have hZ := (if_neg (bF b_24)).symm.trans hZ
                           exact hj142_23 u_ta_322 u_ta_422 u_ta_522 u_ta_622 u_ta_722 u_ta_822 _ _ _ (by first | omega | assumption) hZ (hP.sub [0, 1, 2, 3, 4] rfl) (hD.sub [0, 1, 2, 3, 4] (by decide +kernel) rfl) hS (lv_sub hl [0, 1, 2, 3, 4, 5] rfl)
                        · exact by
                           have b_24 : ub22 = true := bB_1 c_24
                           have hZ := (if_pos b_24).symm.trans hZ
                           refine lv_aload_n hx hb dX0_readPart_129 rfl (lv_at hl 1 rfl) ?_
                           refine lv_bipush (v := 41) hx hb dX0_readPart_130 (by decide) ?_
                           refine kz_ViY (As := [.int 41]) (rest := []) (wc := [(ta, kO 6 [.ref ta_signs, .ref ta_words, .int (nI ta_length), .int (nI u_ta_322), .int u_ta_422, .int u_ta_522, .int u_ta_622, .long u_ta_722, .int u_ta_822]), (ta_signs, kB k 1000 ta_signsF), (ta_words, kJ k 23 ta_wordsF)]) (wr := [(w, kO 0 [.ref w_code, .ref w_stack, .ref w_facts, .int (nI u_w_322), .int (nI w_top)]), (w_code, kI k 1000 u_w_code22)]) ⟨hx, hb, hml, hown, hts⟩ hX hAX ha0 hK hE hP hD hS hA (sX6_takeSign l D k a0 sa sv f H.size ta 41 ta_signs ta_words ta_length u_ta_322 u_ta_422 u_ta_522 u_ta_622 u_ta_722 u_ta_822 ta_signsF ta_wordsF (by first | omega | assumption | decide) (by first | omega | assumption | decide)) (cwV 1 hts gX0_readPart_X6_takeSign rfl rfl rfl (by decide +kernel) (by rw [hR]; exact ⟨Nat.le_of_ble_eq_true rfl, Nat.le_of_ble_eq_true rfl⟩)) [2, 3, 4] [0, 1] rfl rfl (by decide +kernel) (by decide +kernel) (by decide +kernel) 0 rfl rfl rfl hl.1 rfl (Nat.le_of_ble_eq_true rfl) dX0_readPart_132 (by rw [hR]; exact ⟨Nat.le_of_ble_eq_true rfl, Nat.le_of_ble_eq_true rfl⟩) (fun r25 u25 H locs hw25 hP hD hS => ?_)
                           exact by
                            obtain ⟨u_ta_325, u_ta_425, u_ta_525, u_ta_625, u_ta_725, u_ta_825, ub25⟩ := u25
                            try dsimp only at hw25
                            obtain ⟨rfl, hw25⟩ := hw25
                            have hP : va_P D vwCl [(w, kO 0 [.ref w_code, .ref w_stack, .ref w_facts, .int (nI u_w_322), .int (nI w_top)]), (w_code, kI k 1000 u_w_code22), (ta, kO 6 [.ref ta_signs, .ref ta_words, .int (nI ta_length), .int (nI u_ta_325), .int u_ta_425, .int u_ta_525, .int u_ta_625, .long u_ta_725, .int u_ta_825]), (ta_signs, kB k 1000 ta_signsF), (ta_words, kJ k 23 ta_wordsF)] H := hP
                            have hD : va_D A [(w, kO 0 [.ref w_code, .ref w_stack, .ref w_facts, .int (nI u_w_322), .int (nI w_top)]), (w_code, kI k 1000 u_w_code22), (ta, kO 6 [.ref ta_signs, .ref ta_words, .int (nI ta_length), .int (nI u_ta_325), .int u_ta_425, .int u_ta_525, .int u_ta_625, .long u_ta_725, .int u_ta_825]), (ta_signs, kB k 1000 ta_signsF), (ta_words, kJ k 23 ta_wordsF)] := hD
                            obtain ⟨hw25_0, hw25_1⟩ := hw25
                            have hZ := bn7_e hw25_1 hZ
                            refine lv_if_eq (tgt := 142) hx hb dX0_readPart_135 (by decide) (fun c_26 => ?_) (fun c_26 => ?_)
                            · exact by
                               have b_26 : ub25 = false := bB_0 c_26
                               have hZ := (if_neg (bF b_26)).symm.trans hZ
                               exact hj142_23 u_ta_325 u_ta_425 u_ta_525 u_ta_625 u_ta_725 u_ta_825 _ _ _ (by first | omega | assumption) hZ (hP.sub [0, 1, 2, 3, 4] rfl) (hD.sub [0, 1, 2, 3, 4] (by decide +kernel) rfl) hS (lv_sub hl [0, 1, 2, 3, 4, 5] rfl)
                            · exact by
                               have b_26 : ub25 = true := bB_1 c_26
                               have hZ := (if_pos b_26).symm.trans hZ
                               refine lv_iconst (v := 1) hx hb dX0_readPart_138 (by decide) ?_
                               refine lv_goto (tgt := 143) hx hb dX0_readPart_139 (by decide) ?_
                               rw [hQ]
                               have hP9 := hP.sub (ws' := [(w, kO 0 [.ref w_code, .ref w_stack, .ref w_facts, .int (nI u_w_322), .int (nI w_top)]), (w_code, kI k 1000 u_w_code22), (ta, kO 6 [.ref ta_signs, .ref ta_words, .int (nI ta_length), .int (nI u_ta_325), .int u_ta_425, .int u_ta_525, .int u_ta_625, .long u_ta_725, .int u_ta_825]), (ta_signs, kB k 1000 ta_signsF), (ta_words, kJ k 23 ta_wordsF)]) [0, 1, 2, 3, 4] rfl
                               have hD9 := hD.sub (ws' := [(w, kO 0 [.ref w_code, .ref w_stack, .ref w_facts, .int (nI u_w_322), .int (nI w_top)]), (w_code, kI k 1000 u_w_code22), (ta, kO 6 [.ref ta_signs, .ref ta_words, .int (nI ta_length), .int (nI u_ta_325), .int u_ta_425, .int u_ta_525, .int u_ta_625, .long u_ta_725, .int u_ta_825]), (ta_signs, kB k 1000 ta_signsF), (ta_words, kJ k 23 ta_wordsF)]) [0, 1, 2, 3, 4] (by decide +kernel) rfl
                               exact W.zret (v := 1) hx hb hr rfl (fun zt ht hW => ⟨⟨1, ⟨u_w_322, u_w_code22, u_ta_325, u_ta_425, u_ta_525, u_ta_625, u_ta_725, u_ta_825, true⟩, rfl, ⟨rfl, (by first | omega | (dsimp only; omega) | assumption), (by first | omega | (dsimp only; omega) | assumption), (hZ.trans hE0)⟩, by rw [ht]; exact hP9, hD9⟩, hS.F ht⟩) hS.2.2 dX0_readPart_143
               · exact by
                  have b_14 : s0_19 = true := bB_1 c_14
                  have hZ := (if_pos b_14).symm.trans hZ
                  exact hj78_8 _ _ _ hZ (hP.sub [0, 1, 2, 3, 4] rfl) (hD.sub [0, 1, 2, 3, 4] (by decide +kernel) rfl) hS (lv_sub hl [0, 1, 2, 3, 4, 5] rfl)
          refine lv_if_ne (tgt := 58) hx hb dX0_readPart_30 (by decide) (fun c_27 => ?_) (fun c_27 => ?_)
          · exact by
             have b_27 : u1 = true := bB_1 c_27
             have hZ := (if_pos b_27).symm.trans hZ
             exact hj58_5 _ _ _ hZ (hP.sub [0, 1, 2, 3, 4] rfl) (hD.sub [0, 1, 2, 3, 4] (by decide +kernel) rfl) hS (lv_sub hl [2, 3, 4, 5, 1, 0] rfl)
          · exact by
             have b_27 : u1 = false := bB_0 c_27
             have hZ := (if_neg (bF b_27)).symm.trans hZ
             refine lv_iload hx hb dX0_readPart_33 (lv_at hl 1 rfl) ?_
             refine lv_if_ne (tgt := 58) hx hb dX0_readPart_35 (by decide) (fun c_28 => ?_) (fun c_28 => ?_)
             · exact by
                have b_28 : s0_19 = true := bB_1 c_28
                have hZ := (if_pos b_28).symm.trans hZ
                exact hj58_5 _ _ _ hZ (hP.sub [0, 1, 2, 3, 4] rfl) (hD.sub [0, 1, 2, 3, 4] (by decide +kernel) rfl) hS (lv_sub hl [2, 3, 4, 5, 1, 0] rfl)
             · exact by
                have b_28 : s0_19 = false := bB_0 c_28
                have hZ := (if_neg (bF b_28)).symm.trans hZ
                refine lv_iload hx hb dX0_readPart_38 (lv_at hl 0 rfl) ?_
                refine lv_if_ne (tgt := 58) hx hb dX0_readPart_40 (by decide) (fun c_29 => ?_) (fun c_29 => ?_)
                · exact by
                   have b_29 : u4 = true := bB_1 c_29
                   have hZ := (if_pos b_29).symm.trans hZ
                   exact hj58_5 _ _ _ hZ (hP.sub [0, 1, 2, 3, 4] rfl) (hD.sub [0, 1, 2, 3, 4] (by decide +kernel) rfl) hS (lv_sub hl [2, 3, 4, 5, 1, 0] rfl)
                · exact by
                   have b_29 : u4 = false := bB_0 c_29
                   have hZ := (if_neg (bF b_29)).symm.trans hZ
                   refine lv_aload_n hx hb dX0_readPart_43 rfl (lv_at hl 3 rfl) ?_
                   refine lv_bipush (v := 40) hx hb dX0_readPart_44 (by decide) ?_
                   refine kz_Vi (As := [.int 40]) (rest := []) (wc := [(ta, kO 6 [.ref ta_signs, .ref ta_words, .int (nI ta_length), .int (nI ta_next), .int ta_place, .int ta_kind, .int ta_value, .long ta_letters, .int ta_fault])]) (wr := [(w, kO 0 [.ref w_code, .ref w_stack, .ref w_facts, .int (nI w_length), .int (nI w_top)]), (w_code, kI k 1000 w_codeF), (ta_signs, kB k 1000 ta_signsF), (ta_words, kJ k 23 ta_wordsF)]) ⟨hx, hb, hml, hown, hts⟩ hK hE hP hD hS hA (sX6_isSign l D k H.size ta 40 ta_signs ta_words ta_length ta_next ta_place ta_kind ta_value ta_letters ta_fault (by first | omega | assumption | decide) (by first | omega | assumption | decide)) (cwV 1 hts gX0_readPart_X6_isSign rfl rfl rfl (by decide +kernel) (by rw [hR]; exact ⟨Nat.le_of_ble_eq_true rfl, Nat.le_of_ble_eq_true rfl⟩)) [4] [0, 1, 2, 3] rfl rfl (by decide +kernel) (by decide +kernel) (by decide +kernel) 0 rfl rfl rfl hl.1 rfl (Nat.le_of_ble_eq_true rfl) dX0_readPart_46 (by rw [hR]; exact ⟨Nat.le_of_ble_eq_true rfl, Nat.le_of_ble_eq_true rfl⟩) (fun r30 u30 H locs hw30 hP hD hS => ?_)
                   exact by
                    try dsimp only at hw30
                    obtain ⟨rfl, hw30⟩ := hw30
                    have hP : va_P D vwCl [(w, kO 0 [.ref w_code, .ref w_stack, .ref w_facts, .int (nI w_length), .int (nI w_top)]), (w_code, kI k 1000 w_codeF), (ta_signs, kB k 1000 ta_signsF), (ta_words, kJ k 23 ta_wordsF), (ta, kO 6 [.ref ta_signs, .ref ta_words, .int (nI ta_length), .int (nI ta_next), .int ta_place, .int ta_kind, .int ta_value, .long ta_letters, .int ta_fault])] H := hP
                    have hD : va_D A [(w, kO 0 [.ref w_code, .ref w_stack, .ref w_facts, .int (nI w_length), .int (nI w_top)]), (w_code, kI k 1000 w_codeF), (ta_signs, kB k 1000 ta_signsF), (ta_words, kJ k 23 ta_wordsF), (ta, kO 6 [.ref ta_signs, .ref ta_words, .int (nI ta_length), .int (nI ta_next), .int ta_place, .int ta_kind, .int ta_value, .long ta_letters, .int ta_fault])] := hD
                    have hw30_0 := hw30
                    have hZ := bn1_e hw30_0 hZ
                    refine lv_if_ne (tgt := 58) hx hb dX0_readPart_49 (by decide) (fun c_31 => ?_) (fun c_31 => ?_)
                    · exact by
                       have b_31 : u30 = true := bB_1 c_31
                       have hZ := (if_pos b_31).symm.trans hZ
                       exact hj58_5 _ _ _ hZ (hP.sub [0, 1, 2, 3, 4] rfl) (hD.sub [0, 1, 2, 3, 4] (by decide +kernel) rfl) hS (lv_sub hl [2, 3, 4, 5, 1, 0] rfl)
                    · exact by
                       have b_31 : u30 = false := bB_0 c_31
                       have hZ := (if_neg (bF b_31)).symm.trans hZ
                       refine lv_aload_n hx hb dX0_readPart_52 rfl (lv_at hl 3 rfl) ?_
                       refine lv_iconst (v := 1) hx hb dX0_readPart_53 (by decide) ?_
                       refine kz_Vi (As := [.int 1]) (rest := []) (wc := [(ta, kO 6 [.ref ta_signs, .ref ta_words, .int (nI ta_length), .int (nI ta_next), .int ta_place, .int ta_kind, .int ta_value, .long ta_letters, .int ta_fault])]) (wr := [(w, kO 0 [.ref w_code, .ref w_stack, .ref w_facts, .int (nI w_length), .int (nI w_top)]), (w_code, kI k 1000 w_codeF), (ta_signs, kB k 1000 ta_signsF), (ta_words, kJ k 23 ta_wordsF)]) ⟨hx, hb, hml, hown, hts⟩ hK hE hP hD hS hA (sX6_wrong l D k H.size ta 1 ta_signs ta_words ta_length ta_next ta_place ta_kind ta_value ta_letters ta_fault (by first | omega | assumption | decide) (by first | omega | assumption | decide)) (cwV 1 hts gX0_readPart_X6_wrong rfl rfl rfl (by decide +kernel) (by rw [hR]; exact ⟨Nat.le_of_ble_eq_true rfl, Nat.le_of_ble_eq_true rfl⟩)) [4] [0, 1, 2, 3] rfl rfl (by decide +kernel) (by decide +kernel) (by decide +kernel) 0 rfl rfl rfl hl.1 rfl (Nat.le_of_ble_eq_true rfl) dX0_readPart_54 (by rw [hR]; exact ⟨Nat.le_of_ble_eq_true rfl, Nat.le_of_ble_eq_true rfl⟩) (fun r32 u32 H locs hw32 hP hD hS => ?_)
                       exact by
                        obtain ⟨u_ta_832, ub32⟩ := u32
                        try dsimp only at hw32
                        obtain ⟨rfl, hw32⟩ := hw32
                        have hP : va_P D vwCl [(w, kO 0 [.ref w_code, .ref w_stack, .ref w_facts, .int (nI w_length), .int (nI w_top)]), (w_code, kI k 1000 w_codeF), (ta_signs, kB k 1000 ta_signsF), (ta_words, kJ k 23 ta_wordsF), (ta, kO 6 [.ref ta_signs, .ref ta_words, .int (nI ta_length), .int (nI ta_next), .int ta_place, .int ta_kind, .int ta_value, .long ta_letters, .int u_ta_832])] H := hP
                        have hD : va_D A [(w, kO 0 [.ref w_code, .ref w_stack, .ref w_facts, .int (nI w_length), .int (nI w_top)]), (w_code, kI k 1000 w_codeF), (ta_signs, kB k 1000 ta_signsF), (ta_words, kJ k 23 ta_wordsF), (ta, kO 6 [.ref ta_signs, .ref ta_words, .int (nI ta_length), .int (nI ta_next), .int ta_place, .int ta_kind, .int ta_value, .long ta_letters, .int u_ta_832])] := hD
                        have hw32_0 := hw32
                        have hZ := bn2_e hw32_0 hZ
                        rw [hQ]
                        have hP9 := hP.sub (ws' := [(w, kO 0 [.ref w_code, .ref w_stack, .ref w_facts, .int (nI w_length), .int (nI w_top)]), (w_code, kI k 1000 w_codeF), (ta, kO 6 [.ref ta_signs, .ref ta_words, .int (nI ta_length), .int (nI ta_next), .int ta_place, .int ta_kind, .int ta_value, .long ta_letters, .int u_ta_832]), (ta_signs, kB k 1000 ta_signsF), (ta_words, kJ k 23 ta_wordsF)]) [0, 1, 4, 2, 3] rfl
                        have hD9 := hD.sub (ws' := [(w, kO 0 [.ref w_code, .ref w_stack, .ref w_facts, .int (nI w_length), .int (nI w_top)]), (w_code, kI k 1000 w_codeF), (ta, kO 6 [.ref ta_signs, .ref ta_words, .int (nI ta_length), .int (nI ta_next), .int ta_place, .int ta_kind, .int ta_value, .long ta_letters, .int u_ta_832]), (ta_signs, kB k 1000 ta_signsF), (ta_words, kJ k 23 ta_wordsF)]) [0, 1, 4, 2, 3] (by decide +kernel) rfl
                        exact W.zret (v := (bB ub32)) hx hb hr (narrow_bB _) (fun zt ht hW => ⟨⟨(bB ub32), ⟨w_length, w_codeF, ta_next, ta_place, ta_kind, ta_value, ta_letters, u_ta_832, ub32⟩, rfl, ⟨rfl, (by first | omega | (dsimp only; omega) | assumption), (by first | omega | (dsimp only; omega) | assumption), (hZ.trans hE0)⟩, by rw [ht]; exact hP9, hD9⟩, hS.F ht⟩) hS.2.2 dX0_readPart_57
     refine lv_icmp_lt (tgt := 18) hx hb dX0_readPart_11 (by decide) (fun c_33 => ?_) (fun c_33 => ?_)
     · exact by
        have t_33 : (Int32.toInt r2) < 19 := tI_lt rfl (by decide) c_33
        have hZ := (if_pos c_33).symm.trans hZ
        refine lv_iconst (v := 0) hx hb dX0_readPart_18 (by decide) ?_
        exact hj19_3 false _ _ _ hZ (hP.sub [0, 1, 2, 3, 4] rfl) (hD.sub [0, 1, 2, 3, 4] (by decide +kernel) rfl) hS (lv_sub hl [1, 2, 3, 0] rfl)
     · exact by
        have t_33 : (Int32.toInt r2) ≥ 19 := tI_nlt rfl (by decide) c_33
        have hZ := (if_neg c_33).symm.trans hZ
        refine lv_iconst (v := 1) hx hb dX0_readPart_14 (by decide) ?_
        refine lv_goto (tgt := 19) hx hb dX0_readPart_15 (by decide) ?_
        exact hj19_3 true _ _ _ hZ (hP.sub [0, 1, 2, 3, 4] rfl) (hD.sub [0, 1, 2, 3, 4] (by decide +kernel) rfl) hS (lv_sub hl [1, 2, 3, 0] rfl)
set_option maxHeartbeats 4000000 in
set_option maxRecDepth 100000 in
theorem sX0_readOver_5_3 (l : Launch) (D : va_G) (k : Nat → ClassId) (a0 sa sv : Nat) (f : Nat → Int32) (sz : Nat) (w : Nat) (ta : Nat) (w_code : Nat) (w_stack : Nat) (w_facts : Nat) (w_length : Nat) (w_top : Nat) (w_codeF : Nat → Int32) (ta_signs : Nat) (ta_words : Nat) (ta_length : Nat) (ta_next : Nat) (ta_place : Int32) (ta_kind : Int32) (ta_value : Int32) (ta_letters : Int64) (ta_fault : Int32) (ta_signsF : Nat → Int32) (ta_wordsF : Nat → Int64) (h_w_length : w_length ≤ 1000) (h_w_top : w_top ≤ 24) (h_ta_length : ta_length ≤ 1000) (h_ta_next : ta_next ≤ 1000) : Met l yX0_readOver wsX0_readOver ({ frames := 16, cells := 0, slots := 0, locals := 1120 }) (va_Pc [.ref w, .ref ta, .int 5, .int 3] (kz_PreY D k [(w, kO 0 [.ref w_code, .ref w_stack, .ref w_facts, .int (nI w_length), .int (nI w_top)]), (w_code, kI k 1000 w_codeF), (ta, kO 6 [.ref ta_signs, .ref ta_words, .int (nI ta_length), .int (nI ta_next), .int ta_place, .int ta_kind, .int ta_value, .long ta_letters, .int ta_fault]), (ta_signs, kB k 1000 ta_signsF), (ta_words, kJ k 23 ta_wordsF)] a0 sa sv f sz)) (va_Qi (fun (rr : Int32) (uu : Nat × (Nat → Int32) × Nat × Int32 × Int32 × Int32 × Int64 × Int32 × Bool) => rr = bB uu.2.2.2.2.2.2.2.2 ∧ (uu.1 ≤ 1000) ∧ (uu.2.2.1 ≤ 1000) ∧ ((uu.1, uu.2.1, uu.2.2.1, uu.2.2.2.1, uu.2.2.2.2.1, uu.2.2.2.2.2.1, uu.2.2.2.2.2.2.1, uu.2.2.2.2.2.2.2.1, uu.2.2.2.2.2.2.2.2) = (fX0_readOver_5_3 w_length w_codeF ta_length ta_next ta_place ta_kind ta_value ta_letters ta_fault ta_signsF ta_wordsF f))) (fun uu zt => kz_B D (va_A [(w, kO 0 [.ref w_code, .ref w_stack, .ref w_facts, .int (nI w_length), .int (nI w_top)]), (w_code, kI k 1000 w_codeF), (ta, kO 6 [.ref ta_signs, .ref ta_words, .int (nI ta_length), .int (nI ta_next), .int ta_place, .int ta_kind, .int ta_value, .long ta_letters, .int ta_fault]), (ta_signs, kB k 1000 ta_signsF), (ta_words, kJ k 23 ta_wordsF)] sz) [(w, kO 0 [.ref w_code, .ref w_stack, .ref w_facts, .int (nI uu.1), .int (nI w_top)]), (w_code, kI k 1000 uu.2.1), (ta, kO 6 [.ref ta_signs, .ref ta_words, .int (nI ta_length), .int (nI uu.2.2.1), .int uu.2.2.2.1, .int uu.2.2.2.2.1, .int uu.2.2.2.2.2.1, .long uu.2.2.2.2.2.2.1, .int uu.2.2.2.2.2.2.2.1]), (ta_signs, kB k 1000 ta_signsF), (ta_words, kJ k 23 ta_wordsF)] zt) (va_A [(w, kO 0 [.ref w_code, .ref w_stack, .ref w_facts, .int (nI w_length), .int (nI w_top)]), (w_code, kI k 1000 w_codeF), (ta, kO 6 [.ref ta_signs, .ref ta_words, .int (nI ta_length), .int (nI ta_next), .int ta_place, .int ta_kind, .int ta_value, .long ta_letters, .int ta_fault]), (ta_signs, kB k 1000 ta_signsF), (ta_words, kJ k 23 ta_wordsF)] sz)) 0 0 (va_A [(w, kO 0 [.ref w_code, .ref w_stack, .ref w_facts, .int (nI w_length), .int (nI w_top)]), (w_code, kI k 1000 w_codeF), (ta, kO 6 [.ref ta_signs, .ref ta_words, .int (nI ta_length), .int (nI ta_next), .int ta_place, .int ta_kind, .int ta_value, .long ta_letters, .int ta_fault]), (ta_signs, kB k 1000 ta_signsF), (ta_words, kJ k 23 ta_wordsF)] sz) := by
  refine Met.ofW (cc := cX0_readOver) (maxL := 8) (ret := (some .boolean)) (by decide) rfl ?_
  intro p e s m args below meth c s₁ B hml hv
  obtain ⟨hav, ⟨hsz, hP, hK, hD0, hE⟩, ha0, hDa, hX⟩ := hv
  have hx := B.exec
  have hb := B.bytes
  have hr := B.returns
  have hts := atoms_spec (ws := wsX0_readOver) B.pre
  have hown : s.vm.findClass RX0 = some m.cls := findClass_of_methodNamed B.named
  have hlocks := B.notSynchronized
  subst hsz
  have hD := hD0.self (sz := s.heap.size)
  generalize hAe : va_A [(w, kO 0 [.ref w_code, .ref w_stack, .ref w_facts, .int (nI w_length), .int (nI w_top)]), (w_code, kI k 1000 w_codeF), (ta, kO 6 [.ref ta_signs, .ref ta_words, .int (nI ta_length), .int (nI ta_next), .int ta_place, .int ta_kind, .int ta_value, .long ta_letters, .int ta_fault]), (ta_signs, kB k 1000 ta_signsF), (ta_words, kJ k 23 ta_wordsF)] s.heap.size = A at hD ⊢
  have hA : ∀ q : Nat, s.heap.size ≤ q → A q := fun q h => by rw [← hAe]; exact Or.inr h
  have hAX : ∀ q, A q → a0 ≤ q := fun q h => by rw [← hAe] at h; exact h.elim (fun ⟨k9, e9, h9⟩ => hDa.2 k9 _ h9) (fun e => Nat.le_trans ha0 e)
  obtain ⟨tx71, hR71⟩ := hX.1
  have hS : va_S A s.heap s.heap [] := va_S.rf
  have hl := lv_entry ([.ref w, .ref ta, .int 5, .int 3]) (n := 8) (Nat.le_of_ble_eq_true rfl)
  rw [show entryFrame m args 8 = entryFrame m ([.ref w, .ref ta, .int 5, .int 3] : List Value).toArray 8 by rw [hav], lg_entry_eq]
  generalize (lg_sl ([.ref w, .ref ta, .int 5, .int 3]) ++ List.replicate (8 - (lg_sl ([.ref w, .ref ta, .int 5, .int 3])).length) Slot.unset).toArray = ls at hl ⊢
  have hl : lv_has ls 8 [(0, .ref w), (1, .ref ta), (2, .int 5), (3, .int 3)] := hl
  obtain ⟨R, hR⟩ : ∃ R, R = (headSpec wsX0_readOver ({ frames := 16, cells := 0, slots := 0, locals := 1120 } : Room)).room := ⟨_, rfl⟩
  rw [← hR]
  generalize hQ : MQ below _ args s 0 0 A = Q
  replace hQ := hQ.symm
  obtain ⟨H, hH⟩ : ∃ H, H = s.heap := ⟨_, rfl⟩
  rw [← hH] at hP ⊢
  have hS : va_S A s.heap H [] := by rw [hH]; exact hS
  obtain ⟨E0, hE0⟩ : ∃ E0 : Nat × (Nat → Int32) × Nat × Int32 × Int32 × Int32 × Int64 × Int32 × Bool, E0 = (fX0_readOver_5_3 w_length w_codeF ta_length ta_next ta_place ta_kind ta_value ta_letters ta_fault ta_signsF ta_wordsF f) := ⟨_, rfl⟩
  have hZ : (fX0_readOver_5_3 w_length w_codeF ta_length ta_next ta_place ta_kind ta_value ta_letters ta_fault ta_signsF ta_wordsF f) = E0 := hE0.symm
  refine lv_aload_n hx hb dX0_readOver_0 rfl (lv_at hl 0 rfl) ?_
  refine lv_aload_n hx hb dX0_readOver_1 rfl (lv_at hl 1 rfl) ?_
  refine lv_iload_n hx hb dX0_readOver_2 rfl (lv_at hl 3 rfl) ?_
  refine kz_ViY (As := [.ref ta, .int 3]) (rest := []) (wc := [(w, kO 0 [.ref w_code, .ref w_stack, .ref w_facts, .int (nI w_length), .int (nI w_top)]), (w_code, kI k 1000 w_codeF), (ta, kO 6 [.ref ta_signs, .ref ta_words, .int (nI ta_length), .int (nI ta_next), .int ta_place, .int ta_kind, .int ta_value, .long ta_letters, .int ta_fault]), (ta_signs, kB k 1000 ta_signsF), (ta_words, kJ k 23 ta_wordsF)]) (wr := []) ⟨hx, hb, hml, hown, hts⟩ hX hAX ha0 hK hE hP hD hS hA (sX0_readPart_3 l D k a0 sa sv f H.size w ta w_code w_stack w_facts w_length w_top w_codeF ta_signs ta_words ta_length ta_next ta_place ta_kind ta_value ta_letters ta_fault ta_signsF ta_wordsF (by first | omega | assumption | decide) (by first | omega | assumption | decide) (by first | omega | assumption | decide) (by first | omega | assumption | decide)) (cwV 2 hts gX0_readOver_X0_readPart rfl rfl rfl (by decide +kernel) (by rw [hR]; exact ⟨Nat.le_of_ble_eq_true rfl, Nat.le_of_ble_eq_true rfl⟩)) [0, 1, 2, 3, 4] [] rfl rfl (by decide +kernel) (by decide +kernel) (by decide +kernel) 0 rfl rfl rfl hl.1 rfl (Nat.le_of_ble_eq_true rfl) dX0_readOver_3 (by rw [hR]; exact ⟨Nat.le_of_ble_eq_true rfl, Nat.le_of_ble_eq_true rfl⟩) (fun r1 u1 H locs hw1 hP hD hS => ?_)
  exact by
   obtain ⟨u_w_31, u_w_code1, u_ta_31, u_ta_41, u_ta_51, u_ta_61, u_ta_71, u_ta_81, ub1⟩ := u1
   try dsimp only at hw1
   obtain ⟨rfl, hw1⟩ := hw1
   have hP : va_P D vwCl [(w, kO 0 [.ref w_code, .ref w_stack, .ref w_facts, .int (nI u_w_31), .int (nI w_top)]), (w_code, kI k 1000 u_w_code1), (ta, kO 6 [.ref ta_signs, .ref ta_words, .int (nI ta_length), .int (nI u_ta_31), .int u_ta_41, .int u_ta_51, .int u_ta_61, .long u_ta_71, .int u_ta_81]), (ta_signs, kB k 1000 ta_signsF), (ta_words, kJ k 23 ta_wordsF)] H := hP
   have hD : va_D A [(w, kO 0 [.ref w_code, .ref w_stack, .ref w_facts, .int (nI u_w_31), .int (nI w_top)]), (w_code, kI k 1000 u_w_code1), (ta, kO 6 [.ref ta_signs, .ref ta_words, .int (nI ta_length), .int (nI u_ta_31), .int u_ta_41, .int u_ta_51, .int u_ta_61, .long u_ta_71, .int u_ta_81]), (ta_signs, kB k 1000 ta_signsF), (ta_words, kJ k 23 ta_wordsF)] := hD
   obtain ⟨hw1_0, hw1_1, hw1_2⟩ := hw1
   have hZ := bn9_e hw1_2 hZ
   refine lv_if_ne (tgt := 11) hx hb dX0_readOver_6 (by decide) (fun c_2 => ?_) (fun c_2 => ?_)
   · exact by
      have b_2 : ub1 = true := bB_1 c_2
      have hZ := (if_pos b_2).symm.trans hZ
      refine lv_iconst (v := 4) hx hb dX0_readOver_11 (by decide) ?_
      refine lv_istore (lv' := [(4, .int 4), (0, .ref w), (1, .ref ta), (2, .int 5), (3, .int 3)]) hx hb dX0_readOver_12 hl (by decide) rfl (fun ls hl => ?_)
      exact by
       refine lv_iconst (v := 0) hx hb dX0_readOver_14 (by decide) ?_
       refine lv_istore (lv' := [(5, .int 0), (4, .int 4), (0, .ref w), (1, .ref ta), (2, .int 5), (3, .int 3)]) hx hb dX0_readOver_15 hl (by decide) rfl (fun ls hl => ?_)
       exact by
        have hloop17 : ∀ (nq : Nat) (l5_17 : Nat) (H : Heap) (locs : List Loc) (ls : Array Slot), (1000 + 1 - l5_17) < nq → (l5_17 ≤ 1000) → (lp (fun _ => (0, (fun _ => 0), 0, (0 : Int32), (0 : Int32), (0 : Int32), (0 : Int64), (0 : Int32), false)) (fX0_readOver_5_3_B17a u_w_31 u_w_code1 u_ta_31 u_ta_41 u_ta_51 u_ta_61 u_ta_71 u_ta_81) nq l5_17 = E0) → va_P D vwCl [(w, kO 0 [.ref w_code, .ref w_stack, .ref w_facts, .int (nI u_w_31), .int (nI w_top)]), (w_code, kI k 1000 u_w_code1), (ta, kO 6 [.ref ta_signs, .ref ta_words, .int (nI ta_length), .int (nI u_ta_31), .int u_ta_41, .int u_ta_51, .int u_ta_61, .long u_ta_71, .int u_ta_81]), (ta_signs, kB k 1000 ta_signsF), (ta_words, kJ k 23 ta_wordsF)] H → va_D A [(w, kO 0 [.ref w_code, .ref w_stack, .ref w_facts, .int (nI u_w_31), .int (nI w_top)]), (w_code, kI k 1000 u_w_code1), (ta, kO 6 [.ref ta_signs, .ref ta_words, .int (nI ta_length), .int (nI u_ta_31), .int u_ta_41, .int u_ta_51, .int u_ta_61, .long u_ta_71, .int u_ta_81]), (ta_signs, kB k 1000 ta_signsF), (ta_words, kJ k 23 ta_wordsF)] → va_S A s.heap H locs → lv_has ls 8 [(0, .ref w), (1, .ref ta), (2, .int 5), (3, .int 3), (4, .int 4), (5, .int (nI l5_17))] → W p l e R s m args below meth c H locs 0 0 Q (F0 m 17 ls []) := by
          intro n17
          induction n17 with
          | zero => intro l5_17 H locs ls hm; exact absurd hm (Nat.not_lt_zero _)
          | succ n17 ih17 =>
            intro l5_17 H locs ls hm17 i_l5_17 hZ hP hD hS hl
            obtain ⟨rc17_3, hrc17_3⟩ : ∃ r : Nat → Nat × (Nat → Int32) × Nat × Int32 × Int32 × Int32 × Int64 × Int32 × Bool, r = lp (fun _ => (0, (fun _ => 0), 0, (0 : Int32), (0 : Int32), (0 : Int32), (0 : Int64), (0 : Int32), false)) (fX0_readOver_5_3_B17a u_w_31 u_w_code1 u_ta_31 u_ta_41 u_ta_51 u_ta_61 u_ta_71 u_ta_81) n17 := ⟨_, rfl⟩
            have hZ : (fX0_readOver_5_3_B17a u_w_31 u_w_code1 u_ta_31 u_ta_41 u_ta_51 u_ta_61 u_ta_71 u_ta_81) rc17_3 l5_17 = E0 := by rw [hrc17_3]; exact hZ
            refine lv_iload hx hb dX0_readOver_17 (lv_at hl 5 rfl) ?_
            refine lv_sipush (v := 1000) hx hb dX0_readOver_19 (by decide) ?_
            refine lv_icmp_ge (tgt := 101) hx hb dX0_readOver_22 (by decide) (fun c_4 => ?_) (fun c_4 => ?_)
            · exact by
               have k_4 : 1000 ≤ l5_17 := (nI_leI (a := 1000) (b := l5_17) (by omega) (by omega)).mp c_4
               have hZ := (if_pos k_4).symm.trans hZ
               refine lv_iconst (v := 1) hx hb dX0_readOver_101 (by decide) ?_
               rw [hQ]
               have hP9 := hP.sub (ws' := [(w, kO 0 [.ref w_code, .ref w_stack, .ref w_facts, .int (nI u_w_31), .int (nI w_top)]), (w_code, kI k 1000 u_w_code1), (ta, kO 6 [.ref ta_signs, .ref ta_words, .int (nI ta_length), .int (nI u_ta_31), .int u_ta_41, .int u_ta_51, .int u_ta_61, .long u_ta_71, .int u_ta_81]), (ta_signs, kB k 1000 ta_signsF), (ta_words, kJ k 23 ta_wordsF)]) [0, 1, 2, 3, 4] rfl
               have hD9 := hD.sub (ws' := [(w, kO 0 [.ref w_code, .ref w_stack, .ref w_facts, .int (nI u_w_31), .int (nI w_top)]), (w_code, kI k 1000 u_w_code1), (ta, kO 6 [.ref ta_signs, .ref ta_words, .int (nI ta_length), .int (nI u_ta_31), .int u_ta_41, .int u_ta_51, .int u_ta_61, .long u_ta_71, .int u_ta_81]), (ta_signs, kB k 1000 ta_signsF), (ta_words, kJ k 23 ta_wordsF)]) [0, 1, 2, 3, 4] (by decide +kernel) rfl
               exact W.zret (v := 1) hx hb hr rfl (fun zt ht hW => ⟨⟨1, ⟨u_w_31, u_w_code1, u_ta_31, u_ta_41, u_ta_51, u_ta_61, u_ta_71, u_ta_81, true⟩, rfl, ⟨rfl, (by first | omega | (dsimp only; omega) | assumption), (by first | omega | (dsimp only; omega) | assumption), (hZ.trans hE0)⟩, by rw [ht]; exact hP9, hD9⟩, hS.F ht⟩) hS.2.2 dX0_readOver_102
            · exact by
               have k_4 : ¬ (1000 ≤ l5_17) := fun h => c_4 ((nI_leI (a := 1000) (b := l5_17) (by omega) (by omega)).mpr h)
               have hZ := (if_neg k_4).symm.trans hZ
               refine lv_aload_n hx hb dX0_readOver_25 rfl (lv_at hl 1 rfl) ?_
               refine kz_Si (As := [.ref ta]) (rest := []) (wc := [(ta, kO 6 [.ref ta_signs, .ref ta_words, .int (nI ta_length), .int (nI u_ta_31), .int u_ta_41, .int u_ta_51, .int u_ta_61, .long u_ta_71, .int u_ta_81])]) (wr := [(w, kO 0 [.ref w_code, .ref w_stack, .ref w_facts, .int (nI u_w_31), .int (nI w_top)]), (w_code, kI k 1000 u_w_code1), (ta_signs, kB k 1000 ta_signsF), (ta_words, kJ k 23 ta_wordsF)]) ⟨hx, hb, hml, hown, hts⟩ hK hE hP hD hS hA (sX0_operatorAt l D k H.size ta ta_signs ta_words ta_length u_ta_31 u_ta_41 u_ta_51 u_ta_61 u_ta_71 u_ta_81 (by first | omega | assumption | decide) (by first | omega | assumption | decide)) (va_cwS 1 hts gX0_readOver_X0_operatorAt rfl rfl rfl (by decide +kernel) (by rw [hR]; exact ⟨Nat.le_of_ble_eq_true rfl, Nat.le_of_ble_eq_true rfl⟩)) [2] [0, 1, 3, 4] rfl rfl (by decide +kernel) (by decide +kernel) (by decide +kernel) rfl hl.1 rfl (Nat.le_of_ble_eq_true rfl) dX0_readOver_26 (by rw [hR]; exact ⟨Nat.le_of_ble_eq_true rfl, Nat.le_of_ble_eq_true rfl⟩) (fun r5 u5 H locs hw5 hP hD hS => ?_)
               exact by
                try dsimp only at hw5
                have hP : va_P D vwCl [(w, kO 0 [.ref w_code, .ref w_stack, .ref w_facts, .int (nI u_w_31), .int (nI w_top)]), (w_code, kI k 1000 u_w_code1), (ta_signs, kB k 1000 ta_signsF), (ta_words, kJ k 23 ta_wordsF), (ta, kO 6 [.ref ta_signs, .ref ta_words, .int (nI ta_length), .int (nI u_ta_31), .int u_ta_41, .int u_ta_51, .int u_ta_61, .long u_ta_71, .int u_ta_81])] H := hP
                have hD : va_D A [(w, kO 0 [.ref w_code, .ref w_stack, .ref w_facts, .int (nI u_w_31), .int (nI w_top)]), (w_code, kI k 1000 u_w_code1), (ta_signs, kB k 1000 ta_signsF), (ta_words, kJ k 23 ta_wordsF), (ta, kO 6 [.ref ta_signs, .ref ta_words, .int (nI ta_length), .int (nI u_ta_31), .int u_ta_41, .int u_ta_51, .int u_ta_61, .long u_ta_71, .int u_ta_81])] := hD
                have hw5_0 := hw5
                have hZ := bn1_e hw5_0 hZ
                refine lv_istore (lv' := [(6, .int r5), (0, .ref w), (1, .ref ta), (2, .int 5), (3, .int 3), (4, .int 4), (5, .int (nI l5_17))]) hx hb dX0_readOver_29 hl (by decide) rfl (fun ls hl => ?_)
                exact by
                 refine lv_iload hx hb dX0_readOver_31 (lv_at hl 0 rfl) ?_
                 refine kz_Si (As := [.int r5]) (rest := []) (wc := []) (wr := [(w, kO 0 [.ref w_code, .ref w_stack, .ref w_facts, .int (nI u_w_31), .int (nI w_top)]), (w_code, kI k 1000 u_w_code1), (ta_signs, kB k 1000 ta_signsF), (ta_words, kJ k 23 ta_wordsF), (ta, kO 6 [.ref ta_signs, .ref ta_words, .int (nI ta_length), .int (nI u_ta_31), .int u_ta_41, .int u_ta_51, .int u_ta_61, .long u_ta_71, .int u_ta_81])]) ⟨hx, hb, hml, hown, hts⟩ hK hE hP hD hS hA (sX0_tightnessOf l D k H.size r5) (va_cwS 1 hts gX0_readOver_X0_tightnessOf rfl rfl rfl (by decide +kernel) (by rw [hR]; exact ⟨Nat.le_of_ble_eq_true rfl, Nat.le_of_ble_eq_true rfl⟩)) [] [0, 1, 2, 3, 4] rfl rfl (by decide +kernel) (by decide +kernel) (by decide +kernel) rfl hl.1 rfl (Nat.le_of_ble_eq_true rfl) dX0_readOver_33 (by rw [hR]; exact ⟨Nat.le_of_ble_eq_true rfl, Nat.le_of_ble_eq_true rfl⟩) (fun r6 u6 H locs hw6 hP hD hS => ?_)
                 exact by
                  try dsimp only at hw6
                  have hP : va_P D vwCl [(w, kO 0 [.ref w_code, .ref w_stack, .ref w_facts, .int (nI u_w_31), .int (nI w_top)]), (w_code, kI k 1000 u_w_code1), (ta_signs, kB k 1000 ta_signsF), (ta_words, kJ k 23 ta_wordsF), (ta, kO 6 [.ref ta_signs, .ref ta_words, .int (nI ta_length), .int (nI u_ta_31), .int u_ta_41, .int u_ta_51, .int u_ta_61, .long u_ta_71, .int u_ta_81])] H := hP
                  have hD : va_D A [(w, kO 0 [.ref w_code, .ref w_stack, .ref w_facts, .int (nI u_w_31), .int (nI w_top)]), (w_code, kI k 1000 u_w_code1), (ta_signs, kB k 1000 ta_signsF), (ta_words, kJ k 23 ta_wordsF), (ta, kO 6 [.ref ta_signs, .ref ta_words, .int (nI ta_length), .int (nI u_ta_31), .int u_ta_41, .int u_ta_51, .int u_ta_61, .long u_ta_71, .int u_ta_81])] := hD
                  obtain ⟨hw6_0, hw6_1⟩ := hw6
                  have hZ := bn1_e hw6_1 hZ
                  refine lv_istore (lv' := [(7, .int r6), (6, .int r5), (0, .ref w), (1, .ref ta), (2, .int 5), (3, .int 3), (4, .int 4), (5, .int (nI l5_17))]) hx hb dX0_readOver_36 hl (by decide) rfl (fun ls hl => ?_)
                  exact by
                   refine lv_iload hx hb dX0_readOver_38 (lv_at hl 0 rfl) ?_
                   refine lv_iload_n hx hb dX0_readOver_40 rfl (lv_at hl 4 rfl) ?_
                   have hj51_7 : ∀ (H : Heap) (locs : List Loc) (ls : Array Slot), ((fX0_readOver_5_3_J51a u_w_31 u_w_code1 u_ta_31 u_ta_41 u_ta_51 u_ta_61 u_ta_71 u_ta_81) = E0) → va_P D vwCl [(w, kO 0 [.ref w_code, .ref w_stack, .ref w_facts, .int (nI u_w_31), .int (nI w_top)]), (w_code, kI k 1000 u_w_code1), (ta_signs, kB k 1000 ta_signsF), (ta_words, kJ k 23 ta_wordsF), (ta, kO 6 [.ref ta_signs, .ref ta_words, .int (nI ta_length), .int (nI u_ta_31), .int u_ta_41, .int u_ta_51, .int u_ta_61, .long u_ta_71, .int u_ta_81])] H → va_D A [(w, kO 0 [.ref w_code, .ref w_stack, .ref w_facts, .int (nI u_w_31), .int (nI w_top)]), (w_code, kI k 1000 u_w_code1), (ta_signs, kB k 1000 ta_signsF), (ta_words, kJ k 23 ta_wordsF), (ta, kO 6 [.ref ta_signs, .ref ta_words, .int (nI ta_length), .int (nI u_ta_31), .int u_ta_41, .int u_ta_51, .int u_ta_61, .long u_ta_71, .int u_ta_81])] → va_S A s.heap H locs → lv_has ls 8 [(0, .ref w), (1, .ref ta), (2, .int 5), (3, .int 3), (4, .int 4), (5, .int (nI l5_17)), (6, .int r5), (7, .int r6)] → W p l e R s m args below meth c H locs 0 0 Q (F0 m 51 ls []) := by
                     intro H locs ls hZ hP hD hS hl
                     refine lv_iconst (v := 1) hx hb dX0_readOver_51 (by decide) ?_
                     rw [hQ]
                     have hP9 := hP.sub (ws' := [(w, kO 0 [.ref w_code, .ref w_stack, .ref w_facts, .int (nI u_w_31), .int (nI w_top)]), (w_code, kI k 1000 u_w_code1), (ta, kO 6 [.ref ta_signs, .ref ta_words, .int (nI ta_length), .int (nI u_ta_31), .int u_ta_41, .int u_ta_51, .int u_ta_61, .long u_ta_71, .int u_ta_81]), (ta_signs, kB k 1000 ta_signsF), (ta_words, kJ k 23 ta_wordsF)]) [0, 1, 4, 2, 3] rfl
                     have hD9 := hD.sub (ws' := [(w, kO 0 [.ref w_code, .ref w_stack, .ref w_facts, .int (nI u_w_31), .int (nI w_top)]), (w_code, kI k 1000 u_w_code1), (ta, kO 6 [.ref ta_signs, .ref ta_words, .int (nI ta_length), .int (nI u_ta_31), .int u_ta_41, .int u_ta_51, .int u_ta_61, .long u_ta_71, .int u_ta_81]), (ta_signs, kB k 1000 ta_signsF), (ta_words, kJ k 23 ta_wordsF)]) [0, 1, 4, 2, 3] (by decide +kernel) rfl
                     exact W.zret (v := 1) hx hb hr rfl (fun zt ht hW => ⟨⟨1, ⟨u_w_31, u_w_code1, u_ta_31, u_ta_41, u_ta_51, u_ta_61, u_ta_71, u_ta_81, true⟩, rfl, ⟨rfl, (by first | omega | (dsimp only; omega) | assumption), (by first | omega | (dsimp only; omega) | assumption), (hZ.trans hE0)⟩, by rw [ht]; exact hP9, hD9⟩, hS.F ht⟩) hS.2.2 dX0_readOver_52
                   refine lv_icmp_lt (tgt := 51) hx hb dX0_readOver_41 (by decide) (fun c_8 => ?_) (fun c_8 => ?_)
                   · exact by
                      have t_8 : (Int32.toInt r6) < 5 := tI_lt rfl (by decide) c_8
                      have hZ := (if_pos c_8).symm.trans hZ
                      exact hj51_7 _ _ _ hZ (hP.sub [0, 1, 2, 3, 4] rfl) (hD.sub [0, 1, 2, 3, 4] (by decide +kernel) rfl) hS (lv_sub hl [2, 3, 4, 5, 6, 7, 1, 0] rfl)
                   · exact by
                      have t_8 : (Int32.toInt r6) ≥ 5 := tI_nlt rfl (by decide) c_8
                      have hZ := (if_neg c_8).symm.trans hZ
                      refine lv_iload hx hb dX0_readOver_44 (lv_at hl 0 rfl) ?_
                      refine lv_iload hx hb dX0_readOver_46 (lv_at hl 6 rfl) ?_
                      refine lv_icmp_le (tgt := 53) hx hb dX0_readOver_48 (by decide) (fun c_9 => ?_) (fun c_9 => ?_)
                      · exact by
                         have t_9 : (Int32.toInt r6) ≤ 4 := tI_le rfl (by decide) c_9
                         have hZ := (if_pos c_9).symm.trans hZ
                         exfalso; omega
                      · exact by
                         have t_9 : (Int32.toInt r6) > 4 := tI_nle rfl (by decide) c_9
                         have hZ := (if_neg c_9).symm.trans hZ
                         exact hj51_7 _ _ _ hZ (hP.sub [0, 1, 2, 3, 4] rfl) (hD.sub [0, 1, 2, 3, 4] (by decide +kernel) rfl) hS (lv_sub hl [2, 3, 4, 5, 6, 7, 1, 0] rfl)
        exact hloop17 ((1000 + 1 - 0) + 1) 0 _ _ _ (Nat.lt_succ_self _) (by first | omega | assumption) hZ (hP.sub [0, 1, 2, 3, 4] rfl) (hD.sub [0, 1, 2, 3, 4] (by decide +kernel) rfl) hS (lv_sub hl [2, 3, 4, 5, 1, 0] rfl)
   · exact by
      have b_2 : ub1 = false := bB_0 c_2
      have hZ := (if_neg (bF b_2)).symm.trans hZ
      refine lv_iconst (v := 0) hx hb dX0_readOver_9 (by decide) ?_
      rw [hQ]
      have hP9 := hP.sub (ws' := [(w, kO 0 [.ref w_code, .ref w_stack, .ref w_facts, .int (nI u_w_31), .int (nI w_top)]), (w_code, kI k 1000 u_w_code1), (ta, kO 6 [.ref ta_signs, .ref ta_words, .int (nI ta_length), .int (nI u_ta_31), .int u_ta_41, .int u_ta_51, .int u_ta_61, .long u_ta_71, .int u_ta_81]), (ta_signs, kB k 1000 ta_signsF), (ta_words, kJ k 23 ta_wordsF)]) [0, 1, 2, 3, 4] rfl
      have hD9 := hD.sub (ws' := [(w, kO 0 [.ref w_code, .ref w_stack, .ref w_facts, .int (nI u_w_31), .int (nI w_top)]), (w_code, kI k 1000 u_w_code1), (ta, kO 6 [.ref ta_signs, .ref ta_words, .int (nI ta_length), .int (nI u_ta_31), .int u_ta_41, .int u_ta_51, .int u_ta_61, .long u_ta_71, .int u_ta_81]), (ta_signs, kB k 1000 ta_signsF), (ta_words, kJ k 23 ta_wordsF)]) [0, 1, 2, 3, 4] (by decide +kernel) rfl
      exact W.zret (v := 0) hx hb hr rfl (fun zt ht hW => ⟨⟨0, ⟨u_w_31, u_w_code1, u_ta_31, u_ta_41, u_ta_51, u_ta_61, u_ta_71, u_ta_81, false⟩, rfl, ⟨rfl, (by first | omega | (dsimp only; omega) | assumption), (by first | omega | (dsimp only; omega) | assumption), (hZ.trans hE0)⟩, by rw [ht]; exact hP9, hD9⟩, hS.F ht⟩) hS.2.2 dX0_readOver_10
set_option maxHeartbeats 4000000 in
set_option maxRecDepth 100000 in
theorem sX0_readOver_4_3 (l : Launch) (D : va_G) (k : Nat → ClassId) (a0 sa sv : Nat) (f : Nat → Int32) (sz : Nat) (w : Nat) (ta : Nat) (w_code : Nat) (w_stack : Nat) (w_facts : Nat) (w_length : Nat) (w_top : Nat) (w_codeF : Nat → Int32) (ta_signs : Nat) (ta_words : Nat) (ta_length : Nat) (ta_next : Nat) (ta_place : Int32) (ta_kind : Int32) (ta_value : Int32) (ta_letters : Int64) (ta_fault : Int32) (ta_signsF : Nat → Int32) (ta_wordsF : Nat → Int64) (h_w_length : w_length ≤ 1000) (h_w_top : w_top ≤ 24) (h_ta_length : ta_length ≤ 1000) (h_ta_next : ta_next ≤ 1000) : Met l yX0_readOver wsX0_readOver ({ frames := 17, cells := 0, slots := 0, locals := 1190 }) (va_Pc [.ref w, .ref ta, .int 4, .int 3] (kz_PreY D k [(w, kO 0 [.ref w_code, .ref w_stack, .ref w_facts, .int (nI w_length), .int (nI w_top)]), (w_code, kI k 1000 w_codeF), (ta, kO 6 [.ref ta_signs, .ref ta_words, .int (nI ta_length), .int (nI ta_next), .int ta_place, .int ta_kind, .int ta_value, .long ta_letters, .int ta_fault]), (ta_signs, kB k 1000 ta_signsF), (ta_words, kJ k 23 ta_wordsF)] a0 sa sv f sz)) (va_Qi (fun (rr : Int32) (uu : Nat × (Nat → Int32) × Nat × Int32 × Int32 × Int32 × Int64 × Int32 × Bool) => rr = bB uu.2.2.2.2.2.2.2.2 ∧ (uu.1 ≤ 1000) ∧ (uu.2.2.1 ≤ 1000) ∧ ((uu.1, uu.2.1, uu.2.2.1, uu.2.2.2.1, uu.2.2.2.2.1, uu.2.2.2.2.2.1, uu.2.2.2.2.2.2.1, uu.2.2.2.2.2.2.2.1, uu.2.2.2.2.2.2.2.2) = (fX0_readOver_4_3 w_length w_codeF ta_length ta_next ta_place ta_kind ta_value ta_letters ta_fault ta_signsF ta_wordsF f))) (fun uu zt => kz_B D (va_A [(w, kO 0 [.ref w_code, .ref w_stack, .ref w_facts, .int (nI w_length), .int (nI w_top)]), (w_code, kI k 1000 w_codeF), (ta, kO 6 [.ref ta_signs, .ref ta_words, .int (nI ta_length), .int (nI ta_next), .int ta_place, .int ta_kind, .int ta_value, .long ta_letters, .int ta_fault]), (ta_signs, kB k 1000 ta_signsF), (ta_words, kJ k 23 ta_wordsF)] sz) [(w, kO 0 [.ref w_code, .ref w_stack, .ref w_facts, .int (nI uu.1), .int (nI w_top)]), (w_code, kI k 1000 uu.2.1), (ta, kO 6 [.ref ta_signs, .ref ta_words, .int (nI ta_length), .int (nI uu.2.2.1), .int uu.2.2.2.1, .int uu.2.2.2.2.1, .int uu.2.2.2.2.2.1, .long uu.2.2.2.2.2.2.1, .int uu.2.2.2.2.2.2.2.1]), (ta_signs, kB k 1000 ta_signsF), (ta_words, kJ k 23 ta_wordsF)] zt) (va_A [(w, kO 0 [.ref w_code, .ref w_stack, .ref w_facts, .int (nI w_length), .int (nI w_top)]), (w_code, kI k 1000 w_codeF), (ta, kO 6 [.ref ta_signs, .ref ta_words, .int (nI ta_length), .int (nI ta_next), .int ta_place, .int ta_kind, .int ta_value, .long ta_letters, .int ta_fault]), (ta_signs, kB k 1000 ta_signsF), (ta_words, kJ k 23 ta_wordsF)] sz)) 0 0 (va_A [(w, kO 0 [.ref w_code, .ref w_stack, .ref w_facts, .int (nI w_length), .int (nI w_top)]), (w_code, kI k 1000 w_codeF), (ta, kO 6 [.ref ta_signs, .ref ta_words, .int (nI ta_length), .int (nI ta_next), .int ta_place, .int ta_kind, .int ta_value, .long ta_letters, .int ta_fault]), (ta_signs, kB k 1000 ta_signsF), (ta_words, kJ k 23 ta_wordsF)] sz) := by
  refine Met.ofW (cc := cX0_readOver) (maxL := 8) (ret := (some .boolean)) (by decide) rfl ?_
  intro p e s m args below meth c s₁ B hml hv
  obtain ⟨hav, ⟨hsz, hP, hK, hD0, hE⟩, ha0, hDa, hX⟩ := hv
  have hx := B.exec
  have hb := B.bytes
  have hr := B.returns
  have hts := atoms_spec (ws := wsX0_readOver) B.pre
  have hown : s.vm.findClass RX0 = some m.cls := findClass_of_methodNamed B.named
  have hlocks := B.notSynchronized
  subst hsz
  have hD := hD0.self (sz := s.heap.size)
  generalize hAe : va_A [(w, kO 0 [.ref w_code, .ref w_stack, .ref w_facts, .int (nI w_length), .int (nI w_top)]), (w_code, kI k 1000 w_codeF), (ta, kO 6 [.ref ta_signs, .ref ta_words, .int (nI ta_length), .int (nI ta_next), .int ta_place, .int ta_kind, .int ta_value, .long ta_letters, .int ta_fault]), (ta_signs, kB k 1000 ta_signsF), (ta_words, kJ k 23 ta_wordsF)] s.heap.size = A at hD ⊢
  have hA : ∀ q : Nat, s.heap.size ≤ q → A q := fun q h => by rw [← hAe]; exact Or.inr h
  have hAX : ∀ q, A q → a0 ≤ q := fun q h => by rw [← hAe] at h; exact h.elim (fun ⟨k9, e9, h9⟩ => hDa.2 k9 _ h9) (fun e => Nat.le_trans ha0 e)
  obtain ⟨tx71, hR71⟩ := hX.1
  have hS : va_S A s.heap s.heap [] := va_S.rf
  have hl := lv_entry ([.ref w, .ref ta, .int 4, .int 3]) (n := 8) (Nat.le_of_ble_eq_true rfl)
  rw [show entryFrame m args 8 = entryFrame m ([.ref w, .ref ta, .int 4, .int 3] : List Value).toArray 8 by rw [hav], lg_entry_eq]
  generalize (lg_sl ([.ref w, .ref ta, .int 4, .int 3]) ++ List.replicate (8 - (lg_sl ([.ref w, .ref ta, .int 4, .int 3])).length) Slot.unset).toArray = ls at hl ⊢
  have hl : lv_has ls 8 [(0, .ref w), (1, .ref ta), (2, .int 4), (3, .int 3)] := hl
  obtain ⟨R, hR⟩ : ∃ R, R = (headSpec wsX0_readOver ({ frames := 17, cells := 0, slots := 0, locals := 1190 } : Room)).room := ⟨_, rfl⟩
  rw [← hR]
  generalize hQ : MQ below _ args s 0 0 A = Q
  replace hQ := hQ.symm
  obtain ⟨H, hH⟩ : ∃ H, H = s.heap := ⟨_, rfl⟩
  rw [← hH] at hP ⊢
  have hS : va_S A s.heap H [] := by rw [hH]; exact hS
  obtain ⟨E0, hE0⟩ : ∃ E0 : Nat × (Nat → Int32) × Nat × Int32 × Int32 × Int32 × Int64 × Int32 × Bool, E0 = (fX0_readOver_4_3 w_length w_codeF ta_length ta_next ta_place ta_kind ta_value ta_letters ta_fault ta_signsF ta_wordsF f) := ⟨_, rfl⟩
  have hZ : (fX0_readOver_4_3 w_length w_codeF ta_length ta_next ta_place ta_kind ta_value ta_letters ta_fault ta_signsF ta_wordsF f) = E0 := hE0.symm
  refine lv_aload_n hx hb dX0_readOver_0 rfl (lv_at hl 0 rfl) ?_
  refine lv_aload_n hx hb dX0_readOver_1 rfl (lv_at hl 1 rfl) ?_
  refine lv_iload_n hx hb dX0_readOver_2 rfl (lv_at hl 3 rfl) ?_
  refine kz_ViY (As := [.ref ta, .int 3]) (rest := []) (wc := [(w, kO 0 [.ref w_code, .ref w_stack, .ref w_facts, .int (nI w_length), .int (nI w_top)]), (w_code, kI k 1000 w_codeF), (ta, kO 6 [.ref ta_signs, .ref ta_words, .int (nI ta_length), .int (nI ta_next), .int ta_place, .int ta_kind, .int ta_value, .long ta_letters, .int ta_fault]), (ta_signs, kB k 1000 ta_signsF), (ta_words, kJ k 23 ta_wordsF)]) (wr := []) ⟨hx, hb, hml, hown, hts⟩ hX hAX ha0 hK hE hP hD hS hA (sX0_readPart_3 l D k a0 sa sv f H.size w ta w_code w_stack w_facts w_length w_top w_codeF ta_signs ta_words ta_length ta_next ta_place ta_kind ta_value ta_letters ta_fault ta_signsF ta_wordsF (by first | omega | assumption | decide) (by first | omega | assumption | decide) (by first | omega | assumption | decide) (by first | omega | assumption | decide)) (cwV 2 hts gX0_readOver_X0_readPart rfl rfl rfl (by decide +kernel) (by rw [hR]; exact ⟨Nat.le_of_ble_eq_true rfl, Nat.le_of_ble_eq_true rfl⟩)) [0, 1, 2, 3, 4] [] rfl rfl (by decide +kernel) (by decide +kernel) (by decide +kernel) 0 rfl rfl rfl hl.1 rfl (Nat.le_of_ble_eq_true rfl) dX0_readOver_3 (by rw [hR]; exact ⟨Nat.le_of_ble_eq_true rfl, Nat.le_of_ble_eq_true rfl⟩) (fun r1 u1 H locs hw1 hP hD hS => ?_)
  exact by
   obtain ⟨u_w_31, u_w_code1, u_ta_31, u_ta_41, u_ta_51, u_ta_61, u_ta_71, u_ta_81, ub1⟩ := u1
   try dsimp only at hw1
   obtain ⟨rfl, hw1⟩ := hw1
   have hP : va_P D vwCl [(w, kO 0 [.ref w_code, .ref w_stack, .ref w_facts, .int (nI u_w_31), .int (nI w_top)]), (w_code, kI k 1000 u_w_code1), (ta, kO 6 [.ref ta_signs, .ref ta_words, .int (nI ta_length), .int (nI u_ta_31), .int u_ta_41, .int u_ta_51, .int u_ta_61, .long u_ta_71, .int u_ta_81]), (ta_signs, kB k 1000 ta_signsF), (ta_words, kJ k 23 ta_wordsF)] H := hP
   have hD : va_D A [(w, kO 0 [.ref w_code, .ref w_stack, .ref w_facts, .int (nI u_w_31), .int (nI w_top)]), (w_code, kI k 1000 u_w_code1), (ta, kO 6 [.ref ta_signs, .ref ta_words, .int (nI ta_length), .int (nI u_ta_31), .int u_ta_41, .int u_ta_51, .int u_ta_61, .long u_ta_71, .int u_ta_81]), (ta_signs, kB k 1000 ta_signsF), (ta_words, kJ k 23 ta_wordsF)] := hD
   obtain ⟨hw1_0, hw1_1, hw1_2⟩ := hw1
   have hZ := bn9_e hw1_2 hZ
   refine lv_if_ne (tgt := 11) hx hb dX0_readOver_6 (by decide) (fun c_2 => ?_) (fun c_2 => ?_)
   · exact by
      have b_2 : ub1 = true := bB_1 c_2
      have hZ := (if_pos b_2).symm.trans hZ
      refine lv_iconst (v := 4) hx hb dX0_readOver_11 (by decide) ?_
      refine lv_istore (lv' := [(4, .int 4), (0, .ref w), (1, .ref ta), (2, .int 4), (3, .int 3)]) hx hb dX0_readOver_12 hl (by decide) rfl (fun ls hl => ?_)
      exact by
       refine lv_iconst (v := 0) hx hb dX0_readOver_14 (by decide) ?_
       refine lv_istore (lv' := [(5, .int 0), (4, .int 4), (0, .ref w), (1, .ref ta), (2, .int 4), (3, .int 3)]) hx hb dX0_readOver_15 hl (by decide) rfl (fun ls hl => ?_)
       exact by
        have hloop17 : ∀ (nq : Nat) (l4_17 : Int32) (l5_17 : Nat) (fw_3_17 : Nat) (aw_code_17 : Nat → Int32) (fta_3_17 : Nat) (fta_4_17 : Int32) (fta_5_17 : Int32) (fta_6_17 : Int32) (fta_7_17 : Int64) (fta_8_17 : Int32) (H : Heap) (locs : List Loc) (ls : Array Slot), (1000 + 1 - l5_17) < nq → (l5_17 ≤ 1000) → (fw_3_17 ≤ 1000) → (fta_3_17 ≤ 1000) → (lp (fun _ _ _ _ _ _ _ _ _ _ => (0, (fun _ => 0), 0, (0 : Int32), (0 : Int32), (0 : Int32), (0 : Int64), (0 : Int32), false)) (fX0_readOver_4_3_B17a ta_length ta_signsF ta_wordsF f) nq l4_17 l5_17 fw_3_17 aw_code_17 fta_3_17 fta_4_17 fta_5_17 fta_6_17 fta_7_17 fta_8_17 = E0) → va_P D vwCl [(w, kO 0 [.ref w_code, .ref w_stack, .ref w_facts, .int (nI fw_3_17), .int (nI w_top)]), (w_code, kI k 1000 aw_code_17), (ta, kO 6 [.ref ta_signs, .ref ta_words, .int (nI ta_length), .int (nI fta_3_17), .int fta_4_17, .int fta_5_17, .int fta_6_17, .long fta_7_17, .int fta_8_17]), (ta_signs, kB k 1000 ta_signsF), (ta_words, kJ k 23 ta_wordsF)] H → va_D A [(w, kO 0 [.ref w_code, .ref w_stack, .ref w_facts, .int (nI fw_3_17), .int (nI w_top)]), (w_code, kI k 1000 aw_code_17), (ta, kO 6 [.ref ta_signs, .ref ta_words, .int (nI ta_length), .int (nI fta_3_17), .int fta_4_17, .int fta_5_17, .int fta_6_17, .long fta_7_17, .int fta_8_17]), (ta_signs, kB k 1000 ta_signsF), (ta_words, kJ k 23 ta_wordsF)] → va_S A s.heap H locs → lv_has ls 8 [(0, .ref w), (1, .ref ta), (2, .int 4), (3, .int 3), (4, .int l4_17), (5, .int (nI l5_17))] → W p l e R s m args below meth c H locs 0 0 Q (F0 m 17 ls []) := by
          intro n17
          induction n17 with
          | zero => intro l4_17 l5_17 fw_3_17 aw_code_17 fta_3_17 fta_4_17 fta_5_17 fta_6_17 fta_7_17 fta_8_17 H locs ls hm; exact absurd hm (Nat.not_lt_zero _)
          | succ n17 ih17 =>
            intro l4_17 l5_17 fw_3_17 aw_code_17 fta_3_17 fta_4_17 fta_5_17 fta_6_17 fta_7_17 fta_8_17 H locs ls hm17 i_l5_17 i_fw_3_17 i_fta_3_17 hZ hP hD hS hl
            obtain ⟨rc17_3, hrc17_3⟩ : ∃ r : Int32 → Nat → Nat → (Nat → Int32) → Nat → Int32 → Int32 → Int32 → Int64 → Int32 → Nat × (Nat → Int32) × Nat × Int32 × Int32 × Int32 × Int64 × Int32 × Bool, r = lp (fun _ _ _ _ _ _ _ _ _ _ => (0, (fun _ => 0), 0, (0 : Int32), (0 : Int32), (0 : Int32), (0 : Int64), (0 : Int32), false)) (fX0_readOver_4_3_B17a ta_length ta_signsF ta_wordsF f) n17 := ⟨_, rfl⟩
            have hZ : (fX0_readOver_4_3_B17a ta_length ta_signsF ta_wordsF f) rc17_3 l4_17 l5_17 fw_3_17 aw_code_17 fta_3_17 fta_4_17 fta_5_17 fta_6_17 fta_7_17 fta_8_17 = E0 := by rw [hrc17_3]; exact hZ
            refine lv_iload hx hb dX0_readOver_17 (lv_at hl 5 rfl) ?_
            refine lv_sipush (v := 1000) hx hb dX0_readOver_19 (by decide) ?_
            refine lv_icmp_ge (tgt := 101) hx hb dX0_readOver_22 (by decide) (fun c_4 => ?_) (fun c_4 => ?_)
            · exact by
               have k_4 : 1000 ≤ l5_17 := (nI_leI (a := 1000) (b := l5_17) (by omega) (by omega)).mp c_4
               have hZ := (if_pos k_4).symm.trans hZ
               refine lv_iconst (v := 1) hx hb dX0_readOver_101 (by decide) ?_
               rw [hQ]
               have hP9 := hP.sub (ws' := [(w, kO 0 [.ref w_code, .ref w_stack, .ref w_facts, .int (nI fw_3_17), .int (nI w_top)]), (w_code, kI k 1000 aw_code_17), (ta, kO 6 [.ref ta_signs, .ref ta_words, .int (nI ta_length), .int (nI fta_3_17), .int fta_4_17, .int fta_5_17, .int fta_6_17, .long fta_7_17, .int fta_8_17]), (ta_signs, kB k 1000 ta_signsF), (ta_words, kJ k 23 ta_wordsF)]) [0, 1, 2, 3, 4] rfl
               have hD9 := hD.sub (ws' := [(w, kO 0 [.ref w_code, .ref w_stack, .ref w_facts, .int (nI fw_3_17), .int (nI w_top)]), (w_code, kI k 1000 aw_code_17), (ta, kO 6 [.ref ta_signs, .ref ta_words, .int (nI ta_length), .int (nI fta_3_17), .int fta_4_17, .int fta_5_17, .int fta_6_17, .long fta_7_17, .int fta_8_17]), (ta_signs, kB k 1000 ta_signsF), (ta_words, kJ k 23 ta_wordsF)]) [0, 1, 2, 3, 4] (by decide +kernel) rfl
               exact W.zret (v := 1) hx hb hr rfl (fun zt ht hW => ⟨⟨1, ⟨fw_3_17, aw_code_17, fta_3_17, fta_4_17, fta_5_17, fta_6_17, fta_7_17, fta_8_17, true⟩, rfl, ⟨rfl, (by first | omega | (dsimp only; omega) | assumption), (by first | omega | (dsimp only; omega) | assumption), (hZ.trans hE0)⟩, by rw [ht]; exact hP9, hD9⟩, hS.F ht⟩) hS.2.2 dX0_readOver_102
            · exact by
               have k_4 : ¬ (1000 ≤ l5_17) := fun h => c_4 ((nI_leI (a := 1000) (b := l5_17) (by omega) (by omega)).mpr h)
               have hZ := (if_neg k_4).symm.trans hZ
               refine lv_aload_n hx hb dX0_readOver_25 rfl (lv_at hl 1 rfl) ?_
               refine kz_Si (As := [.ref ta]) (rest := []) (wc := [(ta, kO 6 [.ref ta_signs, .ref ta_words, .int (nI ta_length), .int (nI fta_3_17), .int fta_4_17, .int fta_5_17, .int fta_6_17, .long fta_7_17, .int fta_8_17])]) (wr := [(w, kO 0 [.ref w_code, .ref w_stack, .ref w_facts, .int (nI fw_3_17), .int (nI w_top)]), (w_code, kI k 1000 aw_code_17), (ta_signs, kB k 1000 ta_signsF), (ta_words, kJ k 23 ta_wordsF)]) ⟨hx, hb, hml, hown, hts⟩ hK hE hP hD hS hA (sX0_operatorAt l D k H.size ta ta_signs ta_words ta_length fta_3_17 fta_4_17 fta_5_17 fta_6_17 fta_7_17 fta_8_17 (by first | omega | assumption | decide) (by first | omega | assumption | decide)) (va_cwS 1 hts gX0_readOver_X0_operatorAt rfl rfl rfl (by decide +kernel) (by rw [hR]; exact ⟨Nat.le_of_ble_eq_true rfl, Nat.le_of_ble_eq_true rfl⟩)) [2] [0, 1, 3, 4] rfl rfl (by decide +kernel) (by decide +kernel) (by decide +kernel) rfl hl.1 rfl (Nat.le_of_ble_eq_true rfl) dX0_readOver_26 (by rw [hR]; exact ⟨Nat.le_of_ble_eq_true rfl, Nat.le_of_ble_eq_true rfl⟩) (fun r5 u5 H locs hw5 hP hD hS => ?_)
               exact by
                try dsimp only at hw5
                have hP : va_P D vwCl [(w, kO 0 [.ref w_code, .ref w_stack, .ref w_facts, .int (nI fw_3_17), .int (nI w_top)]), (w_code, kI k 1000 aw_code_17), (ta_signs, kB k 1000 ta_signsF), (ta_words, kJ k 23 ta_wordsF), (ta, kO 6 [.ref ta_signs, .ref ta_words, .int (nI ta_length), .int (nI fta_3_17), .int fta_4_17, .int fta_5_17, .int fta_6_17, .long fta_7_17, .int fta_8_17])] H := hP
                have hD : va_D A [(w, kO 0 [.ref w_code, .ref w_stack, .ref w_facts, .int (nI fw_3_17), .int (nI w_top)]), (w_code, kI k 1000 aw_code_17), (ta_signs, kB k 1000 ta_signsF), (ta_words, kJ k 23 ta_wordsF), (ta, kO 6 [.ref ta_signs, .ref ta_words, .int (nI ta_length), .int (nI fta_3_17), .int fta_4_17, .int fta_5_17, .int fta_6_17, .long fta_7_17, .int fta_8_17])] := hD
                have hw5_0 := hw5
                have hZ := bn1_e hw5_0 hZ
                refine lv_istore (lv' := [(6, .int r5), (0, .ref w), (1, .ref ta), (2, .int 4), (3, .int 3), (4, .int l4_17), (5, .int (nI l5_17))]) hx hb dX0_readOver_29 hl (by decide) rfl (fun ls hl => ?_)
                exact by
                 refine lv_iload hx hb dX0_readOver_31 (lv_at hl 0 rfl) ?_
                 refine kz_Si (As := [.int r5]) (rest := []) (wc := []) (wr := [(w, kO 0 [.ref w_code, .ref w_stack, .ref w_facts, .int (nI fw_3_17), .int (nI w_top)]), (w_code, kI k 1000 aw_code_17), (ta_signs, kB k 1000 ta_signsF), (ta_words, kJ k 23 ta_wordsF), (ta, kO 6 [.ref ta_signs, .ref ta_words, .int (nI ta_length), .int (nI fta_3_17), .int fta_4_17, .int fta_5_17, .int fta_6_17, .long fta_7_17, .int fta_8_17])]) ⟨hx, hb, hml, hown, hts⟩ hK hE hP hD hS hA (sX0_tightnessOf l D k H.size r5) (va_cwS 1 hts gX0_readOver_X0_tightnessOf rfl rfl rfl (by decide +kernel) (by rw [hR]; exact ⟨Nat.le_of_ble_eq_true rfl, Nat.le_of_ble_eq_true rfl⟩)) [] [0, 1, 2, 3, 4] rfl rfl (by decide +kernel) (by decide +kernel) (by decide +kernel) rfl hl.1 rfl (Nat.le_of_ble_eq_true rfl) dX0_readOver_33 (by rw [hR]; exact ⟨Nat.le_of_ble_eq_true rfl, Nat.le_of_ble_eq_true rfl⟩) (fun r6 u6 H locs hw6 hP hD hS => ?_)
                 exact by
                  try dsimp only at hw6
                  have hP : va_P D vwCl [(w, kO 0 [.ref w_code, .ref w_stack, .ref w_facts, .int (nI fw_3_17), .int (nI w_top)]), (w_code, kI k 1000 aw_code_17), (ta_signs, kB k 1000 ta_signsF), (ta_words, kJ k 23 ta_wordsF), (ta, kO 6 [.ref ta_signs, .ref ta_words, .int (nI ta_length), .int (nI fta_3_17), .int fta_4_17, .int fta_5_17, .int fta_6_17, .long fta_7_17, .int fta_8_17])] H := hP
                  have hD : va_D A [(w, kO 0 [.ref w_code, .ref w_stack, .ref w_facts, .int (nI fw_3_17), .int (nI w_top)]), (w_code, kI k 1000 aw_code_17), (ta_signs, kB k 1000 ta_signsF), (ta_words, kJ k 23 ta_wordsF), (ta, kO 6 [.ref ta_signs, .ref ta_words, .int (nI ta_length), .int (nI fta_3_17), .int fta_4_17, .int fta_5_17, .int fta_6_17, .long fta_7_17, .int fta_8_17])] := hD
                  obtain ⟨hw6_0, hw6_1⟩ := hw6
                  have hZ := bn1_e hw6_1 hZ
                  refine lv_istore (lv' := [(7, .int r6), (6, .int r5), (0, .ref w), (1, .ref ta), (2, .int 4), (3, .int 3), (4, .int l4_17), (5, .int (nI l5_17))]) hx hb dX0_readOver_36 hl (by decide) rfl (fun ls hl => ?_)
                  exact by
                   refine lv_iload hx hb dX0_readOver_38 (lv_at hl 0 rfl) ?_
                   refine lv_iload_n hx hb dX0_readOver_40 rfl (lv_at hl 4 rfl) ?_
                   have hj51_7 : ∀ (H : Heap) (locs : List Loc) (ls : Array Slot), ((fX0_readOver_4_3_J51a fw_3_17 aw_code_17 fta_3_17 fta_4_17 fta_5_17 fta_6_17 fta_7_17 fta_8_17) = E0) → va_P D vwCl [(w, kO 0 [.ref w_code, .ref w_stack, .ref w_facts, .int (nI fw_3_17), .int (nI w_top)]), (w_code, kI k 1000 aw_code_17), (ta_signs, kB k 1000 ta_signsF), (ta_words, kJ k 23 ta_wordsF), (ta, kO 6 [.ref ta_signs, .ref ta_words, .int (nI ta_length), .int (nI fta_3_17), .int fta_4_17, .int fta_5_17, .int fta_6_17, .long fta_7_17, .int fta_8_17])] H → va_D A [(w, kO 0 [.ref w_code, .ref w_stack, .ref w_facts, .int (nI fw_3_17), .int (nI w_top)]), (w_code, kI k 1000 aw_code_17), (ta_signs, kB k 1000 ta_signsF), (ta_words, kJ k 23 ta_wordsF), (ta, kO 6 [.ref ta_signs, .ref ta_words, .int (nI ta_length), .int (nI fta_3_17), .int fta_4_17, .int fta_5_17, .int fta_6_17, .long fta_7_17, .int fta_8_17])] → va_S A s.heap H locs → lv_has ls 8 [(0, .ref w), (1, .ref ta), (2, .int 4), (3, .int 3), (4, .int l4_17), (5, .int (nI l5_17)), (6, .int r5), (7, .int r6)] → W p l e R s m args below meth c H locs 0 0 Q (F0 m 51 ls []) := by
                     intro H locs ls hZ hP hD hS hl
                     refine lv_iconst (v := 1) hx hb dX0_readOver_51 (by decide) ?_
                     rw [hQ]
                     have hP9 := hP.sub (ws' := [(w, kO 0 [.ref w_code, .ref w_stack, .ref w_facts, .int (nI fw_3_17), .int (nI w_top)]), (w_code, kI k 1000 aw_code_17), (ta, kO 6 [.ref ta_signs, .ref ta_words, .int (nI ta_length), .int (nI fta_3_17), .int fta_4_17, .int fta_5_17, .int fta_6_17, .long fta_7_17, .int fta_8_17]), (ta_signs, kB k 1000 ta_signsF), (ta_words, kJ k 23 ta_wordsF)]) [0, 1, 4, 2, 3] rfl
                     have hD9 := hD.sub (ws' := [(w, kO 0 [.ref w_code, .ref w_stack, .ref w_facts, .int (nI fw_3_17), .int (nI w_top)]), (w_code, kI k 1000 aw_code_17), (ta, kO 6 [.ref ta_signs, .ref ta_words, .int (nI ta_length), .int (nI fta_3_17), .int fta_4_17, .int fta_5_17, .int fta_6_17, .long fta_7_17, .int fta_8_17]), (ta_signs, kB k 1000 ta_signsF), (ta_words, kJ k 23 ta_wordsF)]) [0, 1, 4, 2, 3] (by decide +kernel) rfl
                     exact W.zret (v := 1) hx hb hr rfl (fun zt ht hW => ⟨⟨1, ⟨fw_3_17, aw_code_17, fta_3_17, fta_4_17, fta_5_17, fta_6_17, fta_7_17, fta_8_17, true⟩, rfl, ⟨rfl, (by first | omega | (dsimp only; omega) | assumption), (by first | omega | (dsimp only; omega) | assumption), (hZ.trans hE0)⟩, by rw [ht]; exact hP9, hD9⟩, hS.F ht⟩) hS.2.2 dX0_readOver_52
                   refine lv_icmp_lt (tgt := 51) hx hb dX0_readOver_41 (by decide) (fun c_8 => ?_) (fun c_8 => ?_)
                   · exact by
                      have t_8 : (Int32.toInt r6) < 4 := tI_lt rfl (by decide) c_8
                      have hZ := (if_pos c_8).symm.trans hZ
                      exact hj51_7 _ _ _ hZ (hP.sub [0, 1, 2, 3, 4] rfl) (hD.sub [0, 1, 2, 3, 4] (by decide +kernel) rfl) hS (lv_sub hl [2, 3, 4, 5, 6, 7, 1, 0] rfl)
                   · exact by
                      have t_8 : (Int32.toInt r6) ≥ 4 := tI_nlt rfl (by decide) c_8
                      have hZ := (if_neg c_8).symm.trans hZ
                      refine lv_iload hx hb dX0_readOver_44 (lv_at hl 0 rfl) ?_
                      refine lv_iload hx hb dX0_readOver_46 (lv_at hl 6 rfl) ?_
                      refine lv_icmp_le (tgt := 53) hx hb dX0_readOver_48 (by decide) (fun c_9 => ?_) (fun c_9 => ?_)
                      · exact by
                         have t_9 : (Int32.toInt r6) ≤ (Int32.toInt l4_17) := tI_le rfl rfl c_9
                         have hZ := (if_pos c_9).symm.trans hZ
                         have cs10 : Int32.toInt r6 = 4 := by omega
                         have hZ9 := hZ
                         rcases cs10 with cs10
                         · obtain rfl : r6 = 4 := Int32.toInt_inj.mp (cs10.trans (by decide))
                           have hZ := hZ9
                           refine lv_aload_n hx hb dX0_readOver_53 rfl (lv_at hl 3 rfl) ?_
                           refine kz_VvY (As := []) (rest := []) (wc := [(ta, kO 6 [.ref ta_signs, .ref ta_words, .int (nI ta_length), .int (nI fta_3_17), .int fta_4_17, .int fta_5_17, .int fta_6_17, .long fta_7_17, .int fta_8_17]), (ta_signs, kB k 1000 ta_signsF), (ta_words, kJ k 23 ta_wordsF)]) (wr := [(w, kO 0 [.ref w_code, .ref w_stack, .ref w_facts, .int (nI fw_3_17), .int (nI w_top)]), (w_code, kI k 1000 aw_code_17)]) ⟨hx, hb, hml, hown, hts⟩ hX hAX ha0 hK hE hP hD hS hA (sX6_advance l D k a0 sa sv f H.size ta ta_signs ta_words ta_length fta_3_17 fta_4_17 fta_5_17 fta_6_17 fta_7_17 fta_8_17 ta_signsF ta_wordsF (by first | omega | assumption | decide) (by first | omega | assumption | decide)) (cwV 0 hts gX0_readOver_X6_advance rfl rfl rfl (by decide +kernel) (by rw [hR]; exact ⟨Nat.le_of_ble_eq_true rfl, Nat.le_of_ble_eq_true rfl⟩)) [4, 2, 3] [0, 1] rfl rfl (by decide +kernel) (by decide +kernel) (by decide +kernel) 0 rfl rfl rfl hl.1 rfl (Nat.le_of_ble_eq_true rfl) dX0_readOver_54 (by rw [hR]; exact ⟨Nat.le_of_ble_eq_true rfl, Nat.le_of_ble_eq_true rfl⟩) (fun u12 H locs hw12 hP hD hS => ?_)
                           exact by
                            obtain ⟨u_ta_312, u_ta_412, u_ta_512, u_ta_612, u_ta_712⟩ := u12
                            try dsimp only at hw12
                            have hP : va_P D vwCl [(w, kO 0 [.ref w_code, .ref w_stack, .ref w_facts, .int (nI fw_3_17), .int (nI w_top)]), (w_code, kI k 1000 aw_code_17), (ta, kO 6 [.ref ta_signs, .ref ta_words, .int (nI ta_length), .int (nI u_ta_312), .int u_ta_412, .int u_ta_512, .int u_ta_612, .long u_ta_712, .int fta_8_17]), (ta_signs, kB k 1000 ta_signsF), (ta_words, kJ k 23 ta_wordsF)] H := hP
                            have hD : va_D A [(w, kO 0 [.ref w_code, .ref w_stack, .ref w_facts, .int (nI fw_3_17), .int (nI w_top)]), (w_code, kI k 1000 aw_code_17), (ta, kO 6 [.ref ta_signs, .ref ta_words, .int (nI ta_length), .int (nI u_ta_312), .int u_ta_412, .int u_ta_512, .int u_ta_612, .long u_ta_712, .int fta_8_17]), (ta_signs, kB k 1000 ta_signsF), (ta_words, kJ k 23 ta_wordsF)] := hD
                            obtain ⟨hw12_0, hw12_1⟩ := hw12
                            have hZ := bn5_e hw12_1 hZ
                            refine lv_aload_n hx hb dX0_readOver_57 rfl (lv_at hl 2 rfl) ?_
                            refine lv_aload_n hx hb dX0_readOver_58 rfl (lv_at hl 3 rfl) ?_
                            refine lv_iload hx hb dX0_readOver_59 (lv_at hl 0 rfl) ?_
                            refine lv_iconst (v := 1) hx hb dX0_readOver_61 (by decide) ?_
                            refine lv_iadd hx hb dX0_readOver_62 ?_
                            refine lv_topi (fun x13 ex13 => ?_)
                            exact by
                             obtain rfl : x13 = 5 := ex13.trans (by decide)
                             refine lv_iload_n hx hb dX0_readOver_63 rfl (lv_at hl 5 rfl) ?_
                             refine kz_ViY (As := [.ref ta, .int 5, .int 3]) (rest := []) (wc := [(w, kO 0 [.ref w_code, .ref w_stack, .ref w_facts, .int (nI fw_3_17), .int (nI w_top)]), (w_code, kI k 1000 aw_code_17), (ta, kO 6 [.ref ta_signs, .ref ta_words, .int (nI ta_length), .int (nI u_ta_312), .int u_ta_412, .int u_ta_512, .int u_ta_612, .long u_ta_712, .int fta_8_17]), (ta_signs, kB k 1000 ta_signsF), (ta_words, kJ k 23 ta_wordsF)]) (wr := []) ⟨hx, hb, hml, hown, hts⟩ hX hAX ha0 hK hE hP hD hS hA (sX0_readOver_5_3 l D k a0 sa sv f H.size w ta w_code w_stack w_facts fw_3_17 w_top aw_code_17 ta_signs ta_words ta_length u_ta_312 u_ta_412 u_ta_512 u_ta_612 u_ta_712 fta_8_17 ta_signsF ta_wordsF (by first | omega | assumption | decide) (by first | omega | assumption | decide) (by first | omega | assumption | decide) (by first | omega | assumption | decide)) (cwV 3 hts gX0_readOver_X0_readOver rfl rfl rfl (by decide +kernel) (by rw [hR]; exact ⟨Nat.le_of_ble_eq_true rfl, Nat.le_of_ble_eq_true rfl⟩)) [0, 1, 2, 3, 4] [] rfl rfl (by decide +kernel) (by decide +kernel) (by decide +kernel) 0 rfl rfl rfl hl.1 rfl (Nat.le_of_ble_eq_true rfl) dX0_readOver_64 (by rw [hR]; exact ⟨Nat.le_of_ble_eq_true rfl, Nat.le_of_ble_eq_true rfl⟩) (fun r14 u14 H locs hw14 hP hD hS => ?_)
                             exact by
                              obtain ⟨u_w_314, u_w_code14, u_ta_314, u_ta_414, u_ta_514, u_ta_614, u_ta_714, u_ta_814, ub14⟩ := u14
                              try dsimp only at hw14
                              obtain ⟨rfl, hw14⟩ := hw14
                              have hP : va_P D vwCl [(w, kO 0 [.ref w_code, .ref w_stack, .ref w_facts, .int (nI u_w_314), .int (nI w_top)]), (w_code, kI k 1000 u_w_code14), (ta, kO 6 [.ref ta_signs, .ref ta_words, .int (nI ta_length), .int (nI u_ta_314), .int u_ta_414, .int u_ta_514, .int u_ta_614, .long u_ta_714, .int u_ta_814]), (ta_signs, kB k 1000 ta_signsF), (ta_words, kJ k 23 ta_wordsF)] H := hP
                              have hD : va_D A [(w, kO 0 [.ref w_code, .ref w_stack, .ref w_facts, .int (nI u_w_314), .int (nI w_top)]), (w_code, kI k 1000 u_w_code14), (ta, kO 6 [.ref ta_signs, .ref ta_words, .int (nI ta_length), .int (nI u_ta_314), .int u_ta_414, .int u_ta_514, .int u_ta_614, .long u_ta_714, .int u_ta_814]), (ta_signs, kB k 1000 ta_signsF), (ta_words, kJ k 23 ta_wordsF)] := hD
                              obtain ⟨hw14_0, hw14_1, hw14_2⟩ := hw14
                              have hZ := bn9_e hw14_2 hZ
                              refine lv_if_ne (tgt := 72) hx hb dX0_readOver_67 (by decide) (fun c_15 => ?_) (fun c_15 => ?_)
                              · exact by
                                 have b_15 : ub14 = true := bB_1 c_15
                                 have hZ := (if_pos b_15).symm.trans hZ
                                 refine lv_aload_n hx hb dX0_readOver_72 rfl (lv_at hl 2 rfl) ?_
                                 refine lv_iload hx hb dX0_readOver_73 (lv_at hl 1 rfl) ?_
                                 refine kz_Vv (As := [.int r5]) (rest := []) (wc := [(w, kO 0 [.ref w_code, .ref w_stack, .ref w_facts, .int (nI u_w_314), .int (nI w_top)]), (w_code, kI k 1000 u_w_code14)]) (wr := [(ta, kO 6 [.ref ta_signs, .ref ta_words, .int (nI ta_length), .int (nI u_ta_314), .int u_ta_414, .int u_ta_514, .int u_ta_614, .long u_ta_714, .int u_ta_814]), (ta_signs, kB k 1000 ta_signsF), (ta_words, kJ k 23 ta_wordsF)]) ⟨hx, hb, hml, hown, hts⟩ hK hE hP hD hS hA (sX0_write l D k H.size w r5 w_code w_stack w_facts u_w_314 w_top u_w_code14 (by first | omega | assumption | decide) (by first | omega | assumption | decide)) (cwV 1 hts gX0_readOver_X0_write rfl rfl rfl (by decide +kernel) (by rw [hR]; exact ⟨Nat.le_of_ble_eq_true rfl, Nat.le_of_ble_eq_true rfl⟩)) [0, 1] [2, 3, 4] rfl rfl (by decide +kernel) (by decide +kernel) (by decide +kernel) 0 rfl rfl rfl hl.1 rfl (Nat.le_of_ble_eq_true rfl) dX0_readOver_75 (by rw [hR]; exact ⟨Nat.le_of_ble_eq_true rfl, Nat.le_of_ble_eq_true rfl⟩) (fun u16 H locs hw16 hP hD hS => ?_)
                                 exact by
                                  obtain ⟨u_w_316, u_w_code16⟩ := u16
                                  try dsimp only at hw16
                                  have hP : va_P D vwCl [(ta, kO 6 [.ref ta_signs, .ref ta_words, .int (nI ta_length), .int (nI u_ta_314), .int u_ta_414, .int u_ta_514, .int u_ta_614, .long u_ta_714, .int u_ta_814]), (ta_signs, kB k 1000 ta_signsF), (ta_words, kJ k 23 ta_wordsF), (w, kO 0 [.ref w_code, .ref w_stack, .ref w_facts, .int (nI u_w_316), .int (nI w_top)]), (w_code, kI k 1000 u_w_code16)] H := hP
                                  have hD : va_D A [(ta, kO 6 [.ref ta_signs, .ref ta_words, .int (nI ta_length), .int (nI u_ta_314), .int u_ta_414, .int u_ta_514, .int u_ta_614, .long u_ta_714, .int u_ta_814]), (ta_signs, kB k 1000 ta_signsF), (ta_words, kJ k 23 ta_wordsF), (w, kO 0 [.ref w_code, .ref w_stack, .ref w_facts, .int (nI u_w_316), .int (nI w_top)]), (w_code, kI k 1000 u_w_code16)] := hD
                                  obtain ⟨hw16_0, hw16_1⟩ := hw16
                                  have hZ := bn2_e hw16_1 hZ
                                  refine lv_iload hx hb dX0_readOver_78 (lv_at hl 0 rfl) ?_
                                  refine lv_iconst (v := 2) hx hb dX0_readOver_80 (by decide) ?_
                                  have hj93_17 : ∀ (s0_93 : Int32) (H : Heap) (locs : List Loc) (ls : Array Slot), ((fX0_readOver_4_3_J93a l5_17 rc17_3 u_ta_314 u_ta_414 u_ta_514 u_ta_614 u_ta_714 u_ta_814 u_w_316 u_w_code16) s0_93 = E0) → va_P D vwCl [(ta, kO 6 [.ref ta_signs, .ref ta_words, .int (nI ta_length), .int (nI u_ta_314), .int u_ta_414, .int u_ta_514, .int u_ta_614, .long u_ta_714, .int u_ta_814]), (ta_signs, kB k 1000 ta_signsF), (ta_words, kJ k 23 ta_wordsF), (w, kO 0 [.ref w_code, .ref w_stack, .ref w_facts, .int (nI u_w_316), .int (nI w_top)]), (w_code, kI k 1000 u_w_code16)] H → va_D A [(ta, kO 6 [.ref ta_signs, .ref ta_words, .int (nI ta_length), .int (nI u_ta_314), .int u_ta_414, .int u_ta_514, .int u_ta_614, .long u_ta_714, .int u_ta_814]), (ta_signs, kB k 1000 ta_signsF), (ta_words, kJ k 23 ta_wordsF), (w, kO 0 [.ref w_code, .ref w_stack, .ref w_facts, .int (nI u_w_316), .int (nI w_top)]), (w_code, kI k 1000 u_w_code16)] → va_S A s.heap H locs → lv_has ls 8 [(0, .ref w), (1, .ref ta), (2, .int 4), (3, .int 3), (4, .int l4_17), (5, .int (nI l5_17)), (6, .int r5), (7, .int 4)] → W p l e R s m args below meth c H locs 0 0 Q (F0 m 93 ls [.int s0_93]) := by
                                    intro s0_93 H locs ls hZ hP hD hS hl
                                    refine lv_istore (lv' := [(4, .int s0_93), (0, .ref w), (1, .ref ta), (2, .int 4), (3, .int 3), (5, .int (nI l5_17)), (6, .int r5), (7, .int 4)]) hx hb dX0_readOver_93 hl (by decide) rfl (fun ls hl => ?_)
                                    exact by
                                     refine lv_iinc (v := (nI (l5_17 + 1))) (lv' := [(5, .int (nI (l5_17 + 1))), (4, .int s0_93), (0, .ref w), (1, .ref ta), (2, .int 4), (3, .int 3), (6, .int r5), (7, .int 4)]) hx hb dX0_readOver_95 hl (k := 5) rfl (nI_1 _) (by decide) rfl (fun ls hl => ?_)
                                     exact by
                                      refine lv_goto (tgt := 17) hx hb dX0_readOver_98 (by decide) ?_
                                      exact ih17 s0_93 (l5_17 + 1) u_w_316 u_w_code16 u_ta_314 u_ta_414 u_ta_514 u_ta_614 u_ta_714 u_ta_814 _ _ _ (by omega) (by first | omega | assumption) (by first | omega | assumption) (by first | omega | assumption) (by rw [← hrc17_3]; exact hZ) (hP.sub [3, 4, 0, 1, 2] rfl) (hD.sub [3, 4, 0, 1, 2] (by decide +kernel) rfl) hS (lv_sub hl [2, 3, 4, 5, 1, 0] rfl)
                                  refine lv_icmp_ne (tgt := 91) hx hb dX0_readOver_81 (by decide) (fun c_19 => ?_) (fun c_19 => absurd c_19 (by decide))
                                  refine lv_iload hx hb dX0_readOver_91 (lv_at hl 0 rfl) ?_
                                  exact hj93_17 (4 : Int32) _ _ _ hZ (hP.sub [0, 1, 2, 3, 4] rfl) (hD.sub [0, 1, 2, 3, 4] (by decide +kernel) rfl) hS (lv_sub hl [2, 3, 4, 5, 6, 7, 1, 0] rfl)
                              · exact by
                                 have b_15 : ub14 = false := bB_0 c_15
                                 have hZ := (if_neg (bF b_15)).symm.trans hZ
                                 refine lv_iconst (v := 0) hx hb dX0_readOver_70 (by decide) ?_
                                 rw [hQ]
                                 have hP9 := hP.sub (ws' := [(w, kO 0 [.ref w_code, .ref w_stack, .ref w_facts, .int (nI u_w_314), .int (nI w_top)]), (w_code, kI k 1000 u_w_code14), (ta, kO 6 [.ref ta_signs, .ref ta_words, .int (nI ta_length), .int (nI u_ta_314), .int u_ta_414, .int u_ta_514, .int u_ta_614, .long u_ta_714, .int u_ta_814]), (ta_signs, kB k 1000 ta_signsF), (ta_words, kJ k 23 ta_wordsF)]) [0, 1, 2, 3, 4] rfl
                                 have hD9 := hD.sub (ws' := [(w, kO 0 [.ref w_code, .ref w_stack, .ref w_facts, .int (nI u_w_314), .int (nI w_top)]), (w_code, kI k 1000 u_w_code14), (ta, kO 6 [.ref ta_signs, .ref ta_words, .int (nI ta_length), .int (nI u_ta_314), .int u_ta_414, .int u_ta_514, .int u_ta_614, .long u_ta_714, .int u_ta_814]), (ta_signs, kB k 1000 ta_signsF), (ta_words, kJ k 23 ta_wordsF)]) [0, 1, 2, 3, 4] (by decide +kernel) rfl
                                 exact W.zret (v := 0) hx hb hr rfl (fun zt ht hW => ⟨⟨0, ⟨u_w_314, u_w_code14, u_ta_314, u_ta_414, u_ta_514, u_ta_614, u_ta_714, u_ta_814, false⟩, rfl, ⟨rfl, (by first | omega | (dsimp only; omega) | assumption), (by first | omega | (dsimp only; omega) | assumption), (hZ.trans hE0)⟩, by rw [ht]; exact hP9, hD9⟩, hS.F ht⟩) hS.2.2 dX0_readOver_71
                      · exact by
                         have t_9 : (Int32.toInt r6) > (Int32.toInt l4_17) := tI_nle rfl rfl c_9
                         have hZ := (if_neg c_9).symm.trans hZ
                         exact hj51_7 _ _ _ hZ (hP.sub [0, 1, 2, 3, 4] rfl) (hD.sub [0, 1, 2, 3, 4] (by decide +kernel) rfl) hS (lv_sub hl [2, 3, 4, 5, 6, 7, 1, 0] rfl)
        exact hloop17 ((1000 + 1 - 0) + 1) (4 : Int32) 0 u_w_31 u_w_code1 u_ta_31 u_ta_41 u_ta_51 u_ta_61 u_ta_71 u_ta_81 _ _ _ (Nat.lt_succ_self _) (by first | omega | assumption) (by first | omega | assumption) (by first | omega | assumption) hZ (hP.sub [0, 1, 2, 3, 4] rfl) (hD.sub [0, 1, 2, 3, 4] (by decide +kernel) rfl) hS (lv_sub hl [2, 3, 4, 5, 1, 0] rfl)
   · exact by
      have b_2 : ub1 = false := bB_0 c_2
      have hZ := (if_neg (bF b_2)).symm.trans hZ
      refine lv_iconst (v := 0) hx hb dX0_readOver_9 (by decide) ?_
      rw [hQ]
      have hP9 := hP.sub (ws' := [(w, kO 0 [.ref w_code, .ref w_stack, .ref w_facts, .int (nI u_w_31), .int (nI w_top)]), (w_code, kI k 1000 u_w_code1), (ta, kO 6 [.ref ta_signs, .ref ta_words, .int (nI ta_length), .int (nI u_ta_31), .int u_ta_41, .int u_ta_51, .int u_ta_61, .long u_ta_71, .int u_ta_81]), (ta_signs, kB k 1000 ta_signsF), (ta_words, kJ k 23 ta_wordsF)]) [0, 1, 2, 3, 4] rfl
      have hD9 := hD.sub (ws' := [(w, kO 0 [.ref w_code, .ref w_stack, .ref w_facts, .int (nI u_w_31), .int (nI w_top)]), (w_code, kI k 1000 u_w_code1), (ta, kO 6 [.ref ta_signs, .ref ta_words, .int (nI ta_length), .int (nI u_ta_31), .int u_ta_41, .int u_ta_51, .int u_ta_61, .long u_ta_71, .int u_ta_81]), (ta_signs, kB k 1000 ta_signsF), (ta_words, kJ k 23 ta_wordsF)]) [0, 1, 2, 3, 4] (by decide +kernel) rfl
      exact W.zret (v := 0) hx hb hr rfl (fun zt ht hW => ⟨⟨0, ⟨u_w_31, u_w_code1, u_ta_31, u_ta_41, u_ta_51, u_ta_61, u_ta_71, u_ta_81, false⟩, rfl, ⟨rfl, (by first | omega | (dsimp only; omega) | assumption), (by first | omega | (dsimp only; omega) | assumption), (hZ.trans hE0)⟩, by rw [ht]; exact hP9, hD9⟩, hS.F ht⟩) hS.2.2 dX0_readOver_10
set_option maxHeartbeats 4000000 in
set_option maxRecDepth 100000 in
theorem sX0_readOver_3_3 (l : Launch) (D : va_G) (k : Nat → ClassId) (a0 sa sv : Nat) (f : Nat → Int32) (sz : Nat) (w : Nat) (ta : Nat) (w_code : Nat) (w_stack : Nat) (w_facts : Nat) (w_length : Nat) (w_top : Nat) (w_codeF : Nat → Int32) (ta_signs : Nat) (ta_words : Nat) (ta_length : Nat) (ta_next : Nat) (ta_place : Int32) (ta_kind : Int32) (ta_value : Int32) (ta_letters : Int64) (ta_fault : Int32) (ta_signsF : Nat → Int32) (ta_wordsF : Nat → Int64) (h_w_length : w_length ≤ 1000) (h_w_top : w_top ≤ 24) (h_ta_length : ta_length ≤ 1000) (h_ta_next : ta_next ≤ 1000) : Met l yX0_readOver wsX0_readOver ({ frames := 18, cells := 0, slots := 0, locals := 1260 }) (va_Pc [.ref w, .ref ta, .int 3, .int 3] (kz_PreY D k [(w, kO 0 [.ref w_code, .ref w_stack, .ref w_facts, .int (nI w_length), .int (nI w_top)]), (w_code, kI k 1000 w_codeF), (ta, kO 6 [.ref ta_signs, .ref ta_words, .int (nI ta_length), .int (nI ta_next), .int ta_place, .int ta_kind, .int ta_value, .long ta_letters, .int ta_fault]), (ta_signs, kB k 1000 ta_signsF), (ta_words, kJ k 23 ta_wordsF)] a0 sa sv f sz)) (va_Qi (fun (rr : Int32) (uu : Nat × (Nat → Int32) × Nat × Int32 × Int32 × Int32 × Int64 × Int32 × Bool) => rr = bB uu.2.2.2.2.2.2.2.2 ∧ (uu.1 ≤ 1000) ∧ (uu.2.2.1 ≤ 1000) ∧ ((uu.1, uu.2.1, uu.2.2.1, uu.2.2.2.1, uu.2.2.2.2.1, uu.2.2.2.2.2.1, uu.2.2.2.2.2.2.1, uu.2.2.2.2.2.2.2.1, uu.2.2.2.2.2.2.2.2) = (fX0_readOver_3_3 w_length w_codeF ta_length ta_next ta_place ta_kind ta_value ta_letters ta_fault ta_signsF ta_wordsF f))) (fun uu zt => kz_B D (va_A [(w, kO 0 [.ref w_code, .ref w_stack, .ref w_facts, .int (nI w_length), .int (nI w_top)]), (w_code, kI k 1000 w_codeF), (ta, kO 6 [.ref ta_signs, .ref ta_words, .int (nI ta_length), .int (nI ta_next), .int ta_place, .int ta_kind, .int ta_value, .long ta_letters, .int ta_fault]), (ta_signs, kB k 1000 ta_signsF), (ta_words, kJ k 23 ta_wordsF)] sz) [(w, kO 0 [.ref w_code, .ref w_stack, .ref w_facts, .int (nI uu.1), .int (nI w_top)]), (w_code, kI k 1000 uu.2.1), (ta, kO 6 [.ref ta_signs, .ref ta_words, .int (nI ta_length), .int (nI uu.2.2.1), .int uu.2.2.2.1, .int uu.2.2.2.2.1, .int uu.2.2.2.2.2.1, .long uu.2.2.2.2.2.2.1, .int uu.2.2.2.2.2.2.2.1]), (ta_signs, kB k 1000 ta_signsF), (ta_words, kJ k 23 ta_wordsF)] zt) (va_A [(w, kO 0 [.ref w_code, .ref w_stack, .ref w_facts, .int (nI w_length), .int (nI w_top)]), (w_code, kI k 1000 w_codeF), (ta, kO 6 [.ref ta_signs, .ref ta_words, .int (nI ta_length), .int (nI ta_next), .int ta_place, .int ta_kind, .int ta_value, .long ta_letters, .int ta_fault]), (ta_signs, kB k 1000 ta_signsF), (ta_words, kJ k 23 ta_wordsF)] sz)) 0 0 (va_A [(w, kO 0 [.ref w_code, .ref w_stack, .ref w_facts, .int (nI w_length), .int (nI w_top)]), (w_code, kI k 1000 w_codeF), (ta, kO 6 [.ref ta_signs, .ref ta_words, .int (nI ta_length), .int (nI ta_next), .int ta_place, .int ta_kind, .int ta_value, .long ta_letters, .int ta_fault]), (ta_signs, kB k 1000 ta_signsF), (ta_words, kJ k 23 ta_wordsF)] sz) := by
  refine Met.ofW (cc := cX0_readOver) (maxL := 8) (ret := (some .boolean)) (by decide) rfl ?_
  intro p e s m args below meth c s₁ B hml hv
  obtain ⟨hav, ⟨hsz, hP, hK, hD0, hE⟩, ha0, hDa, hX⟩ := hv
  have hx := B.exec
  have hb := B.bytes
  have hr := B.returns
  have hts := atoms_spec (ws := wsX0_readOver) B.pre
  have hown : s.vm.findClass RX0 = some m.cls := findClass_of_methodNamed B.named
  have hlocks := B.notSynchronized
  subst hsz
  have hD := hD0.self (sz := s.heap.size)
  generalize hAe : va_A [(w, kO 0 [.ref w_code, .ref w_stack, .ref w_facts, .int (nI w_length), .int (nI w_top)]), (w_code, kI k 1000 w_codeF), (ta, kO 6 [.ref ta_signs, .ref ta_words, .int (nI ta_length), .int (nI ta_next), .int ta_place, .int ta_kind, .int ta_value, .long ta_letters, .int ta_fault]), (ta_signs, kB k 1000 ta_signsF), (ta_words, kJ k 23 ta_wordsF)] s.heap.size = A at hD ⊢
  have hA : ∀ q : Nat, s.heap.size ≤ q → A q := fun q h => by rw [← hAe]; exact Or.inr h
  have hAX : ∀ q, A q → a0 ≤ q := fun q h => by rw [← hAe] at h; exact h.elim (fun ⟨k9, e9, h9⟩ => hDa.2 k9 _ h9) (fun e => Nat.le_trans ha0 e)
  obtain ⟨tx71, hR71⟩ := hX.1
  have hS : va_S A s.heap s.heap [] := va_S.rf
  have hl := lv_entry ([.ref w, .ref ta, .int 3, .int 3]) (n := 8) (Nat.le_of_ble_eq_true rfl)
  rw [show entryFrame m args 8 = entryFrame m ([.ref w, .ref ta, .int 3, .int 3] : List Value).toArray 8 by rw [hav], lg_entry_eq]
  generalize (lg_sl ([.ref w, .ref ta, .int 3, .int 3]) ++ List.replicate (8 - (lg_sl ([.ref w, .ref ta, .int 3, .int 3])).length) Slot.unset).toArray = ls at hl ⊢
  have hl : lv_has ls 8 [(0, .ref w), (1, .ref ta), (2, .int 3), (3, .int 3)] := hl
  obtain ⟨R, hR⟩ : ∃ R, R = (headSpec wsX0_readOver ({ frames := 18, cells := 0, slots := 0, locals := 1260 } : Room)).room := ⟨_, rfl⟩
  rw [← hR]
  generalize hQ : MQ below _ args s 0 0 A = Q
  replace hQ := hQ.symm
  obtain ⟨H, hH⟩ : ∃ H, H = s.heap := ⟨_, rfl⟩
  rw [← hH] at hP ⊢
  have hS : va_S A s.heap H [] := by rw [hH]; exact hS
  obtain ⟨E0, hE0⟩ : ∃ E0 : Nat × (Nat → Int32) × Nat × Int32 × Int32 × Int32 × Int64 × Int32 × Bool, E0 = (fX0_readOver_3_3 w_length w_codeF ta_length ta_next ta_place ta_kind ta_value ta_letters ta_fault ta_signsF ta_wordsF f) := ⟨_, rfl⟩
  have hZ : (fX0_readOver_3_3 w_length w_codeF ta_length ta_next ta_place ta_kind ta_value ta_letters ta_fault ta_signsF ta_wordsF f) = E0 := hE0.symm
  refine lv_aload_n hx hb dX0_readOver_0 rfl (lv_at hl 0 rfl) ?_
  refine lv_aload_n hx hb dX0_readOver_1 rfl (lv_at hl 1 rfl) ?_
  refine lv_iload_n hx hb dX0_readOver_2 rfl (lv_at hl 3 rfl) ?_
  refine kz_ViY (As := [.ref ta, .int 3]) (rest := []) (wc := [(w, kO 0 [.ref w_code, .ref w_stack, .ref w_facts, .int (nI w_length), .int (nI w_top)]), (w_code, kI k 1000 w_codeF), (ta, kO 6 [.ref ta_signs, .ref ta_words, .int (nI ta_length), .int (nI ta_next), .int ta_place, .int ta_kind, .int ta_value, .long ta_letters, .int ta_fault]), (ta_signs, kB k 1000 ta_signsF), (ta_words, kJ k 23 ta_wordsF)]) (wr := []) ⟨hx, hb, hml, hown, hts⟩ hX hAX ha0 hK hE hP hD hS hA (sX0_readPart_3 l D k a0 sa sv f H.size w ta w_code w_stack w_facts w_length w_top w_codeF ta_signs ta_words ta_length ta_next ta_place ta_kind ta_value ta_letters ta_fault ta_signsF ta_wordsF (by first | omega | assumption | decide) (by first | omega | assumption | decide) (by first | omega | assumption | decide) (by first | omega | assumption | decide)) (cwV 2 hts gX0_readOver_X0_readPart rfl rfl rfl (by decide +kernel) (by rw [hR]; exact ⟨Nat.le_of_ble_eq_true rfl, Nat.le_of_ble_eq_true rfl⟩)) [0, 1, 2, 3, 4] [] rfl rfl (by decide +kernel) (by decide +kernel) (by decide +kernel) 0 rfl rfl rfl hl.1 rfl (Nat.le_of_ble_eq_true rfl) dX0_readOver_3 (by rw [hR]; exact ⟨Nat.le_of_ble_eq_true rfl, Nat.le_of_ble_eq_true rfl⟩) (fun r1 u1 H locs hw1 hP hD hS => ?_)
  exact by
   obtain ⟨u_w_31, u_w_code1, u_ta_31, u_ta_41, u_ta_51, u_ta_61, u_ta_71, u_ta_81, ub1⟩ := u1
   try dsimp only at hw1
   obtain ⟨rfl, hw1⟩ := hw1
   have hP : va_P D vwCl [(w, kO 0 [.ref w_code, .ref w_stack, .ref w_facts, .int (nI u_w_31), .int (nI w_top)]), (w_code, kI k 1000 u_w_code1), (ta, kO 6 [.ref ta_signs, .ref ta_words, .int (nI ta_length), .int (nI u_ta_31), .int u_ta_41, .int u_ta_51, .int u_ta_61, .long u_ta_71, .int u_ta_81]), (ta_signs, kB k 1000 ta_signsF), (ta_words, kJ k 23 ta_wordsF)] H := hP
   have hD : va_D A [(w, kO 0 [.ref w_code, .ref w_stack, .ref w_facts, .int (nI u_w_31), .int (nI w_top)]), (w_code, kI k 1000 u_w_code1), (ta, kO 6 [.ref ta_signs, .ref ta_words, .int (nI ta_length), .int (nI u_ta_31), .int u_ta_41, .int u_ta_51, .int u_ta_61, .long u_ta_71, .int u_ta_81]), (ta_signs, kB k 1000 ta_signsF), (ta_words, kJ k 23 ta_wordsF)] := hD
   obtain ⟨hw1_0, hw1_1, hw1_2⟩ := hw1
   have hZ := bn9_e hw1_2 hZ
   refine lv_if_ne (tgt := 11) hx hb dX0_readOver_6 (by decide) (fun c_2 => ?_) (fun c_2 => ?_)
   · exact by
      have b_2 : ub1 = true := bB_1 c_2
      have hZ := (if_pos b_2).symm.trans hZ
      refine lv_iconst (v := 4) hx hb dX0_readOver_11 (by decide) ?_
      refine lv_istore (lv' := [(4, .int 4), (0, .ref w), (1, .ref ta), (2, .int 3), (3, .int 3)]) hx hb dX0_readOver_12 hl (by decide) rfl (fun ls hl => ?_)
      exact by
       refine lv_iconst (v := 0) hx hb dX0_readOver_14 (by decide) ?_
       refine lv_istore (lv' := [(5, .int 0), (4, .int 4), (0, .ref w), (1, .ref ta), (2, .int 3), (3, .int 3)]) hx hb dX0_readOver_15 hl (by decide) rfl (fun ls hl => ?_)
       exact by
        have hloop17 : ∀ (nq : Nat) (l4_17 : Int32) (l5_17 : Nat) (fw_3_17 : Nat) (aw_code_17 : Nat → Int32) (fta_3_17 : Nat) (fta_4_17 : Int32) (fta_5_17 : Int32) (fta_6_17 : Int32) (fta_7_17 : Int64) (fta_8_17 : Int32) (H : Heap) (locs : List Loc) (ls : Array Slot), (1000 + 1 - l5_17) < nq → (l5_17 ≤ 1000) → (fw_3_17 ≤ 1000) → (fta_3_17 ≤ 1000) → (lp (fun _ _ _ _ _ _ _ _ _ _ => (0, (fun _ => 0), 0, (0 : Int32), (0 : Int32), (0 : Int32), (0 : Int64), (0 : Int32), false)) (fX0_readOver_3_3_B17a ta_length ta_signsF ta_wordsF f) nq l4_17 l5_17 fw_3_17 aw_code_17 fta_3_17 fta_4_17 fta_5_17 fta_6_17 fta_7_17 fta_8_17 = E0) → va_P D vwCl [(w, kO 0 [.ref w_code, .ref w_stack, .ref w_facts, .int (nI fw_3_17), .int (nI w_top)]), (w_code, kI k 1000 aw_code_17), (ta, kO 6 [.ref ta_signs, .ref ta_words, .int (nI ta_length), .int (nI fta_3_17), .int fta_4_17, .int fta_5_17, .int fta_6_17, .long fta_7_17, .int fta_8_17]), (ta_signs, kB k 1000 ta_signsF), (ta_words, kJ k 23 ta_wordsF)] H → va_D A [(w, kO 0 [.ref w_code, .ref w_stack, .ref w_facts, .int (nI fw_3_17), .int (nI w_top)]), (w_code, kI k 1000 aw_code_17), (ta, kO 6 [.ref ta_signs, .ref ta_words, .int (nI ta_length), .int (nI fta_3_17), .int fta_4_17, .int fta_5_17, .int fta_6_17, .long fta_7_17, .int fta_8_17]), (ta_signs, kB k 1000 ta_signsF), (ta_words, kJ k 23 ta_wordsF)] → va_S A s.heap H locs → lv_has ls 8 [(0, .ref w), (1, .ref ta), (2, .int 3), (3, .int 3), (4, .int l4_17), (5, .int (nI l5_17))] → W p l e R s m args below meth c H locs 0 0 Q (F0 m 17 ls []) := by
          intro n17
          induction n17 with
          | zero => intro l4_17 l5_17 fw_3_17 aw_code_17 fta_3_17 fta_4_17 fta_5_17 fta_6_17 fta_7_17 fta_8_17 H locs ls hm; exact absurd hm (Nat.not_lt_zero _)
          | succ n17 ih17 =>
            intro l4_17 l5_17 fw_3_17 aw_code_17 fta_3_17 fta_4_17 fta_5_17 fta_6_17 fta_7_17 fta_8_17 H locs ls hm17 i_l5_17 i_fw_3_17 i_fta_3_17 hZ hP hD hS hl
            obtain ⟨rc17_3, hrc17_3⟩ : ∃ r : Int32 → Nat → Nat → (Nat → Int32) → Nat → Int32 → Int32 → Int32 → Int64 → Int32 → Nat × (Nat → Int32) × Nat × Int32 × Int32 × Int32 × Int64 × Int32 × Bool, r = lp (fun _ _ _ _ _ _ _ _ _ _ => (0, (fun _ => 0), 0, (0 : Int32), (0 : Int32), (0 : Int32), (0 : Int64), (0 : Int32), false)) (fX0_readOver_3_3_B17a ta_length ta_signsF ta_wordsF f) n17 := ⟨_, rfl⟩
            have hZ : (fX0_readOver_3_3_B17a ta_length ta_signsF ta_wordsF f) rc17_3 l4_17 l5_17 fw_3_17 aw_code_17 fta_3_17 fta_4_17 fta_5_17 fta_6_17 fta_7_17 fta_8_17 = E0 := by rw [hrc17_3]; exact hZ
            refine lv_iload hx hb dX0_readOver_17 (lv_at hl 5 rfl) ?_
            refine lv_sipush (v := 1000) hx hb dX0_readOver_19 (by decide) ?_
            refine lv_icmp_ge (tgt := 101) hx hb dX0_readOver_22 (by decide) (fun c_4 => ?_) (fun c_4 => ?_)
            · exact by
               have k_4 : 1000 ≤ l5_17 := (nI_leI (a := 1000) (b := l5_17) (by omega) (by omega)).mp c_4
               have hZ := (if_pos k_4).symm.trans hZ
               refine lv_iconst (v := 1) hx hb dX0_readOver_101 (by decide) ?_
               rw [hQ]
               have hP9 := hP.sub (ws' := [(w, kO 0 [.ref w_code, .ref w_stack, .ref w_facts, .int (nI fw_3_17), .int (nI w_top)]), (w_code, kI k 1000 aw_code_17), (ta, kO 6 [.ref ta_signs, .ref ta_words, .int (nI ta_length), .int (nI fta_3_17), .int fta_4_17, .int fta_5_17, .int fta_6_17, .long fta_7_17, .int fta_8_17]), (ta_signs, kB k 1000 ta_signsF), (ta_words, kJ k 23 ta_wordsF)]) [0, 1, 2, 3, 4] rfl
               have hD9 := hD.sub (ws' := [(w, kO 0 [.ref w_code, .ref w_stack, .ref w_facts, .int (nI fw_3_17), .int (nI w_top)]), (w_code, kI k 1000 aw_code_17), (ta, kO 6 [.ref ta_signs, .ref ta_words, .int (nI ta_length), .int (nI fta_3_17), .int fta_4_17, .int fta_5_17, .int fta_6_17, .long fta_7_17, .int fta_8_17]), (ta_signs, kB k 1000 ta_signsF), (ta_words, kJ k 23 ta_wordsF)]) [0, 1, 2, 3, 4] (by decide +kernel) rfl
               exact W.zret (v := 1) hx hb hr rfl (fun zt ht hW => ⟨⟨1, ⟨fw_3_17, aw_code_17, fta_3_17, fta_4_17, fta_5_17, fta_6_17, fta_7_17, fta_8_17, true⟩, rfl, ⟨rfl, (by first | omega | (dsimp only; omega) | assumption), (by first | omega | (dsimp only; omega) | assumption), (hZ.trans hE0)⟩, by rw [ht]; exact hP9, hD9⟩, hS.F ht⟩) hS.2.2 dX0_readOver_102
            · exact by
               have k_4 : ¬ (1000 ≤ l5_17) := fun h => c_4 ((nI_leI (a := 1000) (b := l5_17) (by omega) (by omega)).mpr h)
               have hZ := (if_neg k_4).symm.trans hZ
               refine lv_aload_n hx hb dX0_readOver_25 rfl (lv_at hl 1 rfl) ?_
               refine kz_Si (As := [.ref ta]) (rest := []) (wc := [(ta, kO 6 [.ref ta_signs, .ref ta_words, .int (nI ta_length), .int (nI fta_3_17), .int fta_4_17, .int fta_5_17, .int fta_6_17, .long fta_7_17, .int fta_8_17])]) (wr := [(w, kO 0 [.ref w_code, .ref w_stack, .ref w_facts, .int (nI fw_3_17), .int (nI w_top)]), (w_code, kI k 1000 aw_code_17), (ta_signs, kB k 1000 ta_signsF), (ta_words, kJ k 23 ta_wordsF)]) ⟨hx, hb, hml, hown, hts⟩ hK hE hP hD hS hA (sX0_operatorAt l D k H.size ta ta_signs ta_words ta_length fta_3_17 fta_4_17 fta_5_17 fta_6_17 fta_7_17 fta_8_17 (by first | omega | assumption | decide) (by first | omega | assumption | decide)) (va_cwS 1 hts gX0_readOver_X0_operatorAt rfl rfl rfl (by decide +kernel) (by rw [hR]; exact ⟨Nat.le_of_ble_eq_true rfl, Nat.le_of_ble_eq_true rfl⟩)) [2] [0, 1, 3, 4] rfl rfl (by decide +kernel) (by decide +kernel) (by decide +kernel) rfl hl.1 rfl (Nat.le_of_ble_eq_true rfl) dX0_readOver_26 (by rw [hR]; exact ⟨Nat.le_of_ble_eq_true rfl, Nat.le_of_ble_eq_true rfl⟩) (fun r5 u5 H locs hw5 hP hD hS => ?_)
               exact by
                try dsimp only at hw5
                have hP : va_P D vwCl [(w, kO 0 [.ref w_code, .ref w_stack, .ref w_facts, .int (nI fw_3_17), .int (nI w_top)]), (w_code, kI k 1000 aw_code_17), (ta_signs, kB k 1000 ta_signsF), (ta_words, kJ k 23 ta_wordsF), (ta, kO 6 [.ref ta_signs, .ref ta_words, .int (nI ta_length), .int (nI fta_3_17), .int fta_4_17, .int fta_5_17, .int fta_6_17, .long fta_7_17, .int fta_8_17])] H := hP
                have hD : va_D A [(w, kO 0 [.ref w_code, .ref w_stack, .ref w_facts, .int (nI fw_3_17), .int (nI w_top)]), (w_code, kI k 1000 aw_code_17), (ta_signs, kB k 1000 ta_signsF), (ta_words, kJ k 23 ta_wordsF), (ta, kO 6 [.ref ta_signs, .ref ta_words, .int (nI ta_length), .int (nI fta_3_17), .int fta_4_17, .int fta_5_17, .int fta_6_17, .long fta_7_17, .int fta_8_17])] := hD
                have hw5_0 := hw5
                have hZ := bn1_e hw5_0 hZ
                refine lv_istore (lv' := [(6, .int r5), (0, .ref w), (1, .ref ta), (2, .int 3), (3, .int 3), (4, .int l4_17), (5, .int (nI l5_17))]) hx hb dX0_readOver_29 hl (by decide) rfl (fun ls hl => ?_)
                exact by
                 refine lv_iload hx hb dX0_readOver_31 (lv_at hl 0 rfl) ?_
                 refine kz_Si (As := [.int r5]) (rest := []) (wc := []) (wr := [(w, kO 0 [.ref w_code, .ref w_stack, .ref w_facts, .int (nI fw_3_17), .int (nI w_top)]), (w_code, kI k 1000 aw_code_17), (ta_signs, kB k 1000 ta_signsF), (ta_words, kJ k 23 ta_wordsF), (ta, kO 6 [.ref ta_signs, .ref ta_words, .int (nI ta_length), .int (nI fta_3_17), .int fta_4_17, .int fta_5_17, .int fta_6_17, .long fta_7_17, .int fta_8_17])]) ⟨hx, hb, hml, hown, hts⟩ hK hE hP hD hS hA (sX0_tightnessOf l D k H.size r5) (va_cwS 1 hts gX0_readOver_X0_tightnessOf rfl rfl rfl (by decide +kernel) (by rw [hR]; exact ⟨Nat.le_of_ble_eq_true rfl, Nat.le_of_ble_eq_true rfl⟩)) [] [0, 1, 2, 3, 4] rfl rfl (by decide +kernel) (by decide +kernel) (by decide +kernel) rfl hl.1 rfl (Nat.le_of_ble_eq_true rfl) dX0_readOver_33 (by rw [hR]; exact ⟨Nat.le_of_ble_eq_true rfl, Nat.le_of_ble_eq_true rfl⟩) (fun r6 u6 H locs hw6 hP hD hS => ?_)
                 exact by
                  try dsimp only at hw6
                  have hP : va_P D vwCl [(w, kO 0 [.ref w_code, .ref w_stack, .ref w_facts, .int (nI fw_3_17), .int (nI w_top)]), (w_code, kI k 1000 aw_code_17), (ta_signs, kB k 1000 ta_signsF), (ta_words, kJ k 23 ta_wordsF), (ta, kO 6 [.ref ta_signs, .ref ta_words, .int (nI ta_length), .int (nI fta_3_17), .int fta_4_17, .int fta_5_17, .int fta_6_17, .long fta_7_17, .int fta_8_17])] H := hP
                  have hD : va_D A [(w, kO 0 [.ref w_code, .ref w_stack, .ref w_facts, .int (nI fw_3_17), .int (nI w_top)]), (w_code, kI k 1000 aw_code_17), (ta_signs, kB k 1000 ta_signsF), (ta_words, kJ k 23 ta_wordsF), (ta, kO 6 [.ref ta_signs, .ref ta_words, .int (nI ta_length), .int (nI fta_3_17), .int fta_4_17, .int fta_5_17, .int fta_6_17, .long fta_7_17, .int fta_8_17])] := hD
                  obtain ⟨hw6_0, hw6_1⟩ := hw6
                  have hZ := bn1_e hw6_1 hZ
                  refine lv_istore (lv' := [(7, .int r6), (6, .int r5), (0, .ref w), (1, .ref ta), (2, .int 3), (3, .int 3), (4, .int l4_17), (5, .int (nI l5_17))]) hx hb dX0_readOver_36 hl (by decide) rfl (fun ls hl => ?_)
                  exact by
                   refine lv_iload hx hb dX0_readOver_38 (lv_at hl 0 rfl) ?_
                   refine lv_iload_n hx hb dX0_readOver_40 rfl (lv_at hl 4 rfl) ?_
                   have hj51_7 : ∀ (H : Heap) (locs : List Loc) (ls : Array Slot), ((fX0_readOver_3_3_J51a fw_3_17 aw_code_17 fta_3_17 fta_4_17 fta_5_17 fta_6_17 fta_7_17 fta_8_17) = E0) → va_P D vwCl [(w, kO 0 [.ref w_code, .ref w_stack, .ref w_facts, .int (nI fw_3_17), .int (nI w_top)]), (w_code, kI k 1000 aw_code_17), (ta_signs, kB k 1000 ta_signsF), (ta_words, kJ k 23 ta_wordsF), (ta, kO 6 [.ref ta_signs, .ref ta_words, .int (nI ta_length), .int (nI fta_3_17), .int fta_4_17, .int fta_5_17, .int fta_6_17, .long fta_7_17, .int fta_8_17])] H → va_D A [(w, kO 0 [.ref w_code, .ref w_stack, .ref w_facts, .int (nI fw_3_17), .int (nI w_top)]), (w_code, kI k 1000 aw_code_17), (ta_signs, kB k 1000 ta_signsF), (ta_words, kJ k 23 ta_wordsF), (ta, kO 6 [.ref ta_signs, .ref ta_words, .int (nI ta_length), .int (nI fta_3_17), .int fta_4_17, .int fta_5_17, .int fta_6_17, .long fta_7_17, .int fta_8_17])] → va_S A s.heap H locs → lv_has ls 8 [(0, .ref w), (1, .ref ta), (2, .int 3), (3, .int 3), (4, .int l4_17), (5, .int (nI l5_17)), (6, .int r5), (7, .int r6)] → W p l e R s m args below meth c H locs 0 0 Q (F0 m 51 ls []) := by
                     intro H locs ls hZ hP hD hS hl
                     refine lv_iconst (v := 1) hx hb dX0_readOver_51 (by decide) ?_
                     rw [hQ]
                     have hP9 := hP.sub (ws' := [(w, kO 0 [.ref w_code, .ref w_stack, .ref w_facts, .int (nI fw_3_17), .int (nI w_top)]), (w_code, kI k 1000 aw_code_17), (ta, kO 6 [.ref ta_signs, .ref ta_words, .int (nI ta_length), .int (nI fta_3_17), .int fta_4_17, .int fta_5_17, .int fta_6_17, .long fta_7_17, .int fta_8_17]), (ta_signs, kB k 1000 ta_signsF), (ta_words, kJ k 23 ta_wordsF)]) [0, 1, 4, 2, 3] rfl
                     have hD9 := hD.sub (ws' := [(w, kO 0 [.ref w_code, .ref w_stack, .ref w_facts, .int (nI fw_3_17), .int (nI w_top)]), (w_code, kI k 1000 aw_code_17), (ta, kO 6 [.ref ta_signs, .ref ta_words, .int (nI ta_length), .int (nI fta_3_17), .int fta_4_17, .int fta_5_17, .int fta_6_17, .long fta_7_17, .int fta_8_17]), (ta_signs, kB k 1000 ta_signsF), (ta_words, kJ k 23 ta_wordsF)]) [0, 1, 4, 2, 3] (by decide +kernel) rfl
                     exact W.zret (v := 1) hx hb hr rfl (fun zt ht hW => ⟨⟨1, ⟨fw_3_17, aw_code_17, fta_3_17, fta_4_17, fta_5_17, fta_6_17, fta_7_17, fta_8_17, true⟩, rfl, ⟨rfl, (by first | omega | (dsimp only; omega) | assumption), (by first | omega | (dsimp only; omega) | assumption), (hZ.trans hE0)⟩, by rw [ht]; exact hP9, hD9⟩, hS.F ht⟩) hS.2.2 dX0_readOver_52
                   refine lv_icmp_lt (tgt := 51) hx hb dX0_readOver_41 (by decide) (fun c_8 => ?_) (fun c_8 => ?_)
                   · exact by
                      have t_8 : (Int32.toInt r6) < 3 := tI_lt rfl (by decide) c_8
                      have hZ := (if_pos c_8).symm.trans hZ
                      exact hj51_7 _ _ _ hZ (hP.sub [0, 1, 2, 3, 4] rfl) (hD.sub [0, 1, 2, 3, 4] (by decide +kernel) rfl) hS (lv_sub hl [2, 3, 4, 5, 6, 7, 1, 0] rfl)
                   · exact by
                      have t_8 : (Int32.toInt r6) ≥ 3 := tI_nlt rfl (by decide) c_8
                      have hZ := (if_neg c_8).symm.trans hZ
                      refine lv_iload hx hb dX0_readOver_44 (lv_at hl 0 rfl) ?_
                      refine lv_iload hx hb dX0_readOver_46 (lv_at hl 6 rfl) ?_
                      refine lv_icmp_le (tgt := 53) hx hb dX0_readOver_48 (by decide) (fun c_9 => ?_) (fun c_9 => ?_)
                      · exact by
                         have t_9 : (Int32.toInt r6) ≤ (Int32.toInt l4_17) := tI_le rfl rfl c_9
                         have hZ := (if_pos c_9).symm.trans hZ
                         have cs10 : Int32.toInt r6 = 3 ∨ Int32.toInt r6 = 4 := by omega
                         have hZ9 := hZ
                         rcases cs10 with cs10 | cs10
                         · obtain rfl : r6 = 3 := Int32.toInt_inj.mp (cs10.trans (by decide))
                           have hZ := hZ9
                           have hZ := (if_pos (rfl : (3 : Int32) = 3)).symm.trans hZ
                           refine lv_aload_n hx hb dX0_readOver_53 rfl (lv_at hl 3 rfl) ?_
                           refine kz_VvY (As := []) (rest := []) (wc := [(ta, kO 6 [.ref ta_signs, .ref ta_words, .int (nI ta_length), .int (nI fta_3_17), .int fta_4_17, .int fta_5_17, .int fta_6_17, .long fta_7_17, .int fta_8_17]), (ta_signs, kB k 1000 ta_signsF), (ta_words, kJ k 23 ta_wordsF)]) (wr := [(w, kO 0 [.ref w_code, .ref w_stack, .ref w_facts, .int (nI fw_3_17), .int (nI w_top)]), (w_code, kI k 1000 aw_code_17)]) ⟨hx, hb, hml, hown, hts⟩ hX hAX ha0 hK hE hP hD hS hA (sX6_advance l D k a0 sa sv f H.size ta ta_signs ta_words ta_length fta_3_17 fta_4_17 fta_5_17 fta_6_17 fta_7_17 fta_8_17 ta_signsF ta_wordsF (by first | omega | assumption | decide) (by first | omega | assumption | decide)) (cwV 0 hts gX0_readOver_X6_advance rfl rfl rfl (by decide +kernel) (by rw [hR]; exact ⟨Nat.le_of_ble_eq_true rfl, Nat.le_of_ble_eq_true rfl⟩)) [4, 2, 3] [0, 1] rfl rfl (by decide +kernel) (by decide +kernel) (by decide +kernel) 0 rfl rfl rfl hl.1 rfl (Nat.le_of_ble_eq_true rfl) dX0_readOver_54 (by rw [hR]; exact ⟨Nat.le_of_ble_eq_true rfl, Nat.le_of_ble_eq_true rfl⟩) (fun u12 H locs hw12 hP hD hS => ?_)
                           exact by
                            obtain ⟨u_ta_312, u_ta_412, u_ta_512, u_ta_612, u_ta_712⟩ := u12
                            try dsimp only at hw12
                            have hP : va_P D vwCl [(w, kO 0 [.ref w_code, .ref w_stack, .ref w_facts, .int (nI fw_3_17), .int (nI w_top)]), (w_code, kI k 1000 aw_code_17), (ta, kO 6 [.ref ta_signs, .ref ta_words, .int (nI ta_length), .int (nI u_ta_312), .int u_ta_412, .int u_ta_512, .int u_ta_612, .long u_ta_712, .int fta_8_17]), (ta_signs, kB k 1000 ta_signsF), (ta_words, kJ k 23 ta_wordsF)] H := hP
                            have hD : va_D A [(w, kO 0 [.ref w_code, .ref w_stack, .ref w_facts, .int (nI fw_3_17), .int (nI w_top)]), (w_code, kI k 1000 aw_code_17), (ta, kO 6 [.ref ta_signs, .ref ta_words, .int (nI ta_length), .int (nI u_ta_312), .int u_ta_412, .int u_ta_512, .int u_ta_612, .long u_ta_712, .int fta_8_17]), (ta_signs, kB k 1000 ta_signsF), (ta_words, kJ k 23 ta_wordsF)] := hD
                            obtain ⟨hw12_0, hw12_1⟩ := hw12
                            have hZ := bn5_e hw12_1 hZ
                            refine lv_aload_n hx hb dX0_readOver_57 rfl (lv_at hl 2 rfl) ?_
                            refine lv_aload_n hx hb dX0_readOver_58 rfl (lv_at hl 3 rfl) ?_
                            refine lv_iload hx hb dX0_readOver_59 (lv_at hl 0 rfl) ?_
                            refine lv_iconst (v := 1) hx hb dX0_readOver_61 (by decide) ?_
                            refine lv_iadd hx hb dX0_readOver_62 ?_
                            refine lv_topi (fun x13 ex13 => ?_)
                            exact by
                             obtain rfl : x13 = 4 := ex13.trans (by decide)
                             refine lv_iload_n hx hb dX0_readOver_63 rfl (lv_at hl 5 rfl) ?_
                             refine kz_ViY (As := [.ref ta, .int 4, .int 3]) (rest := []) (wc := [(w, kO 0 [.ref w_code, .ref w_stack, .ref w_facts, .int (nI fw_3_17), .int (nI w_top)]), (w_code, kI k 1000 aw_code_17), (ta, kO 6 [.ref ta_signs, .ref ta_words, .int (nI ta_length), .int (nI u_ta_312), .int u_ta_412, .int u_ta_512, .int u_ta_612, .long u_ta_712, .int fta_8_17]), (ta_signs, kB k 1000 ta_signsF), (ta_words, kJ k 23 ta_wordsF)]) (wr := []) ⟨hx, hb, hml, hown, hts⟩ hX hAX ha0 hK hE hP hD hS hA (sX0_readOver_4_3 l D k a0 sa sv f H.size w ta w_code w_stack w_facts fw_3_17 w_top aw_code_17 ta_signs ta_words ta_length u_ta_312 u_ta_412 u_ta_512 u_ta_612 u_ta_712 fta_8_17 ta_signsF ta_wordsF (by first | omega | assumption | decide) (by first | omega | assumption | decide) (by first | omega | assumption | decide) (by first | omega | assumption | decide)) (cwV 3 hts gX0_readOver_X0_readOver rfl rfl rfl (by decide +kernel) (by rw [hR]; exact ⟨Nat.le_of_ble_eq_true rfl, Nat.le_of_ble_eq_true rfl⟩)) [0, 1, 2, 3, 4] [] rfl rfl (by decide +kernel) (by decide +kernel) (by decide +kernel) 0 rfl rfl rfl hl.1 rfl (Nat.le_of_ble_eq_true rfl) dX0_readOver_64 (by rw [hR]; exact ⟨Nat.le_of_ble_eq_true rfl, Nat.le_of_ble_eq_true rfl⟩) (fun r14 u14 H locs hw14 hP hD hS => ?_)
                             exact by
                              obtain ⟨u_w_314, u_w_code14, u_ta_314, u_ta_414, u_ta_514, u_ta_614, u_ta_714, u_ta_814, ub14⟩ := u14
                              try dsimp only at hw14
                              obtain ⟨rfl, hw14⟩ := hw14
                              have hP : va_P D vwCl [(w, kO 0 [.ref w_code, .ref w_stack, .ref w_facts, .int (nI u_w_314), .int (nI w_top)]), (w_code, kI k 1000 u_w_code14), (ta, kO 6 [.ref ta_signs, .ref ta_words, .int (nI ta_length), .int (nI u_ta_314), .int u_ta_414, .int u_ta_514, .int u_ta_614, .long u_ta_714, .int u_ta_814]), (ta_signs, kB k 1000 ta_signsF), (ta_words, kJ k 23 ta_wordsF)] H := hP
                              have hD : va_D A [(w, kO 0 [.ref w_code, .ref w_stack, .ref w_facts, .int (nI u_w_314), .int (nI w_top)]), (w_code, kI k 1000 u_w_code14), (ta, kO 6 [.ref ta_signs, .ref ta_words, .int (nI ta_length), .int (nI u_ta_314), .int u_ta_414, .int u_ta_514, .int u_ta_614, .long u_ta_714, .int u_ta_814]), (ta_signs, kB k 1000 ta_signsF), (ta_words, kJ k 23 ta_wordsF)] := hD
                              obtain ⟨hw14_0, hw14_1, hw14_2⟩ := hw14
                              have hZ := bn9_e hw14_2 hZ
                              refine lv_if_ne (tgt := 72) hx hb dX0_readOver_67 (by decide) (fun c_15 => ?_) (fun c_15 => ?_)
                              · exact by
                                 have b_15 : ub14 = true := bB_1 c_15
                                 have hZ := (if_pos b_15).symm.trans hZ
                                 refine lv_aload_n hx hb dX0_readOver_72 rfl (lv_at hl 2 rfl) ?_
                                 refine lv_iload hx hb dX0_readOver_73 (lv_at hl 1 rfl) ?_
                                 refine kz_Vv (As := [.int r5]) (rest := []) (wc := [(w, kO 0 [.ref w_code, .ref w_stack, .ref w_facts, .int (nI u_w_314), .int (nI w_top)]), (w_code, kI k 1000 u_w_code14)]) (wr := [(ta, kO 6 [.ref ta_signs, .ref ta_words, .int (nI ta_length), .int (nI u_ta_314), .int u_ta_414, .int u_ta_514, .int u_ta_614, .long u_ta_714, .int u_ta_814]), (ta_signs, kB k 1000 ta_signsF), (ta_words, kJ k 23 ta_wordsF)]) ⟨hx, hb, hml, hown, hts⟩ hK hE hP hD hS hA (sX0_write l D k H.size w r5 w_code w_stack w_facts u_w_314 w_top u_w_code14 (by first | omega | assumption | decide) (by first | omega | assumption | decide)) (cwV 1 hts gX0_readOver_X0_write rfl rfl rfl (by decide +kernel) (by rw [hR]; exact ⟨Nat.le_of_ble_eq_true rfl, Nat.le_of_ble_eq_true rfl⟩)) [0, 1] [2, 3, 4] rfl rfl (by decide +kernel) (by decide +kernel) (by decide +kernel) 0 rfl rfl rfl hl.1 rfl (Nat.le_of_ble_eq_true rfl) dX0_readOver_75 (by rw [hR]; exact ⟨Nat.le_of_ble_eq_true rfl, Nat.le_of_ble_eq_true rfl⟩) (fun u16 H locs hw16 hP hD hS => ?_)
                                 exact by
                                  obtain ⟨u_w_316, u_w_code16⟩ := u16
                                  try dsimp only at hw16
                                  have hP : va_P D vwCl [(ta, kO 6 [.ref ta_signs, .ref ta_words, .int (nI ta_length), .int (nI u_ta_314), .int u_ta_414, .int u_ta_514, .int u_ta_614, .long u_ta_714, .int u_ta_814]), (ta_signs, kB k 1000 ta_signsF), (ta_words, kJ k 23 ta_wordsF), (w, kO 0 [.ref w_code, .ref w_stack, .ref w_facts, .int (nI u_w_316), .int (nI w_top)]), (w_code, kI k 1000 u_w_code16)] H := hP
                                  have hD : va_D A [(ta, kO 6 [.ref ta_signs, .ref ta_words, .int (nI ta_length), .int (nI u_ta_314), .int u_ta_414, .int u_ta_514, .int u_ta_614, .long u_ta_714, .int u_ta_814]), (ta_signs, kB k 1000 ta_signsF), (ta_words, kJ k 23 ta_wordsF), (w, kO 0 [.ref w_code, .ref w_stack, .ref w_facts, .int (nI u_w_316), .int (nI w_top)]), (w_code, kI k 1000 u_w_code16)] := hD
                                  obtain ⟨hw16_0, hw16_1⟩ := hw16
                                  have hZ := bn2_e hw16_1 hZ
                                  refine lv_iload hx hb dX0_readOver_78 (lv_at hl 0 rfl) ?_
                                  refine lv_iconst (v := 2) hx hb dX0_readOver_80 (by decide) ?_
                                  have hj93_17 : ∀ (s0_93 : Int32) (H : Heap) (locs : List Loc) (ls : Array Slot), ((fX0_readOver_3_3_J93a l5_17 rc17_3 u_ta_314 u_ta_414 u_ta_514 u_ta_614 u_ta_714 u_ta_814 u_w_316 u_w_code16) s0_93 = E0) → va_P D vwCl [(ta, kO 6 [.ref ta_signs, .ref ta_words, .int (nI ta_length), .int (nI u_ta_314), .int u_ta_414, .int u_ta_514, .int u_ta_614, .long u_ta_714, .int u_ta_814]), (ta_signs, kB k 1000 ta_signsF), (ta_words, kJ k 23 ta_wordsF), (w, kO 0 [.ref w_code, .ref w_stack, .ref w_facts, .int (nI u_w_316), .int (nI w_top)]), (w_code, kI k 1000 u_w_code16)] H → va_D A [(ta, kO 6 [.ref ta_signs, .ref ta_words, .int (nI ta_length), .int (nI u_ta_314), .int u_ta_414, .int u_ta_514, .int u_ta_614, .long u_ta_714, .int u_ta_814]), (ta_signs, kB k 1000 ta_signsF), (ta_words, kJ k 23 ta_wordsF), (w, kO 0 [.ref w_code, .ref w_stack, .ref w_facts, .int (nI u_w_316), .int (nI w_top)]), (w_code, kI k 1000 u_w_code16)] → va_S A s.heap H locs → lv_has ls 8 [(0, .ref w), (1, .ref ta), (2, .int 3), (3, .int 3), (4, .int l4_17), (5, .int (nI l5_17)), (6, .int r5), (7, .int 3)] → W p l e R s m args below meth c H locs 0 0 Q (F0 m 93 ls [.int s0_93]) := by
                                    intro s0_93 H locs ls hZ hP hD hS hl
                                    refine lv_istore (lv' := [(4, .int s0_93), (0, .ref w), (1, .ref ta), (2, .int 3), (3, .int 3), (5, .int (nI l5_17)), (6, .int r5), (7, .int 3)]) hx hb dX0_readOver_93 hl (by decide) rfl (fun ls hl => ?_)
                                    exact by
                                     refine lv_iinc (v := (nI (l5_17 + 1))) (lv' := [(5, .int (nI (l5_17 + 1))), (4, .int s0_93), (0, .ref w), (1, .ref ta), (2, .int 3), (3, .int 3), (6, .int r5), (7, .int 3)]) hx hb dX0_readOver_95 hl (k := 5) rfl (nI_1 _) (by decide) rfl (fun ls hl => ?_)
                                     exact by
                                      refine lv_goto (tgt := 17) hx hb dX0_readOver_98 (by decide) ?_
                                      exact ih17 s0_93 (l5_17 + 1) u_w_316 u_w_code16 u_ta_314 u_ta_414 u_ta_514 u_ta_614 u_ta_714 u_ta_814 _ _ _ (by omega) (by first | omega | assumption) (by first | omega | assumption) (by first | omega | assumption) (by rw [← hrc17_3]; exact hZ) (hP.sub [3, 4, 0, 1, 2] rfl) (hD.sub [3, 4, 0, 1, 2] (by decide +kernel) rfl) hS (lv_sub hl [2, 3, 4, 5, 1, 0] rfl)
                                  refine lv_icmp_ne (tgt := 91) hx hb dX0_readOver_81 (by decide) (fun c_19 => ?_) (fun c_19 => absurd c_19 (by decide))
                                  refine lv_iload hx hb dX0_readOver_91 (lv_at hl 0 rfl) ?_
                                  exact hj93_17 (3 : Int32) _ _ _ hZ (hP.sub [0, 1, 2, 3, 4] rfl) (hD.sub [0, 1, 2, 3, 4] (by decide +kernel) rfl) hS (lv_sub hl [2, 3, 4, 5, 6, 7, 1, 0] rfl)
                              · exact by
                                 have b_15 : ub14 = false := bB_0 c_15
                                 have hZ := (if_neg (bF b_15)).symm.trans hZ
                                 refine lv_iconst (v := 0) hx hb dX0_readOver_70 (by decide) ?_
                                 rw [hQ]
                                 have hP9 := hP.sub (ws' := [(w, kO 0 [.ref w_code, .ref w_stack, .ref w_facts, .int (nI u_w_314), .int (nI w_top)]), (w_code, kI k 1000 u_w_code14), (ta, kO 6 [.ref ta_signs, .ref ta_words, .int (nI ta_length), .int (nI u_ta_314), .int u_ta_414, .int u_ta_514, .int u_ta_614, .long u_ta_714, .int u_ta_814]), (ta_signs, kB k 1000 ta_signsF), (ta_words, kJ k 23 ta_wordsF)]) [0, 1, 2, 3, 4] rfl
                                 have hD9 := hD.sub (ws' := [(w, kO 0 [.ref w_code, .ref w_stack, .ref w_facts, .int (nI u_w_314), .int (nI w_top)]), (w_code, kI k 1000 u_w_code14), (ta, kO 6 [.ref ta_signs, .ref ta_words, .int (nI ta_length), .int (nI u_ta_314), .int u_ta_414, .int u_ta_514, .int u_ta_614, .long u_ta_714, .int u_ta_814]), (ta_signs, kB k 1000 ta_signsF), (ta_words, kJ k 23 ta_wordsF)]) [0, 1, 2, 3, 4] (by decide +kernel) rfl
                                 exact W.zret (v := 0) hx hb hr rfl (fun zt ht hW => ⟨⟨0, ⟨u_w_314, u_w_code14, u_ta_314, u_ta_414, u_ta_514, u_ta_614, u_ta_714, u_ta_814, false⟩, rfl, ⟨rfl, (by first | omega | (dsimp only; omega) | assumption), (by first | omega | (dsimp only; omega) | assumption), (hZ.trans hE0)⟩, by rw [ht]; exact hP9, hD9⟩, hS.F ht⟩) hS.2.2 dX0_readOver_71
                         · obtain rfl : r6 = 4 := Int32.toInt_inj.mp (cs10.trans (by decide))
                           have hZ := hZ9
                           have hZ := (if_neg (by decide : ¬ ((4 : Int32) = 3))).symm.trans hZ
                           refine lv_aload_n hx hb dX0_readOver_53 rfl (lv_at hl 3 rfl) ?_
                           refine kz_VvY (As := []) (rest := []) (wc := [(ta, kO 6 [.ref ta_signs, .ref ta_words, .int (nI ta_length), .int (nI fta_3_17), .int fta_4_17, .int fta_5_17, .int fta_6_17, .long fta_7_17, .int fta_8_17]), (ta_signs, kB k 1000 ta_signsF), (ta_words, kJ k 23 ta_wordsF)]) (wr := [(w, kO 0 [.ref w_code, .ref w_stack, .ref w_facts, .int (nI fw_3_17), .int (nI w_top)]), (w_code, kI k 1000 aw_code_17)]) ⟨hx, hb, hml, hown, hts⟩ hX hAX ha0 hK hE hP hD hS hA (sX6_advance l D k a0 sa sv f H.size ta ta_signs ta_words ta_length fta_3_17 fta_4_17 fta_5_17 fta_6_17 fta_7_17 fta_8_17 ta_signsF ta_wordsF (by first | omega | assumption | decide) (by first | omega | assumption | decide)) (cwV 0 hts gX0_readOver_X6_advance rfl rfl rfl (by decide +kernel) (by rw [hR]; exact ⟨Nat.le_of_ble_eq_true rfl, Nat.le_of_ble_eq_true rfl⟩)) [4, 2, 3] [0, 1] rfl rfl (by decide +kernel) (by decide +kernel) (by decide +kernel) 0 rfl rfl rfl hl.1 rfl (Nat.le_of_ble_eq_true rfl) dX0_readOver_54 (by rw [hR]; exact ⟨Nat.le_of_ble_eq_true rfl, Nat.le_of_ble_eq_true rfl⟩) (fun u21 H locs hw21 hP hD hS => ?_)
                           exact by
                            obtain ⟨u_ta_321, u_ta_421, u_ta_521, u_ta_621, u_ta_721⟩ := u21
                            try dsimp only at hw21
                            have hP : va_P D vwCl [(w, kO 0 [.ref w_code, .ref w_stack, .ref w_facts, .int (nI fw_3_17), .int (nI w_top)]), (w_code, kI k 1000 aw_code_17), (ta, kO 6 [.ref ta_signs, .ref ta_words, .int (nI ta_length), .int (nI u_ta_321), .int u_ta_421, .int u_ta_521, .int u_ta_621, .long u_ta_721, .int fta_8_17]), (ta_signs, kB k 1000 ta_signsF), (ta_words, kJ k 23 ta_wordsF)] H := hP
                            have hD : va_D A [(w, kO 0 [.ref w_code, .ref w_stack, .ref w_facts, .int (nI fw_3_17), .int (nI w_top)]), (w_code, kI k 1000 aw_code_17), (ta, kO 6 [.ref ta_signs, .ref ta_words, .int (nI ta_length), .int (nI u_ta_321), .int u_ta_421, .int u_ta_521, .int u_ta_621, .long u_ta_721, .int fta_8_17]), (ta_signs, kB k 1000 ta_signsF), (ta_words, kJ k 23 ta_wordsF)] := hD
                            obtain ⟨hw21_0, hw21_1⟩ := hw21
                            have hZ := bn5_e hw21_1 hZ
                            refine lv_aload_n hx hb dX0_readOver_57 rfl (lv_at hl 2 rfl) ?_
                            refine lv_aload_n hx hb dX0_readOver_58 rfl (lv_at hl 3 rfl) ?_
                            refine lv_iload hx hb dX0_readOver_59 (lv_at hl 0 rfl) ?_
                            refine lv_iconst (v := 1) hx hb dX0_readOver_61 (by decide) ?_
                            refine lv_iadd hx hb dX0_readOver_62 ?_
                            refine lv_topi (fun x22 ex22 => ?_)
                            exact by
                             obtain rfl : x22 = 5 := ex22.trans (by decide)
                             refine lv_iload_n hx hb dX0_readOver_63 rfl (lv_at hl 5 rfl) ?_
                             refine kz_ViY (As := [.ref ta, .int 5, .int 3]) (rest := []) (wc := [(w, kO 0 [.ref w_code, .ref w_stack, .ref w_facts, .int (nI fw_3_17), .int (nI w_top)]), (w_code, kI k 1000 aw_code_17), (ta, kO 6 [.ref ta_signs, .ref ta_words, .int (nI ta_length), .int (nI u_ta_321), .int u_ta_421, .int u_ta_521, .int u_ta_621, .long u_ta_721, .int fta_8_17]), (ta_signs, kB k 1000 ta_signsF), (ta_words, kJ k 23 ta_wordsF)]) (wr := []) ⟨hx, hb, hml, hown, hts⟩ hX hAX ha0 hK hE hP hD hS hA (sX0_readOver_5_3 l D k a0 sa sv f H.size w ta w_code w_stack w_facts fw_3_17 w_top aw_code_17 ta_signs ta_words ta_length u_ta_321 u_ta_421 u_ta_521 u_ta_621 u_ta_721 fta_8_17 ta_signsF ta_wordsF (by first | omega | assumption | decide) (by first | omega | assumption | decide) (by first | omega | assumption | decide) (by first | omega | assumption | decide)) (cwV 3 hts gX0_readOver_X0_readOver rfl rfl rfl (by decide +kernel) (by rw [hR]; exact ⟨Nat.le_of_ble_eq_true rfl, Nat.le_of_ble_eq_true rfl⟩)) [0, 1, 2, 3, 4] [] rfl rfl (by decide +kernel) (by decide +kernel) (by decide +kernel) 0 rfl rfl rfl hl.1 rfl (Nat.le_of_ble_eq_true rfl) dX0_readOver_64 (by rw [hR]; exact ⟨Nat.le_of_ble_eq_true rfl, Nat.le_of_ble_eq_true rfl⟩) (fun r23 u23 H locs hw23 hP hD hS => ?_)
                             exact by
                              obtain ⟨u_w_323, u_w_code23, u_ta_323, u_ta_423, u_ta_523, u_ta_623, u_ta_723, u_ta_823, ub23⟩ := u23
                              try dsimp only at hw23
                              obtain ⟨rfl, hw23⟩ := hw23
                              have hP : va_P D vwCl [(w, kO 0 [.ref w_code, .ref w_stack, .ref w_facts, .int (nI u_w_323), .int (nI w_top)]), (w_code, kI k 1000 u_w_code23), (ta, kO 6 [.ref ta_signs, .ref ta_words, .int (nI ta_length), .int (nI u_ta_323), .int u_ta_423, .int u_ta_523, .int u_ta_623, .long u_ta_723, .int u_ta_823]), (ta_signs, kB k 1000 ta_signsF), (ta_words, kJ k 23 ta_wordsF)] H := hP
                              have hD : va_D A [(w, kO 0 [.ref w_code, .ref w_stack, .ref w_facts, .int (nI u_w_323), .int (nI w_top)]), (w_code, kI k 1000 u_w_code23), (ta, kO 6 [.ref ta_signs, .ref ta_words, .int (nI ta_length), .int (nI u_ta_323), .int u_ta_423, .int u_ta_523, .int u_ta_623, .long u_ta_723, .int u_ta_823]), (ta_signs, kB k 1000 ta_signsF), (ta_words, kJ k 23 ta_wordsF)] := hD
                              obtain ⟨hw23_0, hw23_1, hw23_2⟩ := hw23
                              have hZ := bn9_e hw23_2 hZ
                              refine lv_if_ne (tgt := 72) hx hb dX0_readOver_67 (by decide) (fun c_24 => ?_) (fun c_24 => ?_)
                              · exact by
                                 have b_24 : ub23 = true := bB_1 c_24
                                 have hZ := (if_pos b_24).symm.trans hZ
                                 refine lv_aload_n hx hb dX0_readOver_72 rfl (lv_at hl 2 rfl) ?_
                                 refine lv_iload hx hb dX0_readOver_73 (lv_at hl 1 rfl) ?_
                                 refine kz_Vv (As := [.int r5]) (rest := []) (wc := [(w, kO 0 [.ref w_code, .ref w_stack, .ref w_facts, .int (nI u_w_323), .int (nI w_top)]), (w_code, kI k 1000 u_w_code23)]) (wr := [(ta, kO 6 [.ref ta_signs, .ref ta_words, .int (nI ta_length), .int (nI u_ta_323), .int u_ta_423, .int u_ta_523, .int u_ta_623, .long u_ta_723, .int u_ta_823]), (ta_signs, kB k 1000 ta_signsF), (ta_words, kJ k 23 ta_wordsF)]) ⟨hx, hb, hml, hown, hts⟩ hK hE hP hD hS hA (sX0_write l D k H.size w r5 w_code w_stack w_facts u_w_323 w_top u_w_code23 (by first | omega | assumption | decide) (by first | omega | assumption | decide)) (cwV 1 hts gX0_readOver_X0_write rfl rfl rfl (by decide +kernel) (by rw [hR]; exact ⟨Nat.le_of_ble_eq_true rfl, Nat.le_of_ble_eq_true rfl⟩)) [0, 1] [2, 3, 4] rfl rfl (by decide +kernel) (by decide +kernel) (by decide +kernel) 0 rfl rfl rfl hl.1 rfl (Nat.le_of_ble_eq_true rfl) dX0_readOver_75 (by rw [hR]; exact ⟨Nat.le_of_ble_eq_true rfl, Nat.le_of_ble_eq_true rfl⟩) (fun u25 H locs hw25 hP hD hS => ?_)
                                 exact by
                                  obtain ⟨u_w_325, u_w_code25⟩ := u25
                                  try dsimp only at hw25
                                  have hP : va_P D vwCl [(ta, kO 6 [.ref ta_signs, .ref ta_words, .int (nI ta_length), .int (nI u_ta_323), .int u_ta_423, .int u_ta_523, .int u_ta_623, .long u_ta_723, .int u_ta_823]), (ta_signs, kB k 1000 ta_signsF), (ta_words, kJ k 23 ta_wordsF), (w, kO 0 [.ref w_code, .ref w_stack, .ref w_facts, .int (nI u_w_325), .int (nI w_top)]), (w_code, kI k 1000 u_w_code25)] H := hP
                                  have hD : va_D A [(ta, kO 6 [.ref ta_signs, .ref ta_words, .int (nI ta_length), .int (nI u_ta_323), .int u_ta_423, .int u_ta_523, .int u_ta_623, .long u_ta_723, .int u_ta_823]), (ta_signs, kB k 1000 ta_signsF), (ta_words, kJ k 23 ta_wordsF), (w, kO 0 [.ref w_code, .ref w_stack, .ref w_facts, .int (nI u_w_325), .int (nI w_top)]), (w_code, kI k 1000 u_w_code25)] := hD
                                  obtain ⟨hw25_0, hw25_1⟩ := hw25
                                  have hZ := bn2_e hw25_1 hZ
                                  refine lv_iload hx hb dX0_readOver_78 (lv_at hl 0 rfl) ?_
                                  refine lv_iconst (v := 2) hx hb dX0_readOver_80 (by decide) ?_
                                  have hj93_26 : ∀ (s0_93 : Int32) (H : Heap) (locs : List Loc) (ls : Array Slot), ((fX0_readOver_3_3_J93b l5_17 rc17_3 u_ta_323 u_ta_423 u_ta_523 u_ta_623 u_ta_723 u_ta_823 u_w_325 u_w_code25) s0_93 = E0) → va_P D vwCl [(ta, kO 6 [.ref ta_signs, .ref ta_words, .int (nI ta_length), .int (nI u_ta_323), .int u_ta_423, .int u_ta_523, .int u_ta_623, .long u_ta_723, .int u_ta_823]), (ta_signs, kB k 1000 ta_signsF), (ta_words, kJ k 23 ta_wordsF), (w, kO 0 [.ref w_code, .ref w_stack, .ref w_facts, .int (nI u_w_325), .int (nI w_top)]), (w_code, kI k 1000 u_w_code25)] H → va_D A [(ta, kO 6 [.ref ta_signs, .ref ta_words, .int (nI ta_length), .int (nI u_ta_323), .int u_ta_423, .int u_ta_523, .int u_ta_623, .long u_ta_723, .int u_ta_823]), (ta_signs, kB k 1000 ta_signsF), (ta_words, kJ k 23 ta_wordsF), (w, kO 0 [.ref w_code, .ref w_stack, .ref w_facts, .int (nI u_w_325), .int (nI w_top)]), (w_code, kI k 1000 u_w_code25)] → va_S A s.heap H locs → lv_has ls 8 [(0, .ref w), (1, .ref ta), (2, .int 3), (3, .int 3), (4, .int l4_17), (5, .int (nI l5_17)), (6, .int r5), (7, .int 4)] → W p l e R s m args below meth c H locs 0 0 Q (F0 m 93 ls [.int s0_93]) := by
                                    intro s0_93 H locs ls hZ hP hD hS hl
                                    refine lv_istore (lv' := [(4, .int s0_93), (0, .ref w), (1, .ref ta), (2, .int 3), (3, .int 3), (5, .int (nI l5_17)), (6, .int r5), (7, .int 4)]) hx hb dX0_readOver_93 hl (by decide) rfl (fun ls hl => ?_)
                                    exact by
                                     refine lv_iinc (v := (nI (l5_17 + 1))) (lv' := [(5, .int (nI (l5_17 + 1))), (4, .int s0_93), (0, .ref w), (1, .ref ta), (2, .int 3), (3, .int 3), (6, .int r5), (7, .int 4)]) hx hb dX0_readOver_95 hl (k := 5) rfl (nI_1 _) (by decide) rfl (fun ls hl => ?_)
                                     exact by
                                      refine lv_goto (tgt := 17) hx hb dX0_readOver_98 (by decide) ?_
                                      exact ih17 s0_93 (l5_17 + 1) u_w_325 u_w_code25 u_ta_323 u_ta_423 u_ta_523 u_ta_623 u_ta_723 u_ta_823 _ _ _ (by omega) (by first | omega | assumption) (by first | omega | assumption) (by first | omega | assumption) (by rw [← hrc17_3]; exact hZ) (hP.sub [3, 4, 0, 1, 2] rfl) (hD.sub [3, 4, 0, 1, 2] (by decide +kernel) rfl) hS (lv_sub hl [2, 3, 4, 5, 1, 0] rfl)
                                  refine lv_icmp_ne (tgt := 91) hx hb dX0_readOver_81 (by decide) (fun c_28 => ?_) (fun c_28 => absurd c_28 (by decide))
                                  refine lv_iload hx hb dX0_readOver_91 (lv_at hl 0 rfl) ?_
                                  exact hj93_26 (4 : Int32) _ _ _ hZ (hP.sub [0, 1, 2, 3, 4] rfl) (hD.sub [0, 1, 2, 3, 4] (by decide +kernel) rfl) hS (lv_sub hl [2, 3, 4, 5, 6, 7, 1, 0] rfl)
                              · exact by
                                 have b_24 : ub23 = false := bB_0 c_24
                                 have hZ := (if_neg (bF b_24)).symm.trans hZ
                                 refine lv_iconst (v := 0) hx hb dX0_readOver_70 (by decide) ?_
                                 rw [hQ]
                                 have hP9 := hP.sub (ws' := [(w, kO 0 [.ref w_code, .ref w_stack, .ref w_facts, .int (nI u_w_323), .int (nI w_top)]), (w_code, kI k 1000 u_w_code23), (ta, kO 6 [.ref ta_signs, .ref ta_words, .int (nI ta_length), .int (nI u_ta_323), .int u_ta_423, .int u_ta_523, .int u_ta_623, .long u_ta_723, .int u_ta_823]), (ta_signs, kB k 1000 ta_signsF), (ta_words, kJ k 23 ta_wordsF)]) [0, 1, 2, 3, 4] rfl
                                 have hD9 := hD.sub (ws' := [(w, kO 0 [.ref w_code, .ref w_stack, .ref w_facts, .int (nI u_w_323), .int (nI w_top)]), (w_code, kI k 1000 u_w_code23), (ta, kO 6 [.ref ta_signs, .ref ta_words, .int (nI ta_length), .int (nI u_ta_323), .int u_ta_423, .int u_ta_523, .int u_ta_623, .long u_ta_723, .int u_ta_823]), (ta_signs, kB k 1000 ta_signsF), (ta_words, kJ k 23 ta_wordsF)]) [0, 1, 2, 3, 4] (by decide +kernel) rfl
                                 exact W.zret (v := 0) hx hb hr rfl (fun zt ht hW => ⟨⟨0, ⟨u_w_323, u_w_code23, u_ta_323, u_ta_423, u_ta_523, u_ta_623, u_ta_723, u_ta_823, false⟩, rfl, ⟨rfl, (by first | omega | (dsimp only; omega) | assumption), (by first | omega | (dsimp only; omega) | assumption), (hZ.trans hE0)⟩, by rw [ht]; exact hP9, hD9⟩, hS.F ht⟩) hS.2.2 dX0_readOver_71
                      · exact by
                         have t_9 : (Int32.toInt r6) > (Int32.toInt l4_17) := tI_nle rfl rfl c_9
                         have hZ := (if_neg c_9).symm.trans hZ
                         exact hj51_7 _ _ _ hZ (hP.sub [0, 1, 2, 3, 4] rfl) (hD.sub [0, 1, 2, 3, 4] (by decide +kernel) rfl) hS (lv_sub hl [2, 3, 4, 5, 6, 7, 1, 0] rfl)
        exact hloop17 ((1000 + 1 - 0) + 1) (4 : Int32) 0 u_w_31 u_w_code1 u_ta_31 u_ta_41 u_ta_51 u_ta_61 u_ta_71 u_ta_81 _ _ _ (Nat.lt_succ_self _) (by first | omega | assumption) (by first | omega | assumption) (by first | omega | assumption) hZ (hP.sub [0, 1, 2, 3, 4] rfl) (hD.sub [0, 1, 2, 3, 4] (by decide +kernel) rfl) hS (lv_sub hl [2, 3, 4, 5, 1, 0] rfl)
   · exact by
      have b_2 : ub1 = false := bB_0 c_2
      have hZ := (if_neg (bF b_2)).symm.trans hZ
      refine lv_iconst (v := 0) hx hb dX0_readOver_9 (by decide) ?_
      rw [hQ]
      have hP9 := hP.sub (ws' := [(w, kO 0 [.ref w_code, .ref w_stack, .ref w_facts, .int (nI u_w_31), .int (nI w_top)]), (w_code, kI k 1000 u_w_code1), (ta, kO 6 [.ref ta_signs, .ref ta_words, .int (nI ta_length), .int (nI u_ta_31), .int u_ta_41, .int u_ta_51, .int u_ta_61, .long u_ta_71, .int u_ta_81]), (ta_signs, kB k 1000 ta_signsF), (ta_words, kJ k 23 ta_wordsF)]) [0, 1, 2, 3, 4] rfl
      have hD9 := hD.sub (ws' := [(w, kO 0 [.ref w_code, .ref w_stack, .ref w_facts, .int (nI u_w_31), .int (nI w_top)]), (w_code, kI k 1000 u_w_code1), (ta, kO 6 [.ref ta_signs, .ref ta_words, .int (nI ta_length), .int (nI u_ta_31), .int u_ta_41, .int u_ta_51, .int u_ta_61, .long u_ta_71, .int u_ta_81]), (ta_signs, kB k 1000 ta_signsF), (ta_words, kJ k 23 ta_wordsF)]) [0, 1, 2, 3, 4] (by decide +kernel) rfl
      exact W.zret (v := 0) hx hb hr rfl (fun zt ht hW => ⟨⟨0, ⟨u_w_31, u_w_code1, u_ta_31, u_ta_41, u_ta_51, u_ta_61, u_ta_71, u_ta_81, false⟩, rfl, ⟨rfl, (by first | omega | (dsimp only; omega) | assumption), (by first | omega | (dsimp only; omega) | assumption), (hZ.trans hE0)⟩, by rw [ht]; exact hP9, hD9⟩, hS.F ht⟩) hS.2.2 dX0_readOver_10
set_option maxHeartbeats 4000000 in
set_option maxRecDepth 100000 in
theorem sX0_readOver_2_3 (l : Launch) (D : va_G) (k : Nat → ClassId) (a0 sa sv : Nat) (f : Nat → Int32) (sz : Nat) (w : Nat) (ta : Nat) (w_code : Nat) (w_stack : Nat) (w_facts : Nat) (w_length : Nat) (w_top : Nat) (w_codeF : Nat → Int32) (ta_signs : Nat) (ta_words : Nat) (ta_length : Nat) (ta_next : Nat) (ta_place : Int32) (ta_kind : Int32) (ta_value : Int32) (ta_letters : Int64) (ta_fault : Int32) (ta_signsF : Nat → Int32) (ta_wordsF : Nat → Int64) (h_w_length : w_length ≤ 1000) (h_w_top : w_top ≤ 24) (h_ta_length : ta_length ≤ 1000) (h_ta_next : ta_next ≤ 1000) : Met l yX0_readOver wsX0_readOver ({ frames := 19, cells := 0, slots := 0, locals := 1330 }) (va_Pc [.ref w, .ref ta, .int 2, .int 3] (kz_PreY D k [(w, kO 0 [.ref w_code, .ref w_stack, .ref w_facts, .int (nI w_length), .int (nI w_top)]), (w_code, kI k 1000 w_codeF), (ta, kO 6 [.ref ta_signs, .ref ta_words, .int (nI ta_length), .int (nI ta_next), .int ta_place, .int ta_kind, .int ta_value, .long ta_letters, .int ta_fault]), (ta_signs, kB k 1000 ta_signsF), (ta_words, kJ k 23 ta_wordsF)] a0 sa sv f sz)) (va_Qi (fun (rr : Int32) (uu : Nat × (Nat → Int32) × Nat × Int32 × Int32 × Int32 × Int64 × Int32 × Bool) => rr = bB uu.2.2.2.2.2.2.2.2 ∧ (uu.1 ≤ 1000) ∧ (uu.2.2.1 ≤ 1000) ∧ ((uu.1, uu.2.1, uu.2.2.1, uu.2.2.2.1, uu.2.2.2.2.1, uu.2.2.2.2.2.1, uu.2.2.2.2.2.2.1, uu.2.2.2.2.2.2.2.1, uu.2.2.2.2.2.2.2.2) = (fX0_readOver_2_3 w_length w_codeF ta_length ta_next ta_place ta_kind ta_value ta_letters ta_fault ta_signsF ta_wordsF f))) (fun uu zt => kz_B D (va_A [(w, kO 0 [.ref w_code, .ref w_stack, .ref w_facts, .int (nI w_length), .int (nI w_top)]), (w_code, kI k 1000 w_codeF), (ta, kO 6 [.ref ta_signs, .ref ta_words, .int (nI ta_length), .int (nI ta_next), .int ta_place, .int ta_kind, .int ta_value, .long ta_letters, .int ta_fault]), (ta_signs, kB k 1000 ta_signsF), (ta_words, kJ k 23 ta_wordsF)] sz) [(w, kO 0 [.ref w_code, .ref w_stack, .ref w_facts, .int (nI uu.1), .int (nI w_top)]), (w_code, kI k 1000 uu.2.1), (ta, kO 6 [.ref ta_signs, .ref ta_words, .int (nI ta_length), .int (nI uu.2.2.1), .int uu.2.2.2.1, .int uu.2.2.2.2.1, .int uu.2.2.2.2.2.1, .long uu.2.2.2.2.2.2.1, .int uu.2.2.2.2.2.2.2.1]), (ta_signs, kB k 1000 ta_signsF), (ta_words, kJ k 23 ta_wordsF)] zt) (va_A [(w, kO 0 [.ref w_code, .ref w_stack, .ref w_facts, .int (nI w_length), .int (nI w_top)]), (w_code, kI k 1000 w_codeF), (ta, kO 6 [.ref ta_signs, .ref ta_words, .int (nI ta_length), .int (nI ta_next), .int ta_place, .int ta_kind, .int ta_value, .long ta_letters, .int ta_fault]), (ta_signs, kB k 1000 ta_signsF), (ta_words, kJ k 23 ta_wordsF)] sz)) 0 0 (va_A [(w, kO 0 [.ref w_code, .ref w_stack, .ref w_facts, .int (nI w_length), .int (nI w_top)]), (w_code, kI k 1000 w_codeF), (ta, kO 6 [.ref ta_signs, .ref ta_words, .int (nI ta_length), .int (nI ta_next), .int ta_place, .int ta_kind, .int ta_value, .long ta_letters, .int ta_fault]), (ta_signs, kB k 1000 ta_signsF), (ta_words, kJ k 23 ta_wordsF)] sz) := by
  refine Met.ofW (cc := cX0_readOver) (maxL := 8) (ret := (some .boolean)) (by decide) rfl ?_
  intro p e s m args below meth c s₁ B hml hv
  obtain ⟨hav, ⟨hsz, hP, hK, hD0, hE⟩, ha0, hDa, hX⟩ := hv
  have hx := B.exec
  have hb := B.bytes
  have hr := B.returns
  have hts := atoms_spec (ws := wsX0_readOver) B.pre
  have hown : s.vm.findClass RX0 = some m.cls := findClass_of_methodNamed B.named
  have hlocks := B.notSynchronized
  subst hsz
  have hD := hD0.self (sz := s.heap.size)
  generalize hAe : va_A [(w, kO 0 [.ref w_code, .ref w_stack, .ref w_facts, .int (nI w_length), .int (nI w_top)]), (w_code, kI k 1000 w_codeF), (ta, kO 6 [.ref ta_signs, .ref ta_words, .int (nI ta_length), .int (nI ta_next), .int ta_place, .int ta_kind, .int ta_value, .long ta_letters, .int ta_fault]), (ta_signs, kB k 1000 ta_signsF), (ta_words, kJ k 23 ta_wordsF)] s.heap.size = A at hD ⊢
  have hA : ∀ q : Nat, s.heap.size ≤ q → A q := fun q h => by rw [← hAe]; exact Or.inr h
  have hAX : ∀ q, A q → a0 ≤ q := fun q h => by rw [← hAe] at h; exact h.elim (fun ⟨k9, e9, h9⟩ => hDa.2 k9 _ h9) (fun e => Nat.le_trans ha0 e)
  obtain ⟨tx71, hR71⟩ := hX.1
  have hS : va_S A s.heap s.heap [] := va_S.rf
  have hl := lv_entry ([.ref w, .ref ta, .int 2, .int 3]) (n := 8) (Nat.le_of_ble_eq_true rfl)
  rw [show entryFrame m args 8 = entryFrame m ([.ref w, .ref ta, .int 2, .int 3] : List Value).toArray 8 by rw [hav], lg_entry_eq]
  generalize (lg_sl ([.ref w, .ref ta, .int 2, .int 3]) ++ List.replicate (8 - (lg_sl ([.ref w, .ref ta, .int 2, .int 3])).length) Slot.unset).toArray = ls at hl ⊢
  have hl : lv_has ls 8 [(0, .ref w), (1, .ref ta), (2, .int 2), (3, .int 3)] := hl
  obtain ⟨R, hR⟩ : ∃ R, R = (headSpec wsX0_readOver ({ frames := 19, cells := 0, slots := 0, locals := 1330 } : Room)).room := ⟨_, rfl⟩
  rw [← hR]
  generalize hQ : MQ below _ args s 0 0 A = Q
  replace hQ := hQ.symm
  obtain ⟨H, hH⟩ : ∃ H, H = s.heap := ⟨_, rfl⟩
  rw [← hH] at hP ⊢
  have hS : va_S A s.heap H [] := by rw [hH]; exact hS
  obtain ⟨E0, hE0⟩ : ∃ E0 : Nat × (Nat → Int32) × Nat × Int32 × Int32 × Int32 × Int64 × Int32 × Bool, E0 = (fX0_readOver_2_3 w_length w_codeF ta_length ta_next ta_place ta_kind ta_value ta_letters ta_fault ta_signsF ta_wordsF f) := ⟨_, rfl⟩
  have hZ : (fX0_readOver_2_3 w_length w_codeF ta_length ta_next ta_place ta_kind ta_value ta_letters ta_fault ta_signsF ta_wordsF f) = E0 := hE0.symm
  refine lv_aload_n hx hb dX0_readOver_0 rfl (lv_at hl 0 rfl) ?_
  refine lv_aload_n hx hb dX0_readOver_1 rfl (lv_at hl 1 rfl) ?_
  refine lv_iload_n hx hb dX0_readOver_2 rfl (lv_at hl 3 rfl) ?_
  refine kz_ViY (As := [.ref ta, .int 3]) (rest := []) (wc := [(w, kO 0 [.ref w_code, .ref w_stack, .ref w_facts, .int (nI w_length), .int (nI w_top)]), (w_code, kI k 1000 w_codeF), (ta, kO 6 [.ref ta_signs, .ref ta_words, .int (nI ta_length), .int (nI ta_next), .int ta_place, .int ta_kind, .int ta_value, .long ta_letters, .int ta_fault]), (ta_signs, kB k 1000 ta_signsF), (ta_words, kJ k 23 ta_wordsF)]) (wr := []) ⟨hx, hb, hml, hown, hts⟩ hX hAX ha0 hK hE hP hD hS hA (sX0_readPart_3 l D k a0 sa sv f H.size w ta w_code w_stack w_facts w_length w_top w_codeF ta_signs ta_words ta_length ta_next ta_place ta_kind ta_value ta_letters ta_fault ta_signsF ta_wordsF (by first | omega | assumption | decide) (by first | omega | assumption | decide) (by first | omega | assumption | decide) (by first | omega | assumption | decide)) (cwV 2 hts gX0_readOver_X0_readPart rfl rfl rfl (by decide +kernel) (by rw [hR]; exact ⟨Nat.le_of_ble_eq_true rfl, Nat.le_of_ble_eq_true rfl⟩)) [0, 1, 2, 3, 4] [] rfl rfl (by decide +kernel) (by decide +kernel) (by decide +kernel) 0 rfl rfl rfl hl.1 rfl (Nat.le_of_ble_eq_true rfl) dX0_readOver_3 (by rw [hR]; exact ⟨Nat.le_of_ble_eq_true rfl, Nat.le_of_ble_eq_true rfl⟩) (fun r1 u1 H locs hw1 hP hD hS => ?_)
  exact by
   obtain ⟨u_w_31, u_w_code1, u_ta_31, u_ta_41, u_ta_51, u_ta_61, u_ta_71, u_ta_81, ub1⟩ := u1
   try dsimp only at hw1
   obtain ⟨rfl, hw1⟩ := hw1
   have hP : va_P D vwCl [(w, kO 0 [.ref w_code, .ref w_stack, .ref w_facts, .int (nI u_w_31), .int (nI w_top)]), (w_code, kI k 1000 u_w_code1), (ta, kO 6 [.ref ta_signs, .ref ta_words, .int (nI ta_length), .int (nI u_ta_31), .int u_ta_41, .int u_ta_51, .int u_ta_61, .long u_ta_71, .int u_ta_81]), (ta_signs, kB k 1000 ta_signsF), (ta_words, kJ k 23 ta_wordsF)] H := hP
   have hD : va_D A [(w, kO 0 [.ref w_code, .ref w_stack, .ref w_facts, .int (nI u_w_31), .int (nI w_top)]), (w_code, kI k 1000 u_w_code1), (ta, kO 6 [.ref ta_signs, .ref ta_words, .int (nI ta_length), .int (nI u_ta_31), .int u_ta_41, .int u_ta_51, .int u_ta_61, .long u_ta_71, .int u_ta_81]), (ta_signs, kB k 1000 ta_signsF), (ta_words, kJ k 23 ta_wordsF)] := hD
   obtain ⟨hw1_0, hw1_1, hw1_2⟩ := hw1
   have hZ := bn9_e hw1_2 hZ
   refine lv_if_ne (tgt := 11) hx hb dX0_readOver_6 (by decide) (fun c_2 => ?_) (fun c_2 => ?_)
   · exact by
      have b_2 : ub1 = true := bB_1 c_2
      have hZ := (if_pos b_2).symm.trans hZ
      refine lv_iconst (v := 4) hx hb dX0_readOver_11 (by decide) ?_
      refine lv_istore (lv' := [(4, .int 4), (0, .ref w), (1, .ref ta), (2, .int 2), (3, .int 3)]) hx hb dX0_readOver_12 hl (by decide) rfl (fun ls hl => ?_)
      exact by
       refine lv_iconst (v := 0) hx hb dX0_readOver_14 (by decide) ?_
       refine lv_istore (lv' := [(5, .int 0), (4, .int 4), (0, .ref w), (1, .ref ta), (2, .int 2), (3, .int 3)]) hx hb dX0_readOver_15 hl (by decide) rfl (fun ls hl => ?_)
       exact by
        have hloop17 : ∀ (nq : Nat) (l4_17 : Int32) (l5_17 : Nat) (fw_3_17 : Nat) (aw_code_17 : Nat → Int32) (fta_3_17 : Nat) (fta_4_17 : Int32) (fta_5_17 : Int32) (fta_6_17 : Int32) (fta_7_17 : Int64) (fta_8_17 : Int32) (H : Heap) (locs : List Loc) (ls : Array Slot), (1000 + 1 - l5_17) < nq → (l5_17 ≤ 1000) → (fw_3_17 ≤ 1000) → (fta_3_17 ≤ 1000) → (lp (fun _ _ _ _ _ _ _ _ _ _ => (0, (fun _ => 0), 0, (0 : Int32), (0 : Int32), (0 : Int32), (0 : Int64), (0 : Int32), false)) (fX0_readOver_2_3_B17a ta_length ta_signsF ta_wordsF f) nq l4_17 l5_17 fw_3_17 aw_code_17 fta_3_17 fta_4_17 fta_5_17 fta_6_17 fta_7_17 fta_8_17 = E0) → va_P D vwCl [(w, kO 0 [.ref w_code, .ref w_stack, .ref w_facts, .int (nI fw_3_17), .int (nI w_top)]), (w_code, kI k 1000 aw_code_17), (ta, kO 6 [.ref ta_signs, .ref ta_words, .int (nI ta_length), .int (nI fta_3_17), .int fta_4_17, .int fta_5_17, .int fta_6_17, .long fta_7_17, .int fta_8_17]), (ta_signs, kB k 1000 ta_signsF), (ta_words, kJ k 23 ta_wordsF)] H → va_D A [(w, kO 0 [.ref w_code, .ref w_stack, .ref w_facts, .int (nI fw_3_17), .int (nI w_top)]), (w_code, kI k 1000 aw_code_17), (ta, kO 6 [.ref ta_signs, .ref ta_words, .int (nI ta_length), .int (nI fta_3_17), .int fta_4_17, .int fta_5_17, .int fta_6_17, .long fta_7_17, .int fta_8_17]), (ta_signs, kB k 1000 ta_signsF), (ta_words, kJ k 23 ta_wordsF)] → va_S A s.heap H locs → lv_has ls 8 [(0, .ref w), (1, .ref ta), (2, .int 2), (3, .int 3), (4, .int l4_17), (5, .int (nI l5_17))] → W p l e R s m args below meth c H locs 0 0 Q (F0 m 17 ls []) := by
          intro n17
          induction n17 with
          | zero => intro l4_17 l5_17 fw_3_17 aw_code_17 fta_3_17 fta_4_17 fta_5_17 fta_6_17 fta_7_17 fta_8_17 H locs ls hm; exact absurd hm (Nat.not_lt_zero _)
          | succ n17 ih17 =>
            intro l4_17 l5_17 fw_3_17 aw_code_17 fta_3_17 fta_4_17 fta_5_17 fta_6_17 fta_7_17 fta_8_17 H locs ls hm17 i_l5_17 i_fw_3_17 i_fta_3_17 hZ hP hD hS hl
            obtain ⟨rc17_3, hrc17_3⟩ : ∃ r : Int32 → Nat → Nat → (Nat → Int32) → Nat → Int32 → Int32 → Int32 → Int64 → Int32 → Nat × (Nat → Int32) × Nat × Int32 × Int32 × Int32 × Int64 × Int32 × Bool, r = lp (fun _ _ _ _ _ _ _ _ _ _ => (0, (fun _ => 0), 0, (0 : Int32), (0 : Int32), (0 : Int32), (0 : Int64), (0 : Int32), false)) (fX0_readOver_2_3_B17a ta_length ta_signsF ta_wordsF f) n17 := ⟨_, rfl⟩
            have hZ : (fX0_readOver_2_3_B17a ta_length ta_signsF ta_wordsF f) rc17_3 l4_17 l5_17 fw_3_17 aw_code_17 fta_3_17 fta_4_17 fta_5_17 fta_6_17 fta_7_17 fta_8_17 = E0 := by rw [hrc17_3]; exact hZ
            refine lv_iload hx hb dX0_readOver_17 (lv_at hl 5 rfl) ?_
            refine lv_sipush (v := 1000) hx hb dX0_readOver_19 (by decide) ?_
            refine lv_icmp_ge (tgt := 101) hx hb dX0_readOver_22 (by decide) (fun c_4 => ?_) (fun c_4 => ?_)
            · exact by
               have k_4 : 1000 ≤ l5_17 := (nI_leI (a := 1000) (b := l5_17) (by omega) (by omega)).mp c_4
               have hZ := (if_pos k_4).symm.trans hZ
               refine lv_iconst (v := 1) hx hb dX0_readOver_101 (by decide) ?_
               rw [hQ]
               have hP9 := hP.sub (ws' := [(w, kO 0 [.ref w_code, .ref w_stack, .ref w_facts, .int (nI fw_3_17), .int (nI w_top)]), (w_code, kI k 1000 aw_code_17), (ta, kO 6 [.ref ta_signs, .ref ta_words, .int (nI ta_length), .int (nI fta_3_17), .int fta_4_17, .int fta_5_17, .int fta_6_17, .long fta_7_17, .int fta_8_17]), (ta_signs, kB k 1000 ta_signsF), (ta_words, kJ k 23 ta_wordsF)]) [0, 1, 2, 3, 4] rfl
               have hD9 := hD.sub (ws' := [(w, kO 0 [.ref w_code, .ref w_stack, .ref w_facts, .int (nI fw_3_17), .int (nI w_top)]), (w_code, kI k 1000 aw_code_17), (ta, kO 6 [.ref ta_signs, .ref ta_words, .int (nI ta_length), .int (nI fta_3_17), .int fta_4_17, .int fta_5_17, .int fta_6_17, .long fta_7_17, .int fta_8_17]), (ta_signs, kB k 1000 ta_signsF), (ta_words, kJ k 23 ta_wordsF)]) [0, 1, 2, 3, 4] (by decide +kernel) rfl
               exact W.zret (v := 1) hx hb hr rfl (fun zt ht hW => ⟨⟨1, ⟨fw_3_17, aw_code_17, fta_3_17, fta_4_17, fta_5_17, fta_6_17, fta_7_17, fta_8_17, true⟩, rfl, ⟨rfl, (by first | omega | (dsimp only; omega) | assumption), (by first | omega | (dsimp only; omega) | assumption), (hZ.trans hE0)⟩, by rw [ht]; exact hP9, hD9⟩, hS.F ht⟩) hS.2.2 dX0_readOver_102
            · exact by
               have k_4 : ¬ (1000 ≤ l5_17) := fun h => c_4 ((nI_leI (a := 1000) (b := l5_17) (by omega) (by omega)).mpr h)
               have hZ := (if_neg k_4).symm.trans hZ
               refine lv_aload_n hx hb dX0_readOver_25 rfl (lv_at hl 1 rfl) ?_
               refine kz_Si (As := [.ref ta]) (rest := []) (wc := [(ta, kO 6 [.ref ta_signs, .ref ta_words, .int (nI ta_length), .int (nI fta_3_17), .int fta_4_17, .int fta_5_17, .int fta_6_17, .long fta_7_17, .int fta_8_17])]) (wr := [(w, kO 0 [.ref w_code, .ref w_stack, .ref w_facts, .int (nI fw_3_17), .int (nI w_top)]), (w_code, kI k 1000 aw_code_17), (ta_signs, kB k 1000 ta_signsF), (ta_words, kJ k 23 ta_wordsF)]) ⟨hx, hb, hml, hown, hts⟩ hK hE hP hD hS hA (sX0_operatorAt l D k H.size ta ta_signs ta_words ta_length fta_3_17 fta_4_17 fta_5_17 fta_6_17 fta_7_17 fta_8_17 (by first | omega | assumption | decide) (by first | omega | assumption | decide)) (va_cwS 1 hts gX0_readOver_X0_operatorAt rfl rfl rfl (by decide +kernel) (by rw [hR]; exact ⟨Nat.le_of_ble_eq_true rfl, Nat.le_of_ble_eq_true rfl⟩)) [2] [0, 1, 3, 4] rfl rfl (by decide +kernel) (by decide +kernel) (by decide +kernel) rfl hl.1 rfl (Nat.le_of_ble_eq_true rfl) dX0_readOver_26 (by rw [hR]; exact ⟨Nat.le_of_ble_eq_true rfl, Nat.le_of_ble_eq_true rfl⟩) (fun r5 u5 H locs hw5 hP hD hS => ?_)
               exact by
                try dsimp only at hw5
                have hP : va_P D vwCl [(w, kO 0 [.ref w_code, .ref w_stack, .ref w_facts, .int (nI fw_3_17), .int (nI w_top)]), (w_code, kI k 1000 aw_code_17), (ta_signs, kB k 1000 ta_signsF), (ta_words, kJ k 23 ta_wordsF), (ta, kO 6 [.ref ta_signs, .ref ta_words, .int (nI ta_length), .int (nI fta_3_17), .int fta_4_17, .int fta_5_17, .int fta_6_17, .long fta_7_17, .int fta_8_17])] H := hP
                have hD : va_D A [(w, kO 0 [.ref w_code, .ref w_stack, .ref w_facts, .int (nI fw_3_17), .int (nI w_top)]), (w_code, kI k 1000 aw_code_17), (ta_signs, kB k 1000 ta_signsF), (ta_words, kJ k 23 ta_wordsF), (ta, kO 6 [.ref ta_signs, .ref ta_words, .int (nI ta_length), .int (nI fta_3_17), .int fta_4_17, .int fta_5_17, .int fta_6_17, .long fta_7_17, .int fta_8_17])] := hD
                have hw5_0 := hw5
                have hZ := bn1_e hw5_0 hZ
                refine lv_istore (lv' := [(6, .int r5), (0, .ref w), (1, .ref ta), (2, .int 2), (3, .int 3), (4, .int l4_17), (5, .int (nI l5_17))]) hx hb dX0_readOver_29 hl (by decide) rfl (fun ls hl => ?_)
                exact by
                 refine lv_iload hx hb dX0_readOver_31 (lv_at hl 0 rfl) ?_
                 refine kz_Si (As := [.int r5]) (rest := []) (wc := []) (wr := [(w, kO 0 [.ref w_code, .ref w_stack, .ref w_facts, .int (nI fw_3_17), .int (nI w_top)]), (w_code, kI k 1000 aw_code_17), (ta_signs, kB k 1000 ta_signsF), (ta_words, kJ k 23 ta_wordsF), (ta, kO 6 [.ref ta_signs, .ref ta_words, .int (nI ta_length), .int (nI fta_3_17), .int fta_4_17, .int fta_5_17, .int fta_6_17, .long fta_7_17, .int fta_8_17])]) ⟨hx, hb, hml, hown, hts⟩ hK hE hP hD hS hA (sX0_tightnessOf l D k H.size r5) (va_cwS 1 hts gX0_readOver_X0_tightnessOf rfl rfl rfl (by decide +kernel) (by rw [hR]; exact ⟨Nat.le_of_ble_eq_true rfl, Nat.le_of_ble_eq_true rfl⟩)) [] [0, 1, 2, 3, 4] rfl rfl (by decide +kernel) (by decide +kernel) (by decide +kernel) rfl hl.1 rfl (Nat.le_of_ble_eq_true rfl) dX0_readOver_33 (by rw [hR]; exact ⟨Nat.le_of_ble_eq_true rfl, Nat.le_of_ble_eq_true rfl⟩) (fun r6 u6 H locs hw6 hP hD hS => ?_)
                 exact by
                  try dsimp only at hw6
                  have hP : va_P D vwCl [(w, kO 0 [.ref w_code, .ref w_stack, .ref w_facts, .int (nI fw_3_17), .int (nI w_top)]), (w_code, kI k 1000 aw_code_17), (ta_signs, kB k 1000 ta_signsF), (ta_words, kJ k 23 ta_wordsF), (ta, kO 6 [.ref ta_signs, .ref ta_words, .int (nI ta_length), .int (nI fta_3_17), .int fta_4_17, .int fta_5_17, .int fta_6_17, .long fta_7_17, .int fta_8_17])] H := hP
                  have hD : va_D A [(w, kO 0 [.ref w_code, .ref w_stack, .ref w_facts, .int (nI fw_3_17), .int (nI w_top)]), (w_code, kI k 1000 aw_code_17), (ta_signs, kB k 1000 ta_signsF), (ta_words, kJ k 23 ta_wordsF), (ta, kO 6 [.ref ta_signs, .ref ta_words, .int (nI ta_length), .int (nI fta_3_17), .int fta_4_17, .int fta_5_17, .int fta_6_17, .long fta_7_17, .int fta_8_17])] := hD
                  obtain ⟨hw6_0, hw6_1⟩ := hw6
                  have hZ := bn1_e hw6_1 hZ
                  refine lv_istore (lv' := [(7, .int r6), (6, .int r5), (0, .ref w), (1, .ref ta), (2, .int 2), (3, .int 3), (4, .int l4_17), (5, .int (nI l5_17))]) hx hb dX0_readOver_36 hl (by decide) rfl (fun ls hl => ?_)
                  exact by
                   refine lv_iload hx hb dX0_readOver_38 (lv_at hl 0 rfl) ?_
                   refine lv_iload_n hx hb dX0_readOver_40 rfl (lv_at hl 4 rfl) ?_
                   have hj51_7 : ∀ (H : Heap) (locs : List Loc) (ls : Array Slot), ((fX0_readOver_2_3_J51a fw_3_17 aw_code_17 fta_3_17 fta_4_17 fta_5_17 fta_6_17 fta_7_17 fta_8_17) = E0) → va_P D vwCl [(w, kO 0 [.ref w_code, .ref w_stack, .ref w_facts, .int (nI fw_3_17), .int (nI w_top)]), (w_code, kI k 1000 aw_code_17), (ta_signs, kB k 1000 ta_signsF), (ta_words, kJ k 23 ta_wordsF), (ta, kO 6 [.ref ta_signs, .ref ta_words, .int (nI ta_length), .int (nI fta_3_17), .int fta_4_17, .int fta_5_17, .int fta_6_17, .long fta_7_17, .int fta_8_17])] H → va_D A [(w, kO 0 [.ref w_code, .ref w_stack, .ref w_facts, .int (nI fw_3_17), .int (nI w_top)]), (w_code, kI k 1000 aw_code_17), (ta_signs, kB k 1000 ta_signsF), (ta_words, kJ k 23 ta_wordsF), (ta, kO 6 [.ref ta_signs, .ref ta_words, .int (nI ta_length), .int (nI fta_3_17), .int fta_4_17, .int fta_5_17, .int fta_6_17, .long fta_7_17, .int fta_8_17])] → va_S A s.heap H locs → lv_has ls 8 [(0, .ref w), (1, .ref ta), (2, .int 2), (3, .int 3), (4, .int l4_17), (5, .int (nI l5_17)), (6, .int r5), (7, .int r6)] → W p l e R s m args below meth c H locs 0 0 Q (F0 m 51 ls []) := by
                     intro H locs ls hZ hP hD hS hl
                     refine lv_iconst (v := 1) hx hb dX0_readOver_51 (by decide) ?_
                     rw [hQ]
                     have hP9 := hP.sub (ws' := [(w, kO 0 [.ref w_code, .ref w_stack, .ref w_facts, .int (nI fw_3_17), .int (nI w_top)]), (w_code, kI k 1000 aw_code_17), (ta, kO 6 [.ref ta_signs, .ref ta_words, .int (nI ta_length), .int (nI fta_3_17), .int fta_4_17, .int fta_5_17, .int fta_6_17, .long fta_7_17, .int fta_8_17]), (ta_signs, kB k 1000 ta_signsF), (ta_words, kJ k 23 ta_wordsF)]) [0, 1, 4, 2, 3] rfl
                     have hD9 := hD.sub (ws' := [(w, kO 0 [.ref w_code, .ref w_stack, .ref w_facts, .int (nI fw_3_17), .int (nI w_top)]), (w_code, kI k 1000 aw_code_17), (ta, kO 6 [.ref ta_signs, .ref ta_words, .int (nI ta_length), .int (nI fta_3_17), .int fta_4_17, .int fta_5_17, .int fta_6_17, .long fta_7_17, .int fta_8_17]), (ta_signs, kB k 1000 ta_signsF), (ta_words, kJ k 23 ta_wordsF)]) [0, 1, 4, 2, 3] (by decide +kernel) rfl
                     exact W.zret (v := 1) hx hb hr rfl (fun zt ht hW => ⟨⟨1, ⟨fw_3_17, aw_code_17, fta_3_17, fta_4_17, fta_5_17, fta_6_17, fta_7_17, fta_8_17, true⟩, rfl, ⟨rfl, (by first | omega | (dsimp only; omega) | assumption), (by first | omega | (dsimp only; omega) | assumption), (hZ.trans hE0)⟩, by rw [ht]; exact hP9, hD9⟩, hS.F ht⟩) hS.2.2 dX0_readOver_52
                   refine lv_icmp_lt (tgt := 51) hx hb dX0_readOver_41 (by decide) (fun c_8 => ?_) (fun c_8 => ?_)
                   · exact by
                      have t_8 : (Int32.toInt r6) < 2 := tI_lt rfl (by decide) c_8
                      have hZ := (if_pos c_8).symm.trans hZ
                      exact hj51_7 _ _ _ hZ (hP.sub [0, 1, 2, 3, 4] rfl) (hD.sub [0, 1, 2, 3, 4] (by decide +kernel) rfl) hS (lv_sub hl [2, 3, 4, 5, 6, 7, 1, 0] rfl)
                   · exact by
                      have t_8 : (Int32.toInt r6) ≥ 2 := tI_nlt rfl (by decide) c_8
                      have hZ := (if_neg c_8).symm.trans hZ
                      refine lv_iload hx hb dX0_readOver_44 (lv_at hl 0 rfl) ?_
                      refine lv_iload hx hb dX0_readOver_46 (lv_at hl 6 rfl) ?_
                      refine lv_icmp_le (tgt := 53) hx hb dX0_readOver_48 (by decide) (fun c_9 => ?_) (fun c_9 => ?_)
                      · exact by
                         have t_9 : (Int32.toInt r6) ≤ (Int32.toInt l4_17) := tI_le rfl rfl c_9
                         have hZ := (if_pos c_9).symm.trans hZ
                         have cs10 : Int32.toInt r6 = 2 ∨ Int32.toInt r6 = 3 ∨ Int32.toInt r6 = 4 := by omega
                         have hZ9 := hZ
                         rcases cs10 with cs10 | cs10 | cs10
                         · obtain rfl : r6 = 2 := Int32.toInt_inj.mp (cs10.trans (by decide))
                           have hZ := hZ9
                           have hZ := (if_pos (rfl : (2 : Int32) = 2)).symm.trans hZ
                           refine lv_aload_n hx hb dX0_readOver_53 rfl (lv_at hl 3 rfl) ?_
                           refine kz_VvY (As := []) (rest := []) (wc := [(ta, kO 6 [.ref ta_signs, .ref ta_words, .int (nI ta_length), .int (nI fta_3_17), .int fta_4_17, .int fta_5_17, .int fta_6_17, .long fta_7_17, .int fta_8_17]), (ta_signs, kB k 1000 ta_signsF), (ta_words, kJ k 23 ta_wordsF)]) (wr := [(w, kO 0 [.ref w_code, .ref w_stack, .ref w_facts, .int (nI fw_3_17), .int (nI w_top)]), (w_code, kI k 1000 aw_code_17)]) ⟨hx, hb, hml, hown, hts⟩ hX hAX ha0 hK hE hP hD hS hA (sX6_advance l D k a0 sa sv f H.size ta ta_signs ta_words ta_length fta_3_17 fta_4_17 fta_5_17 fta_6_17 fta_7_17 fta_8_17 ta_signsF ta_wordsF (by first | omega | assumption | decide) (by first | omega | assumption | decide)) (cwV 0 hts gX0_readOver_X6_advance rfl rfl rfl (by decide +kernel) (by rw [hR]; exact ⟨Nat.le_of_ble_eq_true rfl, Nat.le_of_ble_eq_true rfl⟩)) [4, 2, 3] [0, 1] rfl rfl (by decide +kernel) (by decide +kernel) (by decide +kernel) 0 rfl rfl rfl hl.1 rfl (Nat.le_of_ble_eq_true rfl) dX0_readOver_54 (by rw [hR]; exact ⟨Nat.le_of_ble_eq_true rfl, Nat.le_of_ble_eq_true rfl⟩) (fun u12 H locs hw12 hP hD hS => ?_)
                           exact by
                            obtain ⟨u_ta_312, u_ta_412, u_ta_512, u_ta_612, u_ta_712⟩ := u12
                            try dsimp only at hw12
                            have hP : va_P D vwCl [(w, kO 0 [.ref w_code, .ref w_stack, .ref w_facts, .int (nI fw_3_17), .int (nI w_top)]), (w_code, kI k 1000 aw_code_17), (ta, kO 6 [.ref ta_signs, .ref ta_words, .int (nI ta_length), .int (nI u_ta_312), .int u_ta_412, .int u_ta_512, .int u_ta_612, .long u_ta_712, .int fta_8_17]), (ta_signs, kB k 1000 ta_signsF), (ta_words, kJ k 23 ta_wordsF)] H := hP
                            have hD : va_D A [(w, kO 0 [.ref w_code, .ref w_stack, .ref w_facts, .int (nI fw_3_17), .int (nI w_top)]), (w_code, kI k 1000 aw_code_17), (ta, kO 6 [.ref ta_signs, .ref ta_words, .int (nI ta_length), .int (nI u_ta_312), .int u_ta_412, .int u_ta_512, .int u_ta_612, .long u_ta_712, .int fta_8_17]), (ta_signs, kB k 1000 ta_signsF), (ta_words, kJ k 23 ta_wordsF)] := hD
                            obtain ⟨hw12_0, hw12_1⟩ := hw12
                            have hZ := bn5_e hw12_1 hZ
                            refine lv_aload_n hx hb dX0_readOver_57 rfl (lv_at hl 2 rfl) ?_
                            refine lv_aload_n hx hb dX0_readOver_58 rfl (lv_at hl 3 rfl) ?_
                            refine lv_iload hx hb dX0_readOver_59 (lv_at hl 0 rfl) ?_
                            refine lv_iconst (v := 1) hx hb dX0_readOver_61 (by decide) ?_
                            refine lv_iadd hx hb dX0_readOver_62 ?_
                            refine lv_topi (fun x13 ex13 => ?_)
                            exact by
                             obtain rfl : x13 = 3 := ex13.trans (by decide)
                             refine lv_iload_n hx hb dX0_readOver_63 rfl (lv_at hl 5 rfl) ?_
                             refine kz_ViY (As := [.ref ta, .int 3, .int 3]) (rest := []) (wc := [(w, kO 0 [.ref w_code, .ref w_stack, .ref w_facts, .int (nI fw_3_17), .int (nI w_top)]), (w_code, kI k 1000 aw_code_17), (ta, kO 6 [.ref ta_signs, .ref ta_words, .int (nI ta_length), .int (nI u_ta_312), .int u_ta_412, .int u_ta_512, .int u_ta_612, .long u_ta_712, .int fta_8_17]), (ta_signs, kB k 1000 ta_signsF), (ta_words, kJ k 23 ta_wordsF)]) (wr := []) ⟨hx, hb, hml, hown, hts⟩ hX hAX ha0 hK hE hP hD hS hA (sX0_readOver_3_3 l D k a0 sa sv f H.size w ta w_code w_stack w_facts fw_3_17 w_top aw_code_17 ta_signs ta_words ta_length u_ta_312 u_ta_412 u_ta_512 u_ta_612 u_ta_712 fta_8_17 ta_signsF ta_wordsF (by first | omega | assumption | decide) (by first | omega | assumption | decide) (by first | omega | assumption | decide) (by first | omega | assumption | decide)) (cwV 3 hts gX0_readOver_X0_readOver rfl rfl rfl (by decide +kernel) (by rw [hR]; exact ⟨Nat.le_of_ble_eq_true rfl, Nat.le_of_ble_eq_true rfl⟩)) [0, 1, 2, 3, 4] [] rfl rfl (by decide +kernel) (by decide +kernel) (by decide +kernel) 0 rfl rfl rfl hl.1 rfl (Nat.le_of_ble_eq_true rfl) dX0_readOver_64 (by rw [hR]; exact ⟨Nat.le_of_ble_eq_true rfl, Nat.le_of_ble_eq_true rfl⟩) (fun r14 u14 H locs hw14 hP hD hS => ?_)
                             exact by
                              obtain ⟨u_w_314, u_w_code14, u_ta_314, u_ta_414, u_ta_514, u_ta_614, u_ta_714, u_ta_814, ub14⟩ := u14
                              try dsimp only at hw14
                              obtain ⟨rfl, hw14⟩ := hw14
                              have hP : va_P D vwCl [(w, kO 0 [.ref w_code, .ref w_stack, .ref w_facts, .int (nI u_w_314), .int (nI w_top)]), (w_code, kI k 1000 u_w_code14), (ta, kO 6 [.ref ta_signs, .ref ta_words, .int (nI ta_length), .int (nI u_ta_314), .int u_ta_414, .int u_ta_514, .int u_ta_614, .long u_ta_714, .int u_ta_814]), (ta_signs, kB k 1000 ta_signsF), (ta_words, kJ k 23 ta_wordsF)] H := hP
                              have hD : va_D A [(w, kO 0 [.ref w_code, .ref w_stack, .ref w_facts, .int (nI u_w_314), .int (nI w_top)]), (w_code, kI k 1000 u_w_code14), (ta, kO 6 [.ref ta_signs, .ref ta_words, .int (nI ta_length), .int (nI u_ta_314), .int u_ta_414, .int u_ta_514, .int u_ta_614, .long u_ta_714, .int u_ta_814]), (ta_signs, kB k 1000 ta_signsF), (ta_words, kJ k 23 ta_wordsF)] := hD
                              obtain ⟨hw14_0, hw14_1, hw14_2⟩ := hw14
                              have hZ := bn9_e hw14_2 hZ
                              refine lv_if_ne (tgt := 72) hx hb dX0_readOver_67 (by decide) (fun c_15 => ?_) (fun c_15 => ?_)
                              · exact by
                                 have b_15 : ub14 = true := bB_1 c_15
                                 have hZ := (if_pos b_15).symm.trans hZ
                                 refine lv_aload_n hx hb dX0_readOver_72 rfl (lv_at hl 2 rfl) ?_
                                 refine lv_iload hx hb dX0_readOver_73 (lv_at hl 1 rfl) ?_
                                 refine kz_Vv (As := [.int r5]) (rest := []) (wc := [(w, kO 0 [.ref w_code, .ref w_stack, .ref w_facts, .int (nI u_w_314), .int (nI w_top)]), (w_code, kI k 1000 u_w_code14)]) (wr := [(ta, kO 6 [.ref ta_signs, .ref ta_words, .int (nI ta_length), .int (nI u_ta_314), .int u_ta_414, .int u_ta_514, .int u_ta_614, .long u_ta_714, .int u_ta_814]), (ta_signs, kB k 1000 ta_signsF), (ta_words, kJ k 23 ta_wordsF)]) ⟨hx, hb, hml, hown, hts⟩ hK hE hP hD hS hA (sX0_write l D k H.size w r5 w_code w_stack w_facts u_w_314 w_top u_w_code14 (by first | omega | assumption | decide) (by first | omega | assumption | decide)) (cwV 1 hts gX0_readOver_X0_write rfl rfl rfl (by decide +kernel) (by rw [hR]; exact ⟨Nat.le_of_ble_eq_true rfl, Nat.le_of_ble_eq_true rfl⟩)) [0, 1] [2, 3, 4] rfl rfl (by decide +kernel) (by decide +kernel) (by decide +kernel) 0 rfl rfl rfl hl.1 rfl (Nat.le_of_ble_eq_true rfl) dX0_readOver_75 (by rw [hR]; exact ⟨Nat.le_of_ble_eq_true rfl, Nat.le_of_ble_eq_true rfl⟩) (fun u16 H locs hw16 hP hD hS => ?_)
                                 exact by
                                  obtain ⟨u_w_316, u_w_code16⟩ := u16
                                  try dsimp only at hw16
                                  have hP : va_P D vwCl [(ta, kO 6 [.ref ta_signs, .ref ta_words, .int (nI ta_length), .int (nI u_ta_314), .int u_ta_414, .int u_ta_514, .int u_ta_614, .long u_ta_714, .int u_ta_814]), (ta_signs, kB k 1000 ta_signsF), (ta_words, kJ k 23 ta_wordsF), (w, kO 0 [.ref w_code, .ref w_stack, .ref w_facts, .int (nI u_w_316), .int (nI w_top)]), (w_code, kI k 1000 u_w_code16)] H := hP
                                  have hD : va_D A [(ta, kO 6 [.ref ta_signs, .ref ta_words, .int (nI ta_length), .int (nI u_ta_314), .int u_ta_414, .int u_ta_514, .int u_ta_614, .long u_ta_714, .int u_ta_814]), (ta_signs, kB k 1000 ta_signsF), (ta_words, kJ k 23 ta_wordsF), (w, kO 0 [.ref w_code, .ref w_stack, .ref w_facts, .int (nI u_w_316), .int (nI w_top)]), (w_code, kI k 1000 u_w_code16)] := hD
                                  obtain ⟨hw16_0, hw16_1⟩ := hw16
                                  have hZ := bn2_e hw16_1 hZ
                                  refine lv_iload hx hb dX0_readOver_78 (lv_at hl 0 rfl) ?_
                                  refine lv_iconst (v := 2) hx hb dX0_readOver_80 (by decide) ?_
                                  have hj93_17 : ∀ (s0_93 : Int32) (H : Heap) (locs : List Loc) (ls : Array Slot), ((fX0_readOver_2_3_J93a l5_17 rc17_3 u_ta_314 u_ta_414 u_ta_514 u_ta_614 u_ta_714 u_ta_814 u_w_316 u_w_code16) s0_93 = E0) → va_P D vwCl [(ta, kO 6 [.ref ta_signs, .ref ta_words, .int (nI ta_length), .int (nI u_ta_314), .int u_ta_414, .int u_ta_514, .int u_ta_614, .long u_ta_714, .int u_ta_814]), (ta_signs, kB k 1000 ta_signsF), (ta_words, kJ k 23 ta_wordsF), (w, kO 0 [.ref w_code, .ref w_stack, .ref w_facts, .int (nI u_w_316), .int (nI w_top)]), (w_code, kI k 1000 u_w_code16)] H → va_D A [(ta, kO 6 [.ref ta_signs, .ref ta_words, .int (nI ta_length), .int (nI u_ta_314), .int u_ta_414, .int u_ta_514, .int u_ta_614, .long u_ta_714, .int u_ta_814]), (ta_signs, kB k 1000 ta_signsF), (ta_words, kJ k 23 ta_wordsF), (w, kO 0 [.ref w_code, .ref w_stack, .ref w_facts, .int (nI u_w_316), .int (nI w_top)]), (w_code, kI k 1000 u_w_code16)] → va_S A s.heap H locs → lv_has ls 8 [(0, .ref w), (1, .ref ta), (2, .int 2), (3, .int 3), (4, .int l4_17), (5, .int (nI l5_17)), (6, .int r5), (7, .int 2)] → W p l e R s m args below meth c H locs 0 0 Q (F0 m 93 ls [.int s0_93]) := by
                                    intro s0_93 H locs ls hZ hP hD hS hl
                                    refine lv_istore (lv' := [(4, .int s0_93), (0, .ref w), (1, .ref ta), (2, .int 2), (3, .int 3), (5, .int (nI l5_17)), (6, .int r5), (7, .int 2)]) hx hb dX0_readOver_93 hl (by decide) rfl (fun ls hl => ?_)
                                    exact by
                                     refine lv_iinc (v := (nI (l5_17 + 1))) (lv' := [(5, .int (nI (l5_17 + 1))), (4, .int s0_93), (0, .ref w), (1, .ref ta), (2, .int 2), (3, .int 3), (6, .int r5), (7, .int 2)]) hx hb dX0_readOver_95 hl (k := 5) rfl (nI_1 _) (by decide) rfl (fun ls hl => ?_)
                                     exact by
                                      refine lv_goto (tgt := 17) hx hb dX0_readOver_98 (by decide) ?_
                                      exact ih17 s0_93 (l5_17 + 1) u_w_316 u_w_code16 u_ta_314 u_ta_414 u_ta_514 u_ta_614 u_ta_714 u_ta_814 _ _ _ (by omega) (by first | omega | assumption) (by first | omega | assumption) (by first | omega | assumption) (by rw [← hrc17_3]; exact hZ) (hP.sub [3, 4, 0, 1, 2] rfl) (hD.sub [3, 4, 0, 1, 2] (by decide +kernel) rfl) hS (lv_sub hl [2, 3, 4, 5, 1, 0] rfl)
                                  refine lv_icmp_ne (tgt := 91) hx hb dX0_readOver_81 (by decide) (fun c_19 => absurd (by decide) c_19) (fun c_19 => ?_)
                                  exact by
                                   refine lv_iload hx hb dX0_readOver_84 (lv_at hl 0 rfl) ?_
                                   refine lv_iconst (v := 1) hx hb dX0_readOver_86 (by decide) ?_
                                   refine lv_isub hx hb dX0_readOver_87 ?_
                                   refine lv_topi (fun x20 ex20 => ?_)
                                   exact by
                                    obtain rfl : x20 = 1 := ex20.trans (by decide)
                                    refine lv_goto (tgt := 93) hx hb dX0_readOver_88 (by decide) ?_
                                    exact hj93_17 (1 : Int32) _ _ _ hZ (hP.sub [0, 1, 2, 3, 4] rfl) (hD.sub [0, 1, 2, 3, 4] (by decide +kernel) rfl) hS (lv_sub hl [2, 3, 4, 5, 6, 7, 1, 0] rfl)
                              · exact by
                                 have b_15 : ub14 = false := bB_0 c_15
                                 have hZ := (if_neg (bF b_15)).symm.trans hZ
                                 refine lv_iconst (v := 0) hx hb dX0_readOver_70 (by decide) ?_
                                 rw [hQ]
                                 have hP9 := hP.sub (ws' := [(w, kO 0 [.ref w_code, .ref w_stack, .ref w_facts, .int (nI u_w_314), .int (nI w_top)]), (w_code, kI k 1000 u_w_code14), (ta, kO 6 [.ref ta_signs, .ref ta_words, .int (nI ta_length), .int (nI u_ta_314), .int u_ta_414, .int u_ta_514, .int u_ta_614, .long u_ta_714, .int u_ta_814]), (ta_signs, kB k 1000 ta_signsF), (ta_words, kJ k 23 ta_wordsF)]) [0, 1, 2, 3, 4] rfl
                                 have hD9 := hD.sub (ws' := [(w, kO 0 [.ref w_code, .ref w_stack, .ref w_facts, .int (nI u_w_314), .int (nI w_top)]), (w_code, kI k 1000 u_w_code14), (ta, kO 6 [.ref ta_signs, .ref ta_words, .int (nI ta_length), .int (nI u_ta_314), .int u_ta_414, .int u_ta_514, .int u_ta_614, .long u_ta_714, .int u_ta_814]), (ta_signs, kB k 1000 ta_signsF), (ta_words, kJ k 23 ta_wordsF)]) [0, 1, 2, 3, 4] (by decide +kernel) rfl
                                 exact W.zret (v := 0) hx hb hr rfl (fun zt ht hW => ⟨⟨0, ⟨u_w_314, u_w_code14, u_ta_314, u_ta_414, u_ta_514, u_ta_614, u_ta_714, u_ta_814, false⟩, rfl, ⟨rfl, (by first | omega | (dsimp only; omega) | assumption), (by first | omega | (dsimp only; omega) | assumption), (hZ.trans hE0)⟩, by rw [ht]; exact hP9, hD9⟩, hS.F ht⟩) hS.2.2 dX0_readOver_71
                         · obtain rfl : r6 = 3 := Int32.toInt_inj.mp (cs10.trans (by decide))
                           have hZ := hZ9
                           have hZ := (if_neg (by decide : ¬ ((3 : Int32) = 2))).symm.trans hZ
                           have hZ := (if_pos (rfl : (3 : Int32) = 3)).symm.trans hZ
                           refine lv_aload_n hx hb dX0_readOver_53 rfl (lv_at hl 3 rfl) ?_
                           refine kz_VvY (As := []) (rest := []) (wc := [(ta, kO 6 [.ref ta_signs, .ref ta_words, .int (nI ta_length), .int (nI fta_3_17), .int fta_4_17, .int fta_5_17, .int fta_6_17, .long fta_7_17, .int fta_8_17]), (ta_signs, kB k 1000 ta_signsF), (ta_words, kJ k 23 ta_wordsF)]) (wr := [(w, kO 0 [.ref w_code, .ref w_stack, .ref w_facts, .int (nI fw_3_17), .int (nI w_top)]), (w_code, kI k 1000 aw_code_17)]) ⟨hx, hb, hml, hown, hts⟩ hX hAX ha0 hK hE hP hD hS hA (sX6_advance l D k a0 sa sv f H.size ta ta_signs ta_words ta_length fta_3_17 fta_4_17 fta_5_17 fta_6_17 fta_7_17 fta_8_17 ta_signsF ta_wordsF (by first | omega | assumption | decide) (by first | omega | assumption | decide)) (cwV 0 hts gX0_readOver_X6_advance rfl rfl rfl (by decide +kernel) (by rw [hR]; exact ⟨Nat.le_of_ble_eq_true rfl, Nat.le_of_ble_eq_true rfl⟩)) [4, 2, 3] [0, 1] rfl rfl (by decide +kernel) (by decide +kernel) (by decide +kernel) 0 rfl rfl rfl hl.1 rfl (Nat.le_of_ble_eq_true rfl) dX0_readOver_54 (by rw [hR]; exact ⟨Nat.le_of_ble_eq_true rfl, Nat.le_of_ble_eq_true rfl⟩) (fun u22 H locs hw22 hP hD hS => ?_)
                           exact by
                            obtain ⟨u_ta_322, u_ta_422, u_ta_522, u_ta_622, u_ta_722⟩ := u22
                            try dsimp only at hw22
                            have hP : va_P D vwCl [(w, kO 0 [.ref w_code, .ref w_stack, .ref w_facts, .int (nI fw_3_17), .int (nI w_top)]), (w_code, kI k 1000 aw_code_17), (ta, kO 6 [.ref ta_signs, .ref ta_words, .int (nI ta_length), .int (nI u_ta_322), .int u_ta_422, .int u_ta_522, .int u_ta_622, .long u_ta_722, .int fta_8_17]), (ta_signs, kB k 1000 ta_signsF), (ta_words, kJ k 23 ta_wordsF)] H := hP
                            have hD : va_D A [(w, kO 0 [.ref w_code, .ref w_stack, .ref w_facts, .int (nI fw_3_17), .int (nI w_top)]), (w_code, kI k 1000 aw_code_17), (ta, kO 6 [.ref ta_signs, .ref ta_words, .int (nI ta_length), .int (nI u_ta_322), .int u_ta_422, .int u_ta_522, .int u_ta_622, .long u_ta_722, .int fta_8_17]), (ta_signs, kB k 1000 ta_signsF), (ta_words, kJ k 23 ta_wordsF)] := hD
                            obtain ⟨hw22_0, hw22_1⟩ := hw22
                            have hZ := bn5_e hw22_1 hZ
                            refine lv_aload_n hx hb dX0_readOver_57 rfl (lv_at hl 2 rfl) ?_
                            refine lv_aload_n hx hb dX0_readOver_58 rfl (lv_at hl 3 rfl) ?_
                            refine lv_iload hx hb dX0_readOver_59 (lv_at hl 0 rfl) ?_
                            refine lv_iconst (v := 1) hx hb dX0_readOver_61 (by decide) ?_
                            refine lv_iadd hx hb dX0_readOver_62 ?_
                            refine lv_topi (fun x23 ex23 => ?_)
                            exact by
                             obtain rfl : x23 = 4 := ex23.trans (by decide)
                             refine lv_iload_n hx hb dX0_readOver_63 rfl (lv_at hl 5 rfl) ?_
                             refine kz_ViY (As := [.ref ta, .int 4, .int 3]) (rest := []) (wc := [(w, kO 0 [.ref w_code, .ref w_stack, .ref w_facts, .int (nI fw_3_17), .int (nI w_top)]), (w_code, kI k 1000 aw_code_17), (ta, kO 6 [.ref ta_signs, .ref ta_words, .int (nI ta_length), .int (nI u_ta_322), .int u_ta_422, .int u_ta_522, .int u_ta_622, .long u_ta_722, .int fta_8_17]), (ta_signs, kB k 1000 ta_signsF), (ta_words, kJ k 23 ta_wordsF)]) (wr := []) ⟨hx, hb, hml, hown, hts⟩ hX hAX ha0 hK hE hP hD hS hA (sX0_readOver_4_3 l D k a0 sa sv f H.size w ta w_code w_stack w_facts fw_3_17 w_top aw_code_17 ta_signs ta_words ta_length u_ta_322 u_ta_422 u_ta_522 u_ta_622 u_ta_722 fta_8_17 ta_signsF ta_wordsF (by first | omega | assumption | decide) (by first | omega | assumption | decide) (by first | omega | assumption | decide) (by first | omega | assumption | decide)) (cwV 3 hts gX0_readOver_X0_readOver rfl rfl rfl (by decide +kernel) (by rw [hR]; exact ⟨Nat.le_of_ble_eq_true rfl, Nat.le_of_ble_eq_true rfl⟩)) [0, 1, 2, 3, 4] [] rfl rfl (by decide +kernel) (by decide +kernel) (by decide +kernel) 0 rfl rfl rfl hl.1 rfl (Nat.le_of_ble_eq_true rfl) dX0_readOver_64 (by rw [hR]; exact ⟨Nat.le_of_ble_eq_true rfl, Nat.le_of_ble_eq_true rfl⟩) (fun r24 u24 H locs hw24 hP hD hS => ?_)
                             exact by
                              obtain ⟨u_w_324, u_w_code24, u_ta_324, u_ta_424, u_ta_524, u_ta_624, u_ta_724, u_ta_824, ub24⟩ := u24
                              try dsimp only at hw24
                              obtain ⟨rfl, hw24⟩ := hw24
                              have hP : va_P D vwCl [(w, kO 0 [.ref w_code, .ref w_stack, .ref w_facts, .int (nI u_w_324), .int (nI w_top)]), (w_code, kI k 1000 u_w_code24), (ta, kO 6 [.ref ta_signs, .ref ta_words, .int (nI ta_length), .int (nI u_ta_324), .int u_ta_424, .int u_ta_524, .int u_ta_624, .long u_ta_724, .int u_ta_824]), (ta_signs, kB k 1000 ta_signsF), (ta_words, kJ k 23 ta_wordsF)] H := hP
                              have hD : va_D A [(w, kO 0 [.ref w_code, .ref w_stack, .ref w_facts, .int (nI u_w_324), .int (nI w_top)]), (w_code, kI k 1000 u_w_code24), (ta, kO 6 [.ref ta_signs, .ref ta_words, .int (nI ta_length), .int (nI u_ta_324), .int u_ta_424, .int u_ta_524, .int u_ta_624, .long u_ta_724, .int u_ta_824]), (ta_signs, kB k 1000 ta_signsF), (ta_words, kJ k 23 ta_wordsF)] := hD
                              obtain ⟨hw24_0, hw24_1, hw24_2⟩ := hw24
                              have hZ := bn9_e hw24_2 hZ
                              refine lv_if_ne (tgt := 72) hx hb dX0_readOver_67 (by decide) (fun c_25 => ?_) (fun c_25 => ?_)
                              · exact by
                                 have b_25 : ub24 = true := bB_1 c_25
                                 have hZ := (if_pos b_25).symm.trans hZ
                                 refine lv_aload_n hx hb dX0_readOver_72 rfl (lv_at hl 2 rfl) ?_
                                 refine lv_iload hx hb dX0_readOver_73 (lv_at hl 1 rfl) ?_
                                 refine kz_Vv (As := [.int r5]) (rest := []) (wc := [(w, kO 0 [.ref w_code, .ref w_stack, .ref w_facts, .int (nI u_w_324), .int (nI w_top)]), (w_code, kI k 1000 u_w_code24)]) (wr := [(ta, kO 6 [.ref ta_signs, .ref ta_words, .int (nI ta_length), .int (nI u_ta_324), .int u_ta_424, .int u_ta_524, .int u_ta_624, .long u_ta_724, .int u_ta_824]), (ta_signs, kB k 1000 ta_signsF), (ta_words, kJ k 23 ta_wordsF)]) ⟨hx, hb, hml, hown, hts⟩ hK hE hP hD hS hA (sX0_write l D k H.size w r5 w_code w_stack w_facts u_w_324 w_top u_w_code24 (by first | omega | assumption | decide) (by first | omega | assumption | decide)) (cwV 1 hts gX0_readOver_X0_write rfl rfl rfl (by decide +kernel) (by rw [hR]; exact ⟨Nat.le_of_ble_eq_true rfl, Nat.le_of_ble_eq_true rfl⟩)) [0, 1] [2, 3, 4] rfl rfl (by decide +kernel) (by decide +kernel) (by decide +kernel) 0 rfl rfl rfl hl.1 rfl (Nat.le_of_ble_eq_true rfl) dX0_readOver_75 (by rw [hR]; exact ⟨Nat.le_of_ble_eq_true rfl, Nat.le_of_ble_eq_true rfl⟩) (fun u26 H locs hw26 hP hD hS => ?_)
                                 exact by
                                  obtain ⟨u_w_326, u_w_code26⟩ := u26
                                  try dsimp only at hw26
                                  have hP : va_P D vwCl [(ta, kO 6 [.ref ta_signs, .ref ta_words, .int (nI ta_length), .int (nI u_ta_324), .int u_ta_424, .int u_ta_524, .int u_ta_624, .long u_ta_724, .int u_ta_824]), (ta_signs, kB k 1000 ta_signsF), (ta_words, kJ k 23 ta_wordsF), (w, kO 0 [.ref w_code, .ref w_stack, .ref w_facts, .int (nI u_w_326), .int (nI w_top)]), (w_code, kI k 1000 u_w_code26)] H := hP
                                  have hD : va_D A [(ta, kO 6 [.ref ta_signs, .ref ta_words, .int (nI ta_length), .int (nI u_ta_324), .int u_ta_424, .int u_ta_524, .int u_ta_624, .long u_ta_724, .int u_ta_824]), (ta_signs, kB k 1000 ta_signsF), (ta_words, kJ k 23 ta_wordsF), (w, kO 0 [.ref w_code, .ref w_stack, .ref w_facts, .int (nI u_w_326), .int (nI w_top)]), (w_code, kI k 1000 u_w_code26)] := hD
                                  obtain ⟨hw26_0, hw26_1⟩ := hw26
                                  have hZ := bn2_e hw26_1 hZ
                                  refine lv_iload hx hb dX0_readOver_78 (lv_at hl 0 rfl) ?_
                                  refine lv_iconst (v := 2) hx hb dX0_readOver_80 (by decide) ?_
                                  have hj93_27 : ∀ (s0_93 : Int32) (H : Heap) (locs : List Loc) (ls : Array Slot), ((fX0_readOver_2_3_J93b l5_17 rc17_3 u_ta_324 u_ta_424 u_ta_524 u_ta_624 u_ta_724 u_ta_824 u_w_326 u_w_code26) s0_93 = E0) → va_P D vwCl [(ta, kO 6 [.ref ta_signs, .ref ta_words, .int (nI ta_length), .int (nI u_ta_324), .int u_ta_424, .int u_ta_524, .int u_ta_624, .long u_ta_724, .int u_ta_824]), (ta_signs, kB k 1000 ta_signsF), (ta_words, kJ k 23 ta_wordsF), (w, kO 0 [.ref w_code, .ref w_stack, .ref w_facts, .int (nI u_w_326), .int (nI w_top)]), (w_code, kI k 1000 u_w_code26)] H → va_D A [(ta, kO 6 [.ref ta_signs, .ref ta_words, .int (nI ta_length), .int (nI u_ta_324), .int u_ta_424, .int u_ta_524, .int u_ta_624, .long u_ta_724, .int u_ta_824]), (ta_signs, kB k 1000 ta_signsF), (ta_words, kJ k 23 ta_wordsF), (w, kO 0 [.ref w_code, .ref w_stack, .ref w_facts, .int (nI u_w_326), .int (nI w_top)]), (w_code, kI k 1000 u_w_code26)] → va_S A s.heap H locs → lv_has ls 8 [(0, .ref w), (1, .ref ta), (2, .int 2), (3, .int 3), (4, .int l4_17), (5, .int (nI l5_17)), (6, .int r5), (7, .int 3)] → W p l e R s m args below meth c H locs 0 0 Q (F0 m 93 ls [.int s0_93]) := by
                                    intro s0_93 H locs ls hZ hP hD hS hl
                                    refine lv_istore (lv' := [(4, .int s0_93), (0, .ref w), (1, .ref ta), (2, .int 2), (3, .int 3), (5, .int (nI l5_17)), (6, .int r5), (7, .int 3)]) hx hb dX0_readOver_93 hl (by decide) rfl (fun ls hl => ?_)
                                    exact by
                                     refine lv_iinc (v := (nI (l5_17 + 1))) (lv' := [(5, .int (nI (l5_17 + 1))), (4, .int s0_93), (0, .ref w), (1, .ref ta), (2, .int 2), (3, .int 3), (6, .int r5), (7, .int 3)]) hx hb dX0_readOver_95 hl (k := 5) rfl (nI_1 _) (by decide) rfl (fun ls hl => ?_)
                                     exact by
                                      refine lv_goto (tgt := 17) hx hb dX0_readOver_98 (by decide) ?_
                                      exact ih17 s0_93 (l5_17 + 1) u_w_326 u_w_code26 u_ta_324 u_ta_424 u_ta_524 u_ta_624 u_ta_724 u_ta_824 _ _ _ (by omega) (by first | omega | assumption) (by first | omega | assumption) (by first | omega | assumption) (by rw [← hrc17_3]; exact hZ) (hP.sub [3, 4, 0, 1, 2] rfl) (hD.sub [3, 4, 0, 1, 2] (by decide +kernel) rfl) hS (lv_sub hl [2, 3, 4, 5, 1, 0] rfl)
                                  refine lv_icmp_ne (tgt := 91) hx hb dX0_readOver_81 (by decide) (fun c_29 => ?_) (fun c_29 => absurd c_29 (by decide))
                                  refine lv_iload hx hb dX0_readOver_91 (lv_at hl 0 rfl) ?_
                                  exact hj93_27 (3 : Int32) _ _ _ hZ (hP.sub [0, 1, 2, 3, 4] rfl) (hD.sub [0, 1, 2, 3, 4] (by decide +kernel) rfl) hS (lv_sub hl [2, 3, 4, 5, 6, 7, 1, 0] rfl)
                              · exact by
                                 have b_25 : ub24 = false := bB_0 c_25
                                 have hZ := (if_neg (bF b_25)).symm.trans hZ
                                 refine lv_iconst (v := 0) hx hb dX0_readOver_70 (by decide) ?_
                                 rw [hQ]
                                 have hP9 := hP.sub (ws' := [(w, kO 0 [.ref w_code, .ref w_stack, .ref w_facts, .int (nI u_w_324), .int (nI w_top)]), (w_code, kI k 1000 u_w_code24), (ta, kO 6 [.ref ta_signs, .ref ta_words, .int (nI ta_length), .int (nI u_ta_324), .int u_ta_424, .int u_ta_524, .int u_ta_624, .long u_ta_724, .int u_ta_824]), (ta_signs, kB k 1000 ta_signsF), (ta_words, kJ k 23 ta_wordsF)]) [0, 1, 2, 3, 4] rfl
                                 have hD9 := hD.sub (ws' := [(w, kO 0 [.ref w_code, .ref w_stack, .ref w_facts, .int (nI u_w_324), .int (nI w_top)]), (w_code, kI k 1000 u_w_code24), (ta, kO 6 [.ref ta_signs, .ref ta_words, .int (nI ta_length), .int (nI u_ta_324), .int u_ta_424, .int u_ta_524, .int u_ta_624, .long u_ta_724, .int u_ta_824]), (ta_signs, kB k 1000 ta_signsF), (ta_words, kJ k 23 ta_wordsF)]) [0, 1, 2, 3, 4] (by decide +kernel) rfl
                                 exact W.zret (v := 0) hx hb hr rfl (fun zt ht hW => ⟨⟨0, ⟨u_w_324, u_w_code24, u_ta_324, u_ta_424, u_ta_524, u_ta_624, u_ta_724, u_ta_824, false⟩, rfl, ⟨rfl, (by first | omega | (dsimp only; omega) | assumption), (by first | omega | (dsimp only; omega) | assumption), (hZ.trans hE0)⟩, by rw [ht]; exact hP9, hD9⟩, hS.F ht⟩) hS.2.2 dX0_readOver_71
                         · obtain rfl : r6 = 4 := Int32.toInt_inj.mp (cs10.trans (by decide))
                           have hZ := hZ9
                           have hZ := (if_neg (by decide : ¬ ((4 : Int32) = 2))).symm.trans hZ
                           have hZ := (if_neg (by decide : ¬ ((4 : Int32) = 3))).symm.trans hZ
                           refine lv_aload_n hx hb dX0_readOver_53 rfl (lv_at hl 3 rfl) ?_
                           refine kz_VvY (As := []) (rest := []) (wc := [(ta, kO 6 [.ref ta_signs, .ref ta_words, .int (nI ta_length), .int (nI fta_3_17), .int fta_4_17, .int fta_5_17, .int fta_6_17, .long fta_7_17, .int fta_8_17]), (ta_signs, kB k 1000 ta_signsF), (ta_words, kJ k 23 ta_wordsF)]) (wr := [(w, kO 0 [.ref w_code, .ref w_stack, .ref w_facts, .int (nI fw_3_17), .int (nI w_top)]), (w_code, kI k 1000 aw_code_17)]) ⟨hx, hb, hml, hown, hts⟩ hX hAX ha0 hK hE hP hD hS hA (sX6_advance l D k a0 sa sv f H.size ta ta_signs ta_words ta_length fta_3_17 fta_4_17 fta_5_17 fta_6_17 fta_7_17 fta_8_17 ta_signsF ta_wordsF (by first | omega | assumption | decide) (by first | omega | assumption | decide)) (cwV 0 hts gX0_readOver_X6_advance rfl rfl rfl (by decide +kernel) (by rw [hR]; exact ⟨Nat.le_of_ble_eq_true rfl, Nat.le_of_ble_eq_true rfl⟩)) [4, 2, 3] [0, 1] rfl rfl (by decide +kernel) (by decide +kernel) (by decide +kernel) 0 rfl rfl rfl hl.1 rfl (Nat.le_of_ble_eq_true rfl) dX0_readOver_54 (by rw [hR]; exact ⟨Nat.le_of_ble_eq_true rfl, Nat.le_of_ble_eq_true rfl⟩) (fun u31 H locs hw31 hP hD hS => ?_)
                           exact by
                            obtain ⟨u_ta_331, u_ta_431, u_ta_531, u_ta_631, u_ta_731⟩ := u31
                            try dsimp only at hw31
                            have hP : va_P D vwCl [(w, kO 0 [.ref w_code, .ref w_stack, .ref w_facts, .int (nI fw_3_17), .int (nI w_top)]), (w_code, kI k 1000 aw_code_17), (ta, kO 6 [.ref ta_signs, .ref ta_words, .int (nI ta_length), .int (nI u_ta_331), .int u_ta_431, .int u_ta_531, .int u_ta_631, .long u_ta_731, .int fta_8_17]), (ta_signs, kB k 1000 ta_signsF), (ta_words, kJ k 23 ta_wordsF)] H := hP
                            have hD : va_D A [(w, kO 0 [.ref w_code, .ref w_stack, .ref w_facts, .int (nI fw_3_17), .int (nI w_top)]), (w_code, kI k 1000 aw_code_17), (ta, kO 6 [.ref ta_signs, .ref ta_words, .int (nI ta_length), .int (nI u_ta_331), .int u_ta_431, .int u_ta_531, .int u_ta_631, .long u_ta_731, .int fta_8_17]), (ta_signs, kB k 1000 ta_signsF), (ta_words, kJ k 23 ta_wordsF)] := hD
                            obtain ⟨hw31_0, hw31_1⟩ := hw31
                            have hZ := bn5_e hw31_1 hZ
                            refine lv_aload_n hx hb dX0_readOver_57 rfl (lv_at hl 2 rfl) ?_
                            refine lv_aload_n hx hb dX0_readOver_58 rfl (lv_at hl 3 rfl) ?_
                            refine lv_iload hx hb dX0_readOver_59 (lv_at hl 0 rfl) ?_
                            refine lv_iconst (v := 1) hx hb dX0_readOver_61 (by decide) ?_
                            refine lv_iadd hx hb dX0_readOver_62 ?_
                            refine lv_topi (fun x32 ex32 => ?_)
                            exact by
                             obtain rfl : x32 = 5 := ex32.trans (by decide)
                             refine lv_iload_n hx hb dX0_readOver_63 rfl (lv_at hl 5 rfl) ?_
                             refine kz_ViY (As := [.ref ta, .int 5, .int 3]) (rest := []) (wc := [(w, kO 0 [.ref w_code, .ref w_stack, .ref w_facts, .int (nI fw_3_17), .int (nI w_top)]), (w_code, kI k 1000 aw_code_17), (ta, kO 6 [.ref ta_signs, .ref ta_words, .int (nI ta_length), .int (nI u_ta_331), .int u_ta_431, .int u_ta_531, .int u_ta_631, .long u_ta_731, .int fta_8_17]), (ta_signs, kB k 1000 ta_signsF), (ta_words, kJ k 23 ta_wordsF)]) (wr := []) ⟨hx, hb, hml, hown, hts⟩ hX hAX ha0 hK hE hP hD hS hA (sX0_readOver_5_3 l D k a0 sa sv f H.size w ta w_code w_stack w_facts fw_3_17 w_top aw_code_17 ta_signs ta_words ta_length u_ta_331 u_ta_431 u_ta_531 u_ta_631 u_ta_731 fta_8_17 ta_signsF ta_wordsF (by first | omega | assumption | decide) (by first | omega | assumption | decide) (by first | omega | assumption | decide) (by first | omega | assumption | decide)) (cwV 3 hts gX0_readOver_X0_readOver rfl rfl rfl (by decide +kernel) (by rw [hR]; exact ⟨Nat.le_of_ble_eq_true rfl, Nat.le_of_ble_eq_true rfl⟩)) [0, 1, 2, 3, 4] [] rfl rfl (by decide +kernel) (by decide +kernel) (by decide +kernel) 0 rfl rfl rfl hl.1 rfl (Nat.le_of_ble_eq_true rfl) dX0_readOver_64 (by rw [hR]; exact ⟨Nat.le_of_ble_eq_true rfl, Nat.le_of_ble_eq_true rfl⟩) (fun r33 u33 H locs hw33 hP hD hS => ?_)
                             exact by
                              obtain ⟨u_w_333, u_w_code33, u_ta_333, u_ta_433, u_ta_533, u_ta_633, u_ta_733, u_ta_833, ub33⟩ := u33
                              try dsimp only at hw33
                              obtain ⟨rfl, hw33⟩ := hw33
                              have hP : va_P D vwCl [(w, kO 0 [.ref w_code, .ref w_stack, .ref w_facts, .int (nI u_w_333), .int (nI w_top)]), (w_code, kI k 1000 u_w_code33), (ta, kO 6 [.ref ta_signs, .ref ta_words, .int (nI ta_length), .int (nI u_ta_333), .int u_ta_433, .int u_ta_533, .int u_ta_633, .long u_ta_733, .int u_ta_833]), (ta_signs, kB k 1000 ta_signsF), (ta_words, kJ k 23 ta_wordsF)] H := hP
                              have hD : va_D A [(w, kO 0 [.ref w_code, .ref w_stack, .ref w_facts, .int (nI u_w_333), .int (nI w_top)]), (w_code, kI k 1000 u_w_code33), (ta, kO 6 [.ref ta_signs, .ref ta_words, .int (nI ta_length), .int (nI u_ta_333), .int u_ta_433, .int u_ta_533, .int u_ta_633, .long u_ta_733, .int u_ta_833]), (ta_signs, kB k 1000 ta_signsF), (ta_words, kJ k 23 ta_wordsF)] := hD
                              obtain ⟨hw33_0, hw33_1, hw33_2⟩ := hw33
                              have hZ := bn9_e hw33_2 hZ
                              refine lv_if_ne (tgt := 72) hx hb dX0_readOver_67 (by decide) (fun c_34 => ?_) (fun c_34 => ?_)
                              · exact by
                                 have b_34 : ub33 = true := bB_1 c_34
                                 have hZ := (if_pos b_34).symm.trans hZ
                                 refine lv_aload_n hx hb dX0_readOver_72 rfl (lv_at hl 2 rfl) ?_
                                 refine lv_iload hx hb dX0_readOver_73 (lv_at hl 1 rfl) ?_
                                 refine kz_Vv (As := [.int r5]) (rest := []) (wc := [(w, kO 0 [.ref w_code, .ref w_stack, .ref w_facts, .int (nI u_w_333), .int (nI w_top)]), (w_code, kI k 1000 u_w_code33)]) (wr := [(ta, kO 6 [.ref ta_signs, .ref ta_words, .int (nI ta_length), .int (nI u_ta_333), .int u_ta_433, .int u_ta_533, .int u_ta_633, .long u_ta_733, .int u_ta_833]), (ta_signs, kB k 1000 ta_signsF), (ta_words, kJ k 23 ta_wordsF)]) ⟨hx, hb, hml, hown, hts⟩ hK hE hP hD hS hA (sX0_write l D k H.size w r5 w_code w_stack w_facts u_w_333 w_top u_w_code33 (by first | omega | assumption | decide) (by first | omega | assumption | decide)) (cwV 1 hts gX0_readOver_X0_write rfl rfl rfl (by decide +kernel) (by rw [hR]; exact ⟨Nat.le_of_ble_eq_true rfl, Nat.le_of_ble_eq_true rfl⟩)) [0, 1] [2, 3, 4] rfl rfl (by decide +kernel) (by decide +kernel) (by decide +kernel) 0 rfl rfl rfl hl.1 rfl (Nat.le_of_ble_eq_true rfl) dX0_readOver_75 (by rw [hR]; exact ⟨Nat.le_of_ble_eq_true rfl, Nat.le_of_ble_eq_true rfl⟩) (fun u35 H locs hw35 hP hD hS => ?_)
                                 exact by
                                  obtain ⟨u_w_335, u_w_code35⟩ := u35
                                  try dsimp only at hw35
                                  have hP : va_P D vwCl [(ta, kO 6 [.ref ta_signs, .ref ta_words, .int (nI ta_length), .int (nI u_ta_333), .int u_ta_433, .int u_ta_533, .int u_ta_633, .long u_ta_733, .int u_ta_833]), (ta_signs, kB k 1000 ta_signsF), (ta_words, kJ k 23 ta_wordsF), (w, kO 0 [.ref w_code, .ref w_stack, .ref w_facts, .int (nI u_w_335), .int (nI w_top)]), (w_code, kI k 1000 u_w_code35)] H := hP
                                  have hD : va_D A [(ta, kO 6 [.ref ta_signs, .ref ta_words, .int (nI ta_length), .int (nI u_ta_333), .int u_ta_433, .int u_ta_533, .int u_ta_633, .long u_ta_733, .int u_ta_833]), (ta_signs, kB k 1000 ta_signsF), (ta_words, kJ k 23 ta_wordsF), (w, kO 0 [.ref w_code, .ref w_stack, .ref w_facts, .int (nI u_w_335), .int (nI w_top)]), (w_code, kI k 1000 u_w_code35)] := hD
                                  obtain ⟨hw35_0, hw35_1⟩ := hw35
                                  have hZ := bn2_e hw35_1 hZ
                                  refine lv_iload hx hb dX0_readOver_78 (lv_at hl 0 rfl) ?_
                                  refine lv_iconst (v := 2) hx hb dX0_readOver_80 (by decide) ?_
                                  have hj93_36 : ∀ (s0_93 : Int32) (H : Heap) (locs : List Loc) (ls : Array Slot), ((fX0_readOver_2_3_J93c l5_17 rc17_3 u_ta_333 u_ta_433 u_ta_533 u_ta_633 u_ta_733 u_ta_833 u_w_335 u_w_code35) s0_93 = E0) → va_P D vwCl [(ta, kO 6 [.ref ta_signs, .ref ta_words, .int (nI ta_length), .int (nI u_ta_333), .int u_ta_433, .int u_ta_533, .int u_ta_633, .long u_ta_733, .int u_ta_833]), (ta_signs, kB k 1000 ta_signsF), (ta_words, kJ k 23 ta_wordsF), (w, kO 0 [.ref w_code, .ref w_stack, .ref w_facts, .int (nI u_w_335), .int (nI w_top)]), (w_code, kI k 1000 u_w_code35)] H → va_D A [(ta, kO 6 [.ref ta_signs, .ref ta_words, .int (nI ta_length), .int (nI u_ta_333), .int u_ta_433, .int u_ta_533, .int u_ta_633, .long u_ta_733, .int u_ta_833]), (ta_signs, kB k 1000 ta_signsF), (ta_words, kJ k 23 ta_wordsF), (w, kO 0 [.ref w_code, .ref w_stack, .ref w_facts, .int (nI u_w_335), .int (nI w_top)]), (w_code, kI k 1000 u_w_code35)] → va_S A s.heap H locs → lv_has ls 8 [(0, .ref w), (1, .ref ta), (2, .int 2), (3, .int 3), (4, .int l4_17), (5, .int (nI l5_17)), (6, .int r5), (7, .int 4)] → W p l e R s m args below meth c H locs 0 0 Q (F0 m 93 ls [.int s0_93]) := by
                                    intro s0_93 H locs ls hZ hP hD hS hl
                                    refine lv_istore (lv' := [(4, .int s0_93), (0, .ref w), (1, .ref ta), (2, .int 2), (3, .int 3), (5, .int (nI l5_17)), (6, .int r5), (7, .int 4)]) hx hb dX0_readOver_93 hl (by decide) rfl (fun ls hl => ?_)
                                    exact by
                                     refine lv_iinc (v := (nI (l5_17 + 1))) (lv' := [(5, .int (nI (l5_17 + 1))), (4, .int s0_93), (0, .ref w), (1, .ref ta), (2, .int 2), (3, .int 3), (6, .int r5), (7, .int 4)]) hx hb dX0_readOver_95 hl (k := 5) rfl (nI_1 _) (by decide) rfl (fun ls hl => ?_)
                                     exact by
                                      refine lv_goto (tgt := 17) hx hb dX0_readOver_98 (by decide) ?_
                                      exact ih17 s0_93 (l5_17 + 1) u_w_335 u_w_code35 u_ta_333 u_ta_433 u_ta_533 u_ta_633 u_ta_733 u_ta_833 _ _ _ (by omega) (by first | omega | assumption) (by first | omega | assumption) (by first | omega | assumption) (by rw [← hrc17_3]; exact hZ) (hP.sub [3, 4, 0, 1, 2] rfl) (hD.sub [3, 4, 0, 1, 2] (by decide +kernel) rfl) hS (lv_sub hl [2, 3, 4, 5, 1, 0] rfl)
                                  refine lv_icmp_ne (tgt := 91) hx hb dX0_readOver_81 (by decide) (fun c_38 => ?_) (fun c_38 => absurd c_38 (by decide))
                                  refine lv_iload hx hb dX0_readOver_91 (lv_at hl 0 rfl) ?_
                                  exact hj93_36 (4 : Int32) _ _ _ hZ (hP.sub [0, 1, 2, 3, 4] rfl) (hD.sub [0, 1, 2, 3, 4] (by decide +kernel) rfl) hS (lv_sub hl [2, 3, 4, 5, 6, 7, 1, 0] rfl)
                              · exact by
                                 have b_34 : ub33 = false := bB_0 c_34
                                 have hZ := (if_neg (bF b_34)).symm.trans hZ
                                 refine lv_iconst (v := 0) hx hb dX0_readOver_70 (by decide) ?_
                                 rw [hQ]
                                 have hP9 := hP.sub (ws' := [(w, kO 0 [.ref w_code, .ref w_stack, .ref w_facts, .int (nI u_w_333), .int (nI w_top)]), (w_code, kI k 1000 u_w_code33), (ta, kO 6 [.ref ta_signs, .ref ta_words, .int (nI ta_length), .int (nI u_ta_333), .int u_ta_433, .int u_ta_533, .int u_ta_633, .long u_ta_733, .int u_ta_833]), (ta_signs, kB k 1000 ta_signsF), (ta_words, kJ k 23 ta_wordsF)]) [0, 1, 2, 3, 4] rfl
                                 have hD9 := hD.sub (ws' := [(w, kO 0 [.ref w_code, .ref w_stack, .ref w_facts, .int (nI u_w_333), .int (nI w_top)]), (w_code, kI k 1000 u_w_code33), (ta, kO 6 [.ref ta_signs, .ref ta_words, .int (nI ta_length), .int (nI u_ta_333), .int u_ta_433, .int u_ta_533, .int u_ta_633, .long u_ta_733, .int u_ta_833]), (ta_signs, kB k 1000 ta_signsF), (ta_words, kJ k 23 ta_wordsF)]) [0, 1, 2, 3, 4] (by decide +kernel) rfl
                                 exact W.zret (v := 0) hx hb hr rfl (fun zt ht hW => ⟨⟨0, ⟨u_w_333, u_w_code33, u_ta_333, u_ta_433, u_ta_533, u_ta_633, u_ta_733, u_ta_833, false⟩, rfl, ⟨rfl, (by first | omega | (dsimp only; omega) | assumption), (by first | omega | (dsimp only; omega) | assumption), (hZ.trans hE0)⟩, by rw [ht]; exact hP9, hD9⟩, hS.F ht⟩) hS.2.2 dX0_readOver_71
                      · exact by
                         have t_9 : (Int32.toInt r6) > (Int32.toInt l4_17) := tI_nle rfl rfl c_9
                         have hZ := (if_neg c_9).symm.trans hZ
                         exact hj51_7 _ _ _ hZ (hP.sub [0, 1, 2, 3, 4] rfl) (hD.sub [0, 1, 2, 3, 4] (by decide +kernel) rfl) hS (lv_sub hl [2, 3, 4, 5, 6, 7, 1, 0] rfl)
        exact hloop17 ((1000 + 1 - 0) + 1) (4 : Int32) 0 u_w_31 u_w_code1 u_ta_31 u_ta_41 u_ta_51 u_ta_61 u_ta_71 u_ta_81 _ _ _ (Nat.lt_succ_self _) (by first | omega | assumption) (by first | omega | assumption) (by first | omega | assumption) hZ (hP.sub [0, 1, 2, 3, 4] rfl) (hD.sub [0, 1, 2, 3, 4] (by decide +kernel) rfl) hS (lv_sub hl [2, 3, 4, 5, 1, 0] rfl)
   · exact by
      have b_2 : ub1 = false := bB_0 c_2
      have hZ := (if_neg (bF b_2)).symm.trans hZ
      refine lv_iconst (v := 0) hx hb dX0_readOver_9 (by decide) ?_
      rw [hQ]
      have hP9 := hP.sub (ws' := [(w, kO 0 [.ref w_code, .ref w_stack, .ref w_facts, .int (nI u_w_31), .int (nI w_top)]), (w_code, kI k 1000 u_w_code1), (ta, kO 6 [.ref ta_signs, .ref ta_words, .int (nI ta_length), .int (nI u_ta_31), .int u_ta_41, .int u_ta_51, .int u_ta_61, .long u_ta_71, .int u_ta_81]), (ta_signs, kB k 1000 ta_signsF), (ta_words, kJ k 23 ta_wordsF)]) [0, 1, 2, 3, 4] rfl
      have hD9 := hD.sub (ws' := [(w, kO 0 [.ref w_code, .ref w_stack, .ref w_facts, .int (nI u_w_31), .int (nI w_top)]), (w_code, kI k 1000 u_w_code1), (ta, kO 6 [.ref ta_signs, .ref ta_words, .int (nI ta_length), .int (nI u_ta_31), .int u_ta_41, .int u_ta_51, .int u_ta_61, .long u_ta_71, .int u_ta_81]), (ta_signs, kB k 1000 ta_signsF), (ta_words, kJ k 23 ta_wordsF)]) [0, 1, 2, 3, 4] (by decide +kernel) rfl
      exact W.zret (v := 0) hx hb hr rfl (fun zt ht hW => ⟨⟨0, ⟨u_w_31, u_w_code1, u_ta_31, u_ta_41, u_ta_51, u_ta_61, u_ta_71, u_ta_81, false⟩, rfl, ⟨rfl, (by first | omega | (dsimp only; omega) | assumption), (by first | omega | (dsimp only; omega) | assumption), (hZ.trans hE0)⟩, by rw [ht]; exact hP9, hD9⟩, hS.F ht⟩) hS.2.2 dX0_readOver_10
set_option maxHeartbeats 4000000 in
set_option maxRecDepth 100000 in
theorem sX0_readOver_1_3 (l : Launch) (D : va_G) (k : Nat → ClassId) (a0 sa sv : Nat) (f : Nat → Int32) (sz : Nat) (w : Nat) (ta : Nat) (w_code : Nat) (w_stack : Nat) (w_facts : Nat) (w_length : Nat) (w_top : Nat) (w_codeF : Nat → Int32) (ta_signs : Nat) (ta_words : Nat) (ta_length : Nat) (ta_next : Nat) (ta_place : Int32) (ta_kind : Int32) (ta_value : Int32) (ta_letters : Int64) (ta_fault : Int32) (ta_signsF : Nat → Int32) (ta_wordsF : Nat → Int64) (h_w_length : w_length ≤ 1000) (h_w_top : w_top ≤ 24) (h_ta_length : ta_length ≤ 1000) (h_ta_next : ta_next ≤ 1000) : Met l yX0_readOver wsX0_readOver ({ frames := 20, cells := 0, slots := 0, locals := 1400 }) (va_Pc [.ref w, .ref ta, .int 1, .int 3] (kz_PreY D k [(w, kO 0 [.ref w_code, .ref w_stack, .ref w_facts, .int (nI w_length), .int (nI w_top)]), (w_code, kI k 1000 w_codeF), (ta, kO 6 [.ref ta_signs, .ref ta_words, .int (nI ta_length), .int (nI ta_next), .int ta_place, .int ta_kind, .int ta_value, .long ta_letters, .int ta_fault]), (ta_signs, kB k 1000 ta_signsF), (ta_words, kJ k 23 ta_wordsF)] a0 sa sv f sz)) (va_Qi (fun (rr : Int32) (uu : Nat × (Nat → Int32) × Nat × Int32 × Int32 × Int32 × Int64 × Int32 × Bool) => rr = bB uu.2.2.2.2.2.2.2.2 ∧ (uu.1 ≤ 1000) ∧ (uu.2.2.1 ≤ 1000) ∧ ((uu.1, uu.2.1, uu.2.2.1, uu.2.2.2.1, uu.2.2.2.2.1, uu.2.2.2.2.2.1, uu.2.2.2.2.2.2.1, uu.2.2.2.2.2.2.2.1, uu.2.2.2.2.2.2.2.2) = (fX0_readOver_1_3 w_length w_codeF ta_length ta_next ta_place ta_kind ta_value ta_letters ta_fault ta_signsF ta_wordsF f))) (fun uu zt => kz_B D (va_A [(w, kO 0 [.ref w_code, .ref w_stack, .ref w_facts, .int (nI w_length), .int (nI w_top)]), (w_code, kI k 1000 w_codeF), (ta, kO 6 [.ref ta_signs, .ref ta_words, .int (nI ta_length), .int (nI ta_next), .int ta_place, .int ta_kind, .int ta_value, .long ta_letters, .int ta_fault]), (ta_signs, kB k 1000 ta_signsF), (ta_words, kJ k 23 ta_wordsF)] sz) [(w, kO 0 [.ref w_code, .ref w_stack, .ref w_facts, .int (nI uu.1), .int (nI w_top)]), (w_code, kI k 1000 uu.2.1), (ta, kO 6 [.ref ta_signs, .ref ta_words, .int (nI ta_length), .int (nI uu.2.2.1), .int uu.2.2.2.1, .int uu.2.2.2.2.1, .int uu.2.2.2.2.2.1, .long uu.2.2.2.2.2.2.1, .int uu.2.2.2.2.2.2.2.1]), (ta_signs, kB k 1000 ta_signsF), (ta_words, kJ k 23 ta_wordsF)] zt) (va_A [(w, kO 0 [.ref w_code, .ref w_stack, .ref w_facts, .int (nI w_length), .int (nI w_top)]), (w_code, kI k 1000 w_codeF), (ta, kO 6 [.ref ta_signs, .ref ta_words, .int (nI ta_length), .int (nI ta_next), .int ta_place, .int ta_kind, .int ta_value, .long ta_letters, .int ta_fault]), (ta_signs, kB k 1000 ta_signsF), (ta_words, kJ k 23 ta_wordsF)] sz)) 0 0 (va_A [(w, kO 0 [.ref w_code, .ref w_stack, .ref w_facts, .int (nI w_length), .int (nI w_top)]), (w_code, kI k 1000 w_codeF), (ta, kO 6 [.ref ta_signs, .ref ta_words, .int (nI ta_length), .int (nI ta_next), .int ta_place, .int ta_kind, .int ta_value, .long ta_letters, .int ta_fault]), (ta_signs, kB k 1000 ta_signsF), (ta_words, kJ k 23 ta_wordsF)] sz) := by
  refine Met.ofW (cc := cX0_readOver) (maxL := 8) (ret := (some .boolean)) (by decide) rfl ?_
  intro p e s m args below meth c s₁ B hml hv
  obtain ⟨hav, ⟨hsz, hP, hK, hD0, hE⟩, ha0, hDa, hX⟩ := hv
  have hx := B.exec
  have hb := B.bytes
  have hr := B.returns
  have hts := atoms_spec (ws := wsX0_readOver) B.pre
  have hown : s.vm.findClass RX0 = some m.cls := findClass_of_methodNamed B.named
  have hlocks := B.notSynchronized
  subst hsz
  have hD := hD0.self (sz := s.heap.size)
  generalize hAe : va_A [(w, kO 0 [.ref w_code, .ref w_stack, .ref w_facts, .int (nI w_length), .int (nI w_top)]), (w_code, kI k 1000 w_codeF), (ta, kO 6 [.ref ta_signs, .ref ta_words, .int (nI ta_length), .int (nI ta_next), .int ta_place, .int ta_kind, .int ta_value, .long ta_letters, .int ta_fault]), (ta_signs, kB k 1000 ta_signsF), (ta_words, kJ k 23 ta_wordsF)] s.heap.size = A at hD ⊢
  have hA : ∀ q : Nat, s.heap.size ≤ q → A q := fun q h => by rw [← hAe]; exact Or.inr h
  have hAX : ∀ q, A q → a0 ≤ q := fun q h => by rw [← hAe] at h; exact h.elim (fun ⟨k9, e9, h9⟩ => hDa.2 k9 _ h9) (fun e => Nat.le_trans ha0 e)
  obtain ⟨tx71, hR71⟩ := hX.1
  have hS : va_S A s.heap s.heap [] := va_S.rf
  have hl := lv_entry ([.ref w, .ref ta, .int 1, .int 3]) (n := 8) (Nat.le_of_ble_eq_true rfl)
  rw [show entryFrame m args 8 = entryFrame m ([.ref w, .ref ta, .int 1, .int 3] : List Value).toArray 8 by rw [hav], lg_entry_eq]
  generalize (lg_sl ([.ref w, .ref ta, .int 1, .int 3]) ++ List.replicate (8 - (lg_sl ([.ref w, .ref ta, .int 1, .int 3])).length) Slot.unset).toArray = ls at hl ⊢
  have hl : lv_has ls 8 [(0, .ref w), (1, .ref ta), (2, .int 1), (3, .int 3)] := hl
  obtain ⟨R, hR⟩ : ∃ R, R = (headSpec wsX0_readOver ({ frames := 20, cells := 0, slots := 0, locals := 1400 } : Room)).room := ⟨_, rfl⟩
  rw [← hR]
  generalize hQ : MQ below _ args s 0 0 A = Q
  replace hQ := hQ.symm
  obtain ⟨H, hH⟩ : ∃ H, H = s.heap := ⟨_, rfl⟩
  rw [← hH] at hP ⊢
  have hS : va_S A s.heap H [] := by rw [hH]; exact hS
  obtain ⟨E0, hE0⟩ : ∃ E0 : Nat × (Nat → Int32) × Nat × Int32 × Int32 × Int32 × Int64 × Int32 × Bool, E0 = (fX0_readOver_1_3 w_length w_codeF ta_length ta_next ta_place ta_kind ta_value ta_letters ta_fault ta_signsF ta_wordsF f) := ⟨_, rfl⟩
  have hZ : (fX0_readOver_1_3 w_length w_codeF ta_length ta_next ta_place ta_kind ta_value ta_letters ta_fault ta_signsF ta_wordsF f) = E0 := hE0.symm
  refine lv_aload_n hx hb dX0_readOver_0 rfl (lv_at hl 0 rfl) ?_
  refine lv_aload_n hx hb dX0_readOver_1 rfl (lv_at hl 1 rfl) ?_
  refine lv_iload_n hx hb dX0_readOver_2 rfl (lv_at hl 3 rfl) ?_
  refine kz_ViY (As := [.ref ta, .int 3]) (rest := []) (wc := [(w, kO 0 [.ref w_code, .ref w_stack, .ref w_facts, .int (nI w_length), .int (nI w_top)]), (w_code, kI k 1000 w_codeF), (ta, kO 6 [.ref ta_signs, .ref ta_words, .int (nI ta_length), .int (nI ta_next), .int ta_place, .int ta_kind, .int ta_value, .long ta_letters, .int ta_fault]), (ta_signs, kB k 1000 ta_signsF), (ta_words, kJ k 23 ta_wordsF)]) (wr := []) ⟨hx, hb, hml, hown, hts⟩ hX hAX ha0 hK hE hP hD hS hA (sX0_readPart_3 l D k a0 sa sv f H.size w ta w_code w_stack w_facts w_length w_top w_codeF ta_signs ta_words ta_length ta_next ta_place ta_kind ta_value ta_letters ta_fault ta_signsF ta_wordsF (by first | omega | assumption | decide) (by first | omega | assumption | decide) (by first | omega | assumption | decide) (by first | omega | assumption | decide)) (cwV 2 hts gX0_readOver_X0_readPart rfl rfl rfl (by decide +kernel) (by rw [hR]; exact ⟨Nat.le_of_ble_eq_true rfl, Nat.le_of_ble_eq_true rfl⟩)) [0, 1, 2, 3, 4] [] rfl rfl (by decide +kernel) (by decide +kernel) (by decide +kernel) 0 rfl rfl rfl hl.1 rfl (Nat.le_of_ble_eq_true rfl) dX0_readOver_3 (by rw [hR]; exact ⟨Nat.le_of_ble_eq_true rfl, Nat.le_of_ble_eq_true rfl⟩) (fun r1 u1 H locs hw1 hP hD hS => ?_)
  exact by
   obtain ⟨u_w_31, u_w_code1, u_ta_31, u_ta_41, u_ta_51, u_ta_61, u_ta_71, u_ta_81, ub1⟩ := u1
   try dsimp only at hw1
   obtain ⟨rfl, hw1⟩ := hw1
   have hP : va_P D vwCl [(w, kO 0 [.ref w_code, .ref w_stack, .ref w_facts, .int (nI u_w_31), .int (nI w_top)]), (w_code, kI k 1000 u_w_code1), (ta, kO 6 [.ref ta_signs, .ref ta_words, .int (nI ta_length), .int (nI u_ta_31), .int u_ta_41, .int u_ta_51, .int u_ta_61, .long u_ta_71, .int u_ta_81]), (ta_signs, kB k 1000 ta_signsF), (ta_words, kJ k 23 ta_wordsF)] H := hP
   have hD : va_D A [(w, kO 0 [.ref w_code, .ref w_stack, .ref w_facts, .int (nI u_w_31), .int (nI w_top)]), (w_code, kI k 1000 u_w_code1), (ta, kO 6 [.ref ta_signs, .ref ta_words, .int (nI ta_length), .int (nI u_ta_31), .int u_ta_41, .int u_ta_51, .int u_ta_61, .long u_ta_71, .int u_ta_81]), (ta_signs, kB k 1000 ta_signsF), (ta_words, kJ k 23 ta_wordsF)] := hD
   obtain ⟨hw1_0, hw1_1, hw1_2⟩ := hw1
   have hZ := bn9_e hw1_2 hZ
   refine lv_if_ne (tgt := 11) hx hb dX0_readOver_6 (by decide) (fun c_2 => ?_) (fun c_2 => ?_)
   · exact by
      have b_2 : ub1 = true := bB_1 c_2
      have hZ := (if_pos b_2).symm.trans hZ
      refine lv_iconst (v := 4) hx hb dX0_readOver_11 (by decide) ?_
      refine lv_istore (lv' := [(4, .int 4), (0, .ref w), (1, .ref ta), (2, .int 1), (3, .int 3)]) hx hb dX0_readOver_12 hl (by decide) rfl (fun ls hl => ?_)
      exact by
       refine lv_iconst (v := 0) hx hb dX0_readOver_14 (by decide) ?_
       refine lv_istore (lv' := [(5, .int 0), (4, .int 4), (0, .ref w), (1, .ref ta), (2, .int 1), (3, .int 3)]) hx hb dX0_readOver_15 hl (by decide) rfl (fun ls hl => ?_)
       exact by
        have hloop17 : ∀ (nq : Nat) (l4_17 : Int32) (l5_17 : Nat) (fw_3_17 : Nat) (aw_code_17 : Nat → Int32) (fta_3_17 : Nat) (fta_4_17 : Int32) (fta_5_17 : Int32) (fta_6_17 : Int32) (fta_7_17 : Int64) (fta_8_17 : Int32) (H : Heap) (locs : List Loc) (ls : Array Slot), (1000 + 1 - l5_17) < nq → (l5_17 ≤ 1000) → (fw_3_17 ≤ 1000) → (fta_3_17 ≤ 1000) → (lp (fun _ _ _ _ _ _ _ _ _ _ => (0, (fun _ => 0), 0, (0 : Int32), (0 : Int32), (0 : Int32), (0 : Int64), (0 : Int32), false)) (fX0_readOver_1_3_B17a ta_length ta_signsF ta_wordsF f) nq l4_17 l5_17 fw_3_17 aw_code_17 fta_3_17 fta_4_17 fta_5_17 fta_6_17 fta_7_17 fta_8_17 = E0) → va_P D vwCl [(w, kO 0 [.ref w_code, .ref w_stack, .ref w_facts, .int (nI fw_3_17), .int (nI w_top)]), (w_code, kI k 1000 aw_code_17), (ta, kO 6 [.ref ta_signs, .ref ta_words, .int (nI ta_length), .int (nI fta_3_17), .int fta_4_17, .int fta_5_17, .int fta_6_17, .long fta_7_17, .int fta_8_17]), (ta_signs, kB k 1000 ta_signsF), (ta_words, kJ k 23 ta_wordsF)] H → va_D A [(w, kO 0 [.ref w_code, .ref w_stack, .ref w_facts, .int (nI fw_3_17), .int (nI w_top)]), (w_code, kI k 1000 aw_code_17), (ta, kO 6 [.ref ta_signs, .ref ta_words, .int (nI ta_length), .int (nI fta_3_17), .int fta_4_17, .int fta_5_17, .int fta_6_17, .long fta_7_17, .int fta_8_17]), (ta_signs, kB k 1000 ta_signsF), (ta_words, kJ k 23 ta_wordsF)] → va_S A s.heap H locs → lv_has ls 8 [(0, .ref w), (1, .ref ta), (2, .int 1), (3, .int 3), (4, .int l4_17), (5, .int (nI l5_17))] → W p l e R s m args below meth c H locs 0 0 Q (F0 m 17 ls []) := by
          intro n17
          induction n17 with
          | zero => intro l4_17 l5_17 fw_3_17 aw_code_17 fta_3_17 fta_4_17 fta_5_17 fta_6_17 fta_7_17 fta_8_17 H locs ls hm; exact absurd hm (Nat.not_lt_zero _)
          | succ n17 ih17 =>
            intro l4_17 l5_17 fw_3_17 aw_code_17 fta_3_17 fta_4_17 fta_5_17 fta_6_17 fta_7_17 fta_8_17 H locs ls hm17 i_l5_17 i_fw_3_17 i_fta_3_17 hZ hP hD hS hl
            obtain ⟨rc17_3, hrc17_3⟩ : ∃ r : Int32 → Nat → Nat → (Nat → Int32) → Nat → Int32 → Int32 → Int32 → Int64 → Int32 → Nat × (Nat → Int32) × Nat × Int32 × Int32 × Int32 × Int64 × Int32 × Bool, r = lp (fun _ _ _ _ _ _ _ _ _ _ => (0, (fun _ => 0), 0, (0 : Int32), (0 : Int32), (0 : Int32), (0 : Int64), (0 : Int32), false)) (fX0_readOver_1_3_B17a ta_length ta_signsF ta_wordsF f) n17 := ⟨_, rfl⟩
            have hZ : (fX0_readOver_1_3_B17a ta_length ta_signsF ta_wordsF f) rc17_3 l4_17 l5_17 fw_3_17 aw_code_17 fta_3_17 fta_4_17 fta_5_17 fta_6_17 fta_7_17 fta_8_17 = E0 := by rw [hrc17_3]; exact hZ
            refine lv_iload hx hb dX0_readOver_17 (lv_at hl 5 rfl) ?_
            refine lv_sipush (v := 1000) hx hb dX0_readOver_19 (by decide) ?_
            refine lv_icmp_ge (tgt := 101) hx hb dX0_readOver_22 (by decide) (fun c_4 => ?_) (fun c_4 => ?_)
            · exact by
               have k_4 : 1000 ≤ l5_17 := (nI_leI (a := 1000) (b := l5_17) (by omega) (by omega)).mp c_4
               have hZ := (if_pos k_4).symm.trans hZ
               refine lv_iconst (v := 1) hx hb dX0_readOver_101 (by decide) ?_
               rw [hQ]
               have hP9 := hP.sub (ws' := [(w, kO 0 [.ref w_code, .ref w_stack, .ref w_facts, .int (nI fw_3_17), .int (nI w_top)]), (w_code, kI k 1000 aw_code_17), (ta, kO 6 [.ref ta_signs, .ref ta_words, .int (nI ta_length), .int (nI fta_3_17), .int fta_4_17, .int fta_5_17, .int fta_6_17, .long fta_7_17, .int fta_8_17]), (ta_signs, kB k 1000 ta_signsF), (ta_words, kJ k 23 ta_wordsF)]) [0, 1, 2, 3, 4] rfl
               have hD9 := hD.sub (ws' := [(w, kO 0 [.ref w_code, .ref w_stack, .ref w_facts, .int (nI fw_3_17), .int (nI w_top)]), (w_code, kI k 1000 aw_code_17), (ta, kO 6 [.ref ta_signs, .ref ta_words, .int (nI ta_length), .int (nI fta_3_17), .int fta_4_17, .int fta_5_17, .int fta_6_17, .long fta_7_17, .int fta_8_17]), (ta_signs, kB k 1000 ta_signsF), (ta_words, kJ k 23 ta_wordsF)]) [0, 1, 2, 3, 4] (by decide +kernel) rfl
               exact W.zret (v := 1) hx hb hr rfl (fun zt ht hW => ⟨⟨1, ⟨fw_3_17, aw_code_17, fta_3_17, fta_4_17, fta_5_17, fta_6_17, fta_7_17, fta_8_17, true⟩, rfl, ⟨rfl, (by first | omega | (dsimp only; omega) | assumption), (by first | omega | (dsimp only; omega) | assumption), (hZ.trans hE0)⟩, by rw [ht]; exact hP9, hD9⟩, hS.F ht⟩) hS.2.2 dX0_readOver_102
            · exact by
               have k_4 : ¬ (1000 ≤ l5_17) := fun h => c_4 ((nI_leI (a := 1000) (b := l5_17) (by omega) (by omega)).mpr h)
               have hZ := (if_neg k_4).symm.trans hZ
               refine lv_aload_n hx hb dX0_readOver_25 rfl (lv_at hl 1 rfl) ?_
               refine kz_Si (As := [.ref ta]) (rest := []) (wc := [(ta, kO 6 [.ref ta_signs, .ref ta_words, .int (nI ta_length), .int (nI fta_3_17), .int fta_4_17, .int fta_5_17, .int fta_6_17, .long fta_7_17, .int fta_8_17])]) (wr := [(w, kO 0 [.ref w_code, .ref w_stack, .ref w_facts, .int (nI fw_3_17), .int (nI w_top)]), (w_code, kI k 1000 aw_code_17), (ta_signs, kB k 1000 ta_signsF), (ta_words, kJ k 23 ta_wordsF)]) ⟨hx, hb, hml, hown, hts⟩ hK hE hP hD hS hA (sX0_operatorAt l D k H.size ta ta_signs ta_words ta_length fta_3_17 fta_4_17 fta_5_17 fta_6_17 fta_7_17 fta_8_17 (by first | omega | assumption | decide) (by first | omega | assumption | decide)) (va_cwS 1 hts gX0_readOver_X0_operatorAt rfl rfl rfl (by decide +kernel) (by rw [hR]; exact ⟨Nat.le_of_ble_eq_true rfl, Nat.le_of_ble_eq_true rfl⟩)) [2] [0, 1, 3, 4] rfl rfl (by decide +kernel) (by decide +kernel) (by decide +kernel) rfl hl.1 rfl (Nat.le_of_ble_eq_true rfl) dX0_readOver_26 (by rw [hR]; exact ⟨Nat.le_of_ble_eq_true rfl, Nat.le_of_ble_eq_true rfl⟩) (fun r5 u5 H locs hw5 hP hD hS => ?_)
               exact by
                try dsimp only at hw5
                have hP : va_P D vwCl [(w, kO 0 [.ref w_code, .ref w_stack, .ref w_facts, .int (nI fw_3_17), .int (nI w_top)]), (w_code, kI k 1000 aw_code_17), (ta_signs, kB k 1000 ta_signsF), (ta_words, kJ k 23 ta_wordsF), (ta, kO 6 [.ref ta_signs, .ref ta_words, .int (nI ta_length), .int (nI fta_3_17), .int fta_4_17, .int fta_5_17, .int fta_6_17, .long fta_7_17, .int fta_8_17])] H := hP
                have hD : va_D A [(w, kO 0 [.ref w_code, .ref w_stack, .ref w_facts, .int (nI fw_3_17), .int (nI w_top)]), (w_code, kI k 1000 aw_code_17), (ta_signs, kB k 1000 ta_signsF), (ta_words, kJ k 23 ta_wordsF), (ta, kO 6 [.ref ta_signs, .ref ta_words, .int (nI ta_length), .int (nI fta_3_17), .int fta_4_17, .int fta_5_17, .int fta_6_17, .long fta_7_17, .int fta_8_17])] := hD
                have hw5_0 := hw5
                have hZ := bn1_e hw5_0 hZ
                refine lv_istore (lv' := [(6, .int r5), (0, .ref w), (1, .ref ta), (2, .int 1), (3, .int 3), (4, .int l4_17), (5, .int (nI l5_17))]) hx hb dX0_readOver_29 hl (by decide) rfl (fun ls hl => ?_)
                exact by
                 refine lv_iload hx hb dX0_readOver_31 (lv_at hl 0 rfl) ?_
                 refine kz_Si (As := [.int r5]) (rest := []) (wc := []) (wr := [(w, kO 0 [.ref w_code, .ref w_stack, .ref w_facts, .int (nI fw_3_17), .int (nI w_top)]), (w_code, kI k 1000 aw_code_17), (ta_signs, kB k 1000 ta_signsF), (ta_words, kJ k 23 ta_wordsF), (ta, kO 6 [.ref ta_signs, .ref ta_words, .int (nI ta_length), .int (nI fta_3_17), .int fta_4_17, .int fta_5_17, .int fta_6_17, .long fta_7_17, .int fta_8_17])]) ⟨hx, hb, hml, hown, hts⟩ hK hE hP hD hS hA (sX0_tightnessOf l D k H.size r5) (va_cwS 1 hts gX0_readOver_X0_tightnessOf rfl rfl rfl (by decide +kernel) (by rw [hR]; exact ⟨Nat.le_of_ble_eq_true rfl, Nat.le_of_ble_eq_true rfl⟩)) [] [0, 1, 2, 3, 4] rfl rfl (by decide +kernel) (by decide +kernel) (by decide +kernel) rfl hl.1 rfl (Nat.le_of_ble_eq_true rfl) dX0_readOver_33 (by rw [hR]; exact ⟨Nat.le_of_ble_eq_true rfl, Nat.le_of_ble_eq_true rfl⟩) (fun r6 u6 H locs hw6 hP hD hS => ?_)
                 exact by
                  try dsimp only at hw6
                  have hP : va_P D vwCl [(w, kO 0 [.ref w_code, .ref w_stack, .ref w_facts, .int (nI fw_3_17), .int (nI w_top)]), (w_code, kI k 1000 aw_code_17), (ta_signs, kB k 1000 ta_signsF), (ta_words, kJ k 23 ta_wordsF), (ta, kO 6 [.ref ta_signs, .ref ta_words, .int (nI ta_length), .int (nI fta_3_17), .int fta_4_17, .int fta_5_17, .int fta_6_17, .long fta_7_17, .int fta_8_17])] H := hP
                  have hD : va_D A [(w, kO 0 [.ref w_code, .ref w_stack, .ref w_facts, .int (nI fw_3_17), .int (nI w_top)]), (w_code, kI k 1000 aw_code_17), (ta_signs, kB k 1000 ta_signsF), (ta_words, kJ k 23 ta_wordsF), (ta, kO 6 [.ref ta_signs, .ref ta_words, .int (nI ta_length), .int (nI fta_3_17), .int fta_4_17, .int fta_5_17, .int fta_6_17, .long fta_7_17, .int fta_8_17])] := hD
                  obtain ⟨hw6_0, hw6_1⟩ := hw6
                  have hZ := bn1_e hw6_1 hZ
                  refine lv_istore (lv' := [(7, .int r6), (6, .int r5), (0, .ref w), (1, .ref ta), (2, .int 1), (3, .int 3), (4, .int l4_17), (5, .int (nI l5_17))]) hx hb dX0_readOver_36 hl (by decide) rfl (fun ls hl => ?_)
                  exact by
                   refine lv_iload hx hb dX0_readOver_38 (lv_at hl 0 rfl) ?_
                   refine lv_iload_n hx hb dX0_readOver_40 rfl (lv_at hl 4 rfl) ?_
                   have hj51_7 : ∀ (H : Heap) (locs : List Loc) (ls : Array Slot), ((fX0_readOver_1_3_J51a fw_3_17 aw_code_17 fta_3_17 fta_4_17 fta_5_17 fta_6_17 fta_7_17 fta_8_17) = E0) → va_P D vwCl [(w, kO 0 [.ref w_code, .ref w_stack, .ref w_facts, .int (nI fw_3_17), .int (nI w_top)]), (w_code, kI k 1000 aw_code_17), (ta_signs, kB k 1000 ta_signsF), (ta_words, kJ k 23 ta_wordsF), (ta, kO 6 [.ref ta_signs, .ref ta_words, .int (nI ta_length), .int (nI fta_3_17), .int fta_4_17, .int fta_5_17, .int fta_6_17, .long fta_7_17, .int fta_8_17])] H → va_D A [(w, kO 0 [.ref w_code, .ref w_stack, .ref w_facts, .int (nI fw_3_17), .int (nI w_top)]), (w_code, kI k 1000 aw_code_17), (ta_signs, kB k 1000 ta_signsF), (ta_words, kJ k 23 ta_wordsF), (ta, kO 6 [.ref ta_signs, .ref ta_words, .int (nI ta_length), .int (nI fta_3_17), .int fta_4_17, .int fta_5_17, .int fta_6_17, .long fta_7_17, .int fta_8_17])] → va_S A s.heap H locs → lv_has ls 8 [(0, .ref w), (1, .ref ta), (2, .int 1), (3, .int 3), (4, .int l4_17), (5, .int (nI l5_17)), (6, .int r5), (7, .int r6)] → W p l e R s m args below meth c H locs 0 0 Q (F0 m 51 ls []) := by
                     intro H locs ls hZ hP hD hS hl
                     refine lv_iconst (v := 1) hx hb dX0_readOver_51 (by decide) ?_
                     rw [hQ]
                     have hP9 := hP.sub (ws' := [(w, kO 0 [.ref w_code, .ref w_stack, .ref w_facts, .int (nI fw_3_17), .int (nI w_top)]), (w_code, kI k 1000 aw_code_17), (ta, kO 6 [.ref ta_signs, .ref ta_words, .int (nI ta_length), .int (nI fta_3_17), .int fta_4_17, .int fta_5_17, .int fta_6_17, .long fta_7_17, .int fta_8_17]), (ta_signs, kB k 1000 ta_signsF), (ta_words, kJ k 23 ta_wordsF)]) [0, 1, 4, 2, 3] rfl
                     have hD9 := hD.sub (ws' := [(w, kO 0 [.ref w_code, .ref w_stack, .ref w_facts, .int (nI fw_3_17), .int (nI w_top)]), (w_code, kI k 1000 aw_code_17), (ta, kO 6 [.ref ta_signs, .ref ta_words, .int (nI ta_length), .int (nI fta_3_17), .int fta_4_17, .int fta_5_17, .int fta_6_17, .long fta_7_17, .int fta_8_17]), (ta_signs, kB k 1000 ta_signsF), (ta_words, kJ k 23 ta_wordsF)]) [0, 1, 4, 2, 3] (by decide +kernel) rfl
                     exact W.zret (v := 1) hx hb hr rfl (fun zt ht hW => ⟨⟨1, ⟨fw_3_17, aw_code_17, fta_3_17, fta_4_17, fta_5_17, fta_6_17, fta_7_17, fta_8_17, true⟩, rfl, ⟨rfl, (by first | omega | (dsimp only; omega) | assumption), (by first | omega | (dsimp only; omega) | assumption), (hZ.trans hE0)⟩, by rw [ht]; exact hP9, hD9⟩, hS.F ht⟩) hS.2.2 dX0_readOver_52
                   refine lv_icmp_lt (tgt := 51) hx hb dX0_readOver_41 (by decide) (fun c_8 => ?_) (fun c_8 => ?_)
                   · exact by
                      have t_8 : (Int32.toInt r6) < 1 := tI_lt rfl (by decide) c_8
                      have hZ := (if_pos c_8).symm.trans hZ
                      exact hj51_7 _ _ _ hZ (hP.sub [0, 1, 2, 3, 4] rfl) (hD.sub [0, 1, 2, 3, 4] (by decide +kernel) rfl) hS (lv_sub hl [2, 3, 4, 5, 6, 7, 1, 0] rfl)
                   · exact by
                      have t_8 : (Int32.toInt r6) ≥ 1 := tI_nlt rfl (by decide) c_8
                      have hZ := (if_neg c_8).symm.trans hZ
                      refine lv_iload hx hb dX0_readOver_44 (lv_at hl 0 rfl) ?_
                      refine lv_iload hx hb dX0_readOver_46 (lv_at hl 6 rfl) ?_
                      refine lv_icmp_le (tgt := 53) hx hb dX0_readOver_48 (by decide) (fun c_9 => ?_) (fun c_9 => ?_)
                      · exact by
                         have t_9 : (Int32.toInt r6) ≤ (Int32.toInt l4_17) := tI_le rfl rfl c_9
                         have hZ := (if_pos c_9).symm.trans hZ
                         have cs10 : Int32.toInt r6 = 1 ∨ Int32.toInt r6 = 2 ∨ Int32.toInt r6 = 3 ∨ Int32.toInt r6 = 4 := by omega
                         have hZ9 := hZ
                         rcases cs10 with cs10 | cs10 | cs10 | cs10
                         · obtain rfl : r6 = 1 := Int32.toInt_inj.mp (cs10.trans (by decide))
                           have hZ := hZ9
                           have hZ := (if_pos (rfl : (1 : Int32) = 1)).symm.trans hZ
                           refine lv_aload_n hx hb dX0_readOver_53 rfl (lv_at hl 3 rfl) ?_
                           refine kz_VvY (As := []) (rest := []) (wc := [(ta, kO 6 [.ref ta_signs, .ref ta_words, .int (nI ta_length), .int (nI fta_3_17), .int fta_4_17, .int fta_5_17, .int fta_6_17, .long fta_7_17, .int fta_8_17]), (ta_signs, kB k 1000 ta_signsF), (ta_words, kJ k 23 ta_wordsF)]) (wr := [(w, kO 0 [.ref w_code, .ref w_stack, .ref w_facts, .int (nI fw_3_17), .int (nI w_top)]), (w_code, kI k 1000 aw_code_17)]) ⟨hx, hb, hml, hown, hts⟩ hX hAX ha0 hK hE hP hD hS hA (sX6_advance l D k a0 sa sv f H.size ta ta_signs ta_words ta_length fta_3_17 fta_4_17 fta_5_17 fta_6_17 fta_7_17 fta_8_17 ta_signsF ta_wordsF (by first | omega | assumption | decide) (by first | omega | assumption | decide)) (cwV 0 hts gX0_readOver_X6_advance rfl rfl rfl (by decide +kernel) (by rw [hR]; exact ⟨Nat.le_of_ble_eq_true rfl, Nat.le_of_ble_eq_true rfl⟩)) [4, 2, 3] [0, 1] rfl rfl (by decide +kernel) (by decide +kernel) (by decide +kernel) 0 rfl rfl rfl hl.1 rfl (Nat.le_of_ble_eq_true rfl) dX0_readOver_54 (by rw [hR]; exact ⟨Nat.le_of_ble_eq_true rfl, Nat.le_of_ble_eq_true rfl⟩) (fun u12 H locs hw12 hP hD hS => ?_)
                           exact by
                            obtain ⟨u_ta_312, u_ta_412, u_ta_512, u_ta_612, u_ta_712⟩ := u12
                            try dsimp only at hw12
                            have hP : va_P D vwCl [(w, kO 0 [.ref w_code, .ref w_stack, .ref w_facts, .int (nI fw_3_17), .int (nI w_top)]), (w_code, kI k 1000 aw_code_17), (ta, kO 6 [.ref ta_signs, .ref ta_words, .int (nI ta_length), .int (nI u_ta_312), .int u_ta_412, .int u_ta_512, .int u_ta_612, .long u_ta_712, .int fta_8_17]), (ta_signs, kB k 1000 ta_signsF), (ta_words, kJ k 23 ta_wordsF)] H := hP
                            have hD : va_D A [(w, kO 0 [.ref w_code, .ref w_stack, .ref w_facts, .int (nI fw_3_17), .int (nI w_top)]), (w_code, kI k 1000 aw_code_17), (ta, kO 6 [.ref ta_signs, .ref ta_words, .int (nI ta_length), .int (nI u_ta_312), .int u_ta_412, .int u_ta_512, .int u_ta_612, .long u_ta_712, .int fta_8_17]), (ta_signs, kB k 1000 ta_signsF), (ta_words, kJ k 23 ta_wordsF)] := hD
                            obtain ⟨hw12_0, hw12_1⟩ := hw12
                            have hZ := bn5_e hw12_1 hZ
                            refine lv_aload_n hx hb dX0_readOver_57 rfl (lv_at hl 2 rfl) ?_
                            refine lv_aload_n hx hb dX0_readOver_58 rfl (lv_at hl 3 rfl) ?_
                            refine lv_iload hx hb dX0_readOver_59 (lv_at hl 0 rfl) ?_
                            refine lv_iconst (v := 1) hx hb dX0_readOver_61 (by decide) ?_
                            refine lv_iadd hx hb dX0_readOver_62 ?_
                            refine lv_topi (fun x13 ex13 => ?_)
                            exact by
                             obtain rfl : x13 = 2 := ex13.trans (by decide)
                             refine lv_iload_n hx hb dX0_readOver_63 rfl (lv_at hl 5 rfl) ?_
                             refine kz_ViY (As := [.ref ta, .int 2, .int 3]) (rest := []) (wc := [(w, kO 0 [.ref w_code, .ref w_stack, .ref w_facts, .int (nI fw_3_17), .int (nI w_top)]), (w_code, kI k 1000 aw_code_17), (ta, kO 6 [.ref ta_signs, .ref ta_words, .int (nI ta_length), .int (nI u_ta_312), .int u_ta_412, .int u_ta_512, .int u_ta_612, .long u_ta_712, .int fta_8_17]), (ta_signs, kB k 1000 ta_signsF), (ta_words, kJ k 23 ta_wordsF)]) (wr := []) ⟨hx, hb, hml, hown, hts⟩ hX hAX ha0 hK hE hP hD hS hA (sX0_readOver_2_3 l D k a0 sa sv f H.size w ta w_code w_stack w_facts fw_3_17 w_top aw_code_17 ta_signs ta_words ta_length u_ta_312 u_ta_412 u_ta_512 u_ta_612 u_ta_712 fta_8_17 ta_signsF ta_wordsF (by first | omega | assumption | decide) (by first | omega | assumption | decide) (by first | omega | assumption | decide) (by first | omega | assumption | decide)) (cwV 3 hts gX0_readOver_X0_readOver rfl rfl rfl (by decide +kernel) (by rw [hR]; exact ⟨Nat.le_of_ble_eq_true rfl, Nat.le_of_ble_eq_true rfl⟩)) [0, 1, 2, 3, 4] [] rfl rfl (by decide +kernel) (by decide +kernel) (by decide +kernel) 0 rfl rfl rfl hl.1 rfl (Nat.le_of_ble_eq_true rfl) dX0_readOver_64 (by rw [hR]; exact ⟨Nat.le_of_ble_eq_true rfl, Nat.le_of_ble_eq_true rfl⟩) (fun r14 u14 H locs hw14 hP hD hS => ?_)
                             exact by
                              obtain ⟨u_w_314, u_w_code14, u_ta_314, u_ta_414, u_ta_514, u_ta_614, u_ta_714, u_ta_814, ub14⟩ := u14
                              try dsimp only at hw14
                              obtain ⟨rfl, hw14⟩ := hw14
                              have hP : va_P D vwCl [(w, kO 0 [.ref w_code, .ref w_stack, .ref w_facts, .int (nI u_w_314), .int (nI w_top)]), (w_code, kI k 1000 u_w_code14), (ta, kO 6 [.ref ta_signs, .ref ta_words, .int (nI ta_length), .int (nI u_ta_314), .int u_ta_414, .int u_ta_514, .int u_ta_614, .long u_ta_714, .int u_ta_814]), (ta_signs, kB k 1000 ta_signsF), (ta_words, kJ k 23 ta_wordsF)] H := hP
                              have hD : va_D A [(w, kO 0 [.ref w_code, .ref w_stack, .ref w_facts, .int (nI u_w_314), .int (nI w_top)]), (w_code, kI k 1000 u_w_code14), (ta, kO 6 [.ref ta_signs, .ref ta_words, .int (nI ta_length), .int (nI u_ta_314), .int u_ta_414, .int u_ta_514, .int u_ta_614, .long u_ta_714, .int u_ta_814]), (ta_signs, kB k 1000 ta_signsF), (ta_words, kJ k 23 ta_wordsF)] := hD
                              obtain ⟨hw14_0, hw14_1, hw14_2⟩ := hw14
                              have hZ := bn9_e hw14_2 hZ
                              refine lv_if_ne (tgt := 72) hx hb dX0_readOver_67 (by decide) (fun c_15 => ?_) (fun c_15 => ?_)
                              · exact by
                                 have b_15 : ub14 = true := bB_1 c_15
                                 have hZ := (if_pos b_15).symm.trans hZ
                                 refine lv_aload_n hx hb dX0_readOver_72 rfl (lv_at hl 2 rfl) ?_
                                 refine lv_iload hx hb dX0_readOver_73 (lv_at hl 1 rfl) ?_
                                 refine kz_Vv (As := [.int r5]) (rest := []) (wc := [(w, kO 0 [.ref w_code, .ref w_stack, .ref w_facts, .int (nI u_w_314), .int (nI w_top)]), (w_code, kI k 1000 u_w_code14)]) (wr := [(ta, kO 6 [.ref ta_signs, .ref ta_words, .int (nI ta_length), .int (nI u_ta_314), .int u_ta_414, .int u_ta_514, .int u_ta_614, .long u_ta_714, .int u_ta_814]), (ta_signs, kB k 1000 ta_signsF), (ta_words, kJ k 23 ta_wordsF)]) ⟨hx, hb, hml, hown, hts⟩ hK hE hP hD hS hA (sX0_write l D k H.size w r5 w_code w_stack w_facts u_w_314 w_top u_w_code14 (by first | omega | assumption | decide) (by first | omega | assumption | decide)) (cwV 1 hts gX0_readOver_X0_write rfl rfl rfl (by decide +kernel) (by rw [hR]; exact ⟨Nat.le_of_ble_eq_true rfl, Nat.le_of_ble_eq_true rfl⟩)) [0, 1] [2, 3, 4] rfl rfl (by decide +kernel) (by decide +kernel) (by decide +kernel) 0 rfl rfl rfl hl.1 rfl (Nat.le_of_ble_eq_true rfl) dX0_readOver_75 (by rw [hR]; exact ⟨Nat.le_of_ble_eq_true rfl, Nat.le_of_ble_eq_true rfl⟩) (fun u16 H locs hw16 hP hD hS => ?_)
                                 exact by
                                  obtain ⟨u_w_316, u_w_code16⟩ := u16
                                  try dsimp only at hw16
                                  have hP : va_P D vwCl [(ta, kO 6 [.ref ta_signs, .ref ta_words, .int (nI ta_length), .int (nI u_ta_314), .int u_ta_414, .int u_ta_514, .int u_ta_614, .long u_ta_714, .int u_ta_814]), (ta_signs, kB k 1000 ta_signsF), (ta_words, kJ k 23 ta_wordsF), (w, kO 0 [.ref w_code, .ref w_stack, .ref w_facts, .int (nI u_w_316), .int (nI w_top)]), (w_code, kI k 1000 u_w_code16)] H := hP
                                  have hD : va_D A [(ta, kO 6 [.ref ta_signs, .ref ta_words, .int (nI ta_length), .int (nI u_ta_314), .int u_ta_414, .int u_ta_514, .int u_ta_614, .long u_ta_714, .int u_ta_814]), (ta_signs, kB k 1000 ta_signsF), (ta_words, kJ k 23 ta_wordsF), (w, kO 0 [.ref w_code, .ref w_stack, .ref w_facts, .int (nI u_w_316), .int (nI w_top)]), (w_code, kI k 1000 u_w_code16)] := hD
                                  obtain ⟨hw16_0, hw16_1⟩ := hw16
                                  have hZ := bn2_e hw16_1 hZ
                                  refine lv_iload hx hb dX0_readOver_78 (lv_at hl 0 rfl) ?_
                                  refine lv_iconst (v := 2) hx hb dX0_readOver_80 (by decide) ?_
                                  have hj93_17 : ∀ (s0_93 : Int32) (H : Heap) (locs : List Loc) (ls : Array Slot), ((fX0_readOver_1_3_J93a l5_17 rc17_3 u_ta_314 u_ta_414 u_ta_514 u_ta_614 u_ta_714 u_ta_814 u_w_316 u_w_code16) s0_93 = E0) → va_P D vwCl [(ta, kO 6 [.ref ta_signs, .ref ta_words, .int (nI ta_length), .int (nI u_ta_314), .int u_ta_414, .int u_ta_514, .int u_ta_614, .long u_ta_714, .int u_ta_814]), (ta_signs, kB k 1000 ta_signsF), (ta_words, kJ k 23 ta_wordsF), (w, kO 0 [.ref w_code, .ref w_stack, .ref w_facts, .int (nI u_w_316), .int (nI w_top)]), (w_code, kI k 1000 u_w_code16)] H → va_D A [(ta, kO 6 [.ref ta_signs, .ref ta_words, .int (nI ta_length), .int (nI u_ta_314), .int u_ta_414, .int u_ta_514, .int u_ta_614, .long u_ta_714, .int u_ta_814]), (ta_signs, kB k 1000 ta_signsF), (ta_words, kJ k 23 ta_wordsF), (w, kO 0 [.ref w_code, .ref w_stack, .ref w_facts, .int (nI u_w_316), .int (nI w_top)]), (w_code, kI k 1000 u_w_code16)] → va_S A s.heap H locs → lv_has ls 8 [(0, .ref w), (1, .ref ta), (2, .int 1), (3, .int 3), (4, .int l4_17), (5, .int (nI l5_17)), (6, .int r5), (7, .int 1)] → W p l e R s m args below meth c H locs 0 0 Q (F0 m 93 ls [.int s0_93]) := by
                                    intro s0_93 H locs ls hZ hP hD hS hl
                                    refine lv_istore (lv' := [(4, .int s0_93), (0, .ref w), (1, .ref ta), (2, .int 1), (3, .int 3), (5, .int (nI l5_17)), (6, .int r5), (7, .int 1)]) hx hb dX0_readOver_93 hl (by decide) rfl (fun ls hl => ?_)
                                    exact by
                                     refine lv_iinc (v := (nI (l5_17 + 1))) (lv' := [(5, .int (nI (l5_17 + 1))), (4, .int s0_93), (0, .ref w), (1, .ref ta), (2, .int 1), (3, .int 3), (6, .int r5), (7, .int 1)]) hx hb dX0_readOver_95 hl (k := 5) rfl (nI_1 _) (by decide) rfl (fun ls hl => ?_)
                                     exact by
                                      refine lv_goto (tgt := 17) hx hb dX0_readOver_98 (by decide) ?_
                                      exact ih17 s0_93 (l5_17 + 1) u_w_316 u_w_code16 u_ta_314 u_ta_414 u_ta_514 u_ta_614 u_ta_714 u_ta_814 _ _ _ (by omega) (by first | omega | assumption) (by first | omega | assumption) (by first | omega | assumption) (by rw [← hrc17_3]; exact hZ) (hP.sub [3, 4, 0, 1, 2] rfl) (hD.sub [3, 4, 0, 1, 2] (by decide +kernel) rfl) hS (lv_sub hl [2, 3, 4, 5, 1, 0] rfl)
                                  refine lv_icmp_ne (tgt := 91) hx hb dX0_readOver_81 (by decide) (fun c_19 => ?_) (fun c_19 => absurd c_19 (by decide))
                                  refine lv_iload hx hb dX0_readOver_91 (lv_at hl 0 rfl) ?_
                                  exact hj93_17 (1 : Int32) _ _ _ hZ (hP.sub [0, 1, 2, 3, 4] rfl) (hD.sub [0, 1, 2, 3, 4] (by decide +kernel) rfl) hS (lv_sub hl [2, 3, 4, 5, 6, 7, 1, 0] rfl)
                              · exact by
                                 have b_15 : ub14 = false := bB_0 c_15
                                 have hZ := (if_neg (bF b_15)).symm.trans hZ
                                 refine lv_iconst (v := 0) hx hb dX0_readOver_70 (by decide) ?_
                                 rw [hQ]
                                 have hP9 := hP.sub (ws' := [(w, kO 0 [.ref w_code, .ref w_stack, .ref w_facts, .int (nI u_w_314), .int (nI w_top)]), (w_code, kI k 1000 u_w_code14), (ta, kO 6 [.ref ta_signs, .ref ta_words, .int (nI ta_length), .int (nI u_ta_314), .int u_ta_414, .int u_ta_514, .int u_ta_614, .long u_ta_714, .int u_ta_814]), (ta_signs, kB k 1000 ta_signsF), (ta_words, kJ k 23 ta_wordsF)]) [0, 1, 2, 3, 4] rfl
                                 have hD9 := hD.sub (ws' := [(w, kO 0 [.ref w_code, .ref w_stack, .ref w_facts, .int (nI u_w_314), .int (nI w_top)]), (w_code, kI k 1000 u_w_code14), (ta, kO 6 [.ref ta_signs, .ref ta_words, .int (nI ta_length), .int (nI u_ta_314), .int u_ta_414, .int u_ta_514, .int u_ta_614, .long u_ta_714, .int u_ta_814]), (ta_signs, kB k 1000 ta_signsF), (ta_words, kJ k 23 ta_wordsF)]) [0, 1, 2, 3, 4] (by decide +kernel) rfl
                                 exact W.zret (v := 0) hx hb hr rfl (fun zt ht hW => ⟨⟨0, ⟨u_w_314, u_w_code14, u_ta_314, u_ta_414, u_ta_514, u_ta_614, u_ta_714, u_ta_814, false⟩, rfl, ⟨rfl, (by first | omega | (dsimp only; omega) | assumption), (by first | omega | (dsimp only; omega) | assumption), (hZ.trans hE0)⟩, by rw [ht]; exact hP9, hD9⟩, hS.F ht⟩) hS.2.2 dX0_readOver_71
                         · obtain rfl : r6 = 2 := Int32.toInt_inj.mp (cs10.trans (by decide))
                           have hZ := hZ9
                           have hZ := (if_neg (by decide : ¬ ((2 : Int32) = 1))).symm.trans hZ
                           have hZ := (if_pos (rfl : (2 : Int32) = 2)).symm.trans hZ
                           refine lv_aload_n hx hb dX0_readOver_53 rfl (lv_at hl 3 rfl) ?_
                           refine kz_VvY (As := []) (rest := []) (wc := [(ta, kO 6 [.ref ta_signs, .ref ta_words, .int (nI ta_length), .int (nI fta_3_17), .int fta_4_17, .int fta_5_17, .int fta_6_17, .long fta_7_17, .int fta_8_17]), (ta_signs, kB k 1000 ta_signsF), (ta_words, kJ k 23 ta_wordsF)]) (wr := [(w, kO 0 [.ref w_code, .ref w_stack, .ref w_facts, .int (nI fw_3_17), .int (nI w_top)]), (w_code, kI k 1000 aw_code_17)]) ⟨hx, hb, hml, hown, hts⟩ hX hAX ha0 hK hE hP hD hS hA (sX6_advance l D k a0 sa sv f H.size ta ta_signs ta_words ta_length fta_3_17 fta_4_17 fta_5_17 fta_6_17 fta_7_17 fta_8_17 ta_signsF ta_wordsF (by first | omega | assumption | decide) (by first | omega | assumption | decide)) (cwV 0 hts gX0_readOver_X6_advance rfl rfl rfl (by decide +kernel) (by rw [hR]; exact ⟨Nat.le_of_ble_eq_true rfl, Nat.le_of_ble_eq_true rfl⟩)) [4, 2, 3] [0, 1] rfl rfl (by decide +kernel) (by decide +kernel) (by decide +kernel) 0 rfl rfl rfl hl.1 rfl (Nat.le_of_ble_eq_true rfl) dX0_readOver_54 (by rw [hR]; exact ⟨Nat.le_of_ble_eq_true rfl, Nat.le_of_ble_eq_true rfl⟩) (fun u21 H locs hw21 hP hD hS => ?_)
                           exact by
                            obtain ⟨u_ta_321, u_ta_421, u_ta_521, u_ta_621, u_ta_721⟩ := u21
                            try dsimp only at hw21
                            have hP : va_P D vwCl [(w, kO 0 [.ref w_code, .ref w_stack, .ref w_facts, .int (nI fw_3_17), .int (nI w_top)]), (w_code, kI k 1000 aw_code_17), (ta, kO 6 [.ref ta_signs, .ref ta_words, .int (nI ta_length), .int (nI u_ta_321), .int u_ta_421, .int u_ta_521, .int u_ta_621, .long u_ta_721, .int fta_8_17]), (ta_signs, kB k 1000 ta_signsF), (ta_words, kJ k 23 ta_wordsF)] H := hP
                            have hD : va_D A [(w, kO 0 [.ref w_code, .ref w_stack, .ref w_facts, .int (nI fw_3_17), .int (nI w_top)]), (w_code, kI k 1000 aw_code_17), (ta, kO 6 [.ref ta_signs, .ref ta_words, .int (nI ta_length), .int (nI u_ta_321), .int u_ta_421, .int u_ta_521, .int u_ta_621, .long u_ta_721, .int fta_8_17]), (ta_signs, kB k 1000 ta_signsF), (ta_words, kJ k 23 ta_wordsF)] := hD
                            obtain ⟨hw21_0, hw21_1⟩ := hw21
                            have hZ := bn5_e hw21_1 hZ
                            refine lv_aload_n hx hb dX0_readOver_57 rfl (lv_at hl 2 rfl) ?_
                            refine lv_aload_n hx hb dX0_readOver_58 rfl (lv_at hl 3 rfl) ?_
                            refine lv_iload hx hb dX0_readOver_59 (lv_at hl 0 rfl) ?_
                            refine lv_iconst (v := 1) hx hb dX0_readOver_61 (by decide) ?_
                            refine lv_iadd hx hb dX0_readOver_62 ?_
                            refine lv_topi (fun x22 ex22 => ?_)
                            exact by
                             obtain rfl : x22 = 3 := ex22.trans (by decide)
                             refine lv_iload_n hx hb dX0_readOver_63 rfl (lv_at hl 5 rfl) ?_
                             refine kz_ViY (As := [.ref ta, .int 3, .int 3]) (rest := []) (wc := [(w, kO 0 [.ref w_code, .ref w_stack, .ref w_facts, .int (nI fw_3_17), .int (nI w_top)]), (w_code, kI k 1000 aw_code_17), (ta, kO 6 [.ref ta_signs, .ref ta_words, .int (nI ta_length), .int (nI u_ta_321), .int u_ta_421, .int u_ta_521, .int u_ta_621, .long u_ta_721, .int fta_8_17]), (ta_signs, kB k 1000 ta_signsF), (ta_words, kJ k 23 ta_wordsF)]) (wr := []) ⟨hx, hb, hml, hown, hts⟩ hX hAX ha0 hK hE hP hD hS hA (sX0_readOver_3_3 l D k a0 sa sv f H.size w ta w_code w_stack w_facts fw_3_17 w_top aw_code_17 ta_signs ta_words ta_length u_ta_321 u_ta_421 u_ta_521 u_ta_621 u_ta_721 fta_8_17 ta_signsF ta_wordsF (by first | omega | assumption | decide) (by first | omega | assumption | decide) (by first | omega | assumption | decide) (by first | omega | assumption | decide)) (cwV 3 hts gX0_readOver_X0_readOver rfl rfl rfl (by decide +kernel) (by rw [hR]; exact ⟨Nat.le_of_ble_eq_true rfl, Nat.le_of_ble_eq_true rfl⟩)) [0, 1, 2, 3, 4] [] rfl rfl (by decide +kernel) (by decide +kernel) (by decide +kernel) 0 rfl rfl rfl hl.1 rfl (Nat.le_of_ble_eq_true rfl) dX0_readOver_64 (by rw [hR]; exact ⟨Nat.le_of_ble_eq_true rfl, Nat.le_of_ble_eq_true rfl⟩) (fun r23 u23 H locs hw23 hP hD hS => ?_)
                             exact by
                              obtain ⟨u_w_323, u_w_code23, u_ta_323, u_ta_423, u_ta_523, u_ta_623, u_ta_723, u_ta_823, ub23⟩ := u23
                              try dsimp only at hw23
                              obtain ⟨rfl, hw23⟩ := hw23
                              have hP : va_P D vwCl [(w, kO 0 [.ref w_code, .ref w_stack, .ref w_facts, .int (nI u_w_323), .int (nI w_top)]), (w_code, kI k 1000 u_w_code23), (ta, kO 6 [.ref ta_signs, .ref ta_words, .int (nI ta_length), .int (nI u_ta_323), .int u_ta_423, .int u_ta_523, .int u_ta_623, .long u_ta_723, .int u_ta_823]), (ta_signs, kB k 1000 ta_signsF), (ta_words, kJ k 23 ta_wordsF)] H := hP
                              have hD : va_D A [(w, kO 0 [.ref w_code, .ref w_stack, .ref w_facts, .int (nI u_w_323), .int (nI w_top)]), (w_code, kI k 1000 u_w_code23), (ta, kO 6 [.ref ta_signs, .ref ta_words, .int (nI ta_length), .int (nI u_ta_323), .int u_ta_423, .int u_ta_523, .int u_ta_623, .long u_ta_723, .int u_ta_823]), (ta_signs, kB k 1000 ta_signsF), (ta_words, kJ k 23 ta_wordsF)] := hD
                              obtain ⟨hw23_0, hw23_1, hw23_2⟩ := hw23
                              have hZ := bn9_e hw23_2 hZ
                              refine lv_if_ne (tgt := 72) hx hb dX0_readOver_67 (by decide) (fun c_24 => ?_) (fun c_24 => ?_)
                              · exact by
                                 have b_24 : ub23 = true := bB_1 c_24
                                 have hZ := (if_pos b_24).symm.trans hZ
                                 refine lv_aload_n hx hb dX0_readOver_72 rfl (lv_at hl 2 rfl) ?_
                                 refine lv_iload hx hb dX0_readOver_73 (lv_at hl 1 rfl) ?_
                                 refine kz_Vv (As := [.int r5]) (rest := []) (wc := [(w, kO 0 [.ref w_code, .ref w_stack, .ref w_facts, .int (nI u_w_323), .int (nI w_top)]), (w_code, kI k 1000 u_w_code23)]) (wr := [(ta, kO 6 [.ref ta_signs, .ref ta_words, .int (nI ta_length), .int (nI u_ta_323), .int u_ta_423, .int u_ta_523, .int u_ta_623, .long u_ta_723, .int u_ta_823]), (ta_signs, kB k 1000 ta_signsF), (ta_words, kJ k 23 ta_wordsF)]) ⟨hx, hb, hml, hown, hts⟩ hK hE hP hD hS hA (sX0_write l D k H.size w r5 w_code w_stack w_facts u_w_323 w_top u_w_code23 (by first | omega | assumption | decide) (by first | omega | assumption | decide)) (cwV 1 hts gX0_readOver_X0_write rfl rfl rfl (by decide +kernel) (by rw [hR]; exact ⟨Nat.le_of_ble_eq_true rfl, Nat.le_of_ble_eq_true rfl⟩)) [0, 1] [2, 3, 4] rfl rfl (by decide +kernel) (by decide +kernel) (by decide +kernel) 0 rfl rfl rfl hl.1 rfl (Nat.le_of_ble_eq_true rfl) dX0_readOver_75 (by rw [hR]; exact ⟨Nat.le_of_ble_eq_true rfl, Nat.le_of_ble_eq_true rfl⟩) (fun u25 H locs hw25 hP hD hS => ?_)
                                 exact by
                                  obtain ⟨u_w_325, u_w_code25⟩ := u25
                                  try dsimp only at hw25
                                  have hP : va_P D vwCl [(ta, kO 6 [.ref ta_signs, .ref ta_words, .int (nI ta_length), .int (nI u_ta_323), .int u_ta_423, .int u_ta_523, .int u_ta_623, .long u_ta_723, .int u_ta_823]), (ta_signs, kB k 1000 ta_signsF), (ta_words, kJ k 23 ta_wordsF), (w, kO 0 [.ref w_code, .ref w_stack, .ref w_facts, .int (nI u_w_325), .int (nI w_top)]), (w_code, kI k 1000 u_w_code25)] H := hP
                                  have hD : va_D A [(ta, kO 6 [.ref ta_signs, .ref ta_words, .int (nI ta_length), .int (nI u_ta_323), .int u_ta_423, .int u_ta_523, .int u_ta_623, .long u_ta_723, .int u_ta_823]), (ta_signs, kB k 1000 ta_signsF), (ta_words, kJ k 23 ta_wordsF), (w, kO 0 [.ref w_code, .ref w_stack, .ref w_facts, .int (nI u_w_325), .int (nI w_top)]), (w_code, kI k 1000 u_w_code25)] := hD
                                  obtain ⟨hw25_0, hw25_1⟩ := hw25
                                  have hZ := bn2_e hw25_1 hZ
                                  refine lv_iload hx hb dX0_readOver_78 (lv_at hl 0 rfl) ?_
                                  refine lv_iconst (v := 2) hx hb dX0_readOver_80 (by decide) ?_
                                  have hj93_26 : ∀ (s0_93 : Int32) (H : Heap) (locs : List Loc) (ls : Array Slot), ((fX0_readOver_1_3_J93b l5_17 rc17_3 u_ta_323 u_ta_423 u_ta_523 u_ta_623 u_ta_723 u_ta_823 u_w_325 u_w_code25) s0_93 = E0) → va_P D vwCl [(ta, kO 6 [.ref ta_signs, .ref ta_words, .int (nI ta_length), .int (nI u_ta_323), .int u_ta_423, .int u_ta_523, .int u_ta_623, .long u_ta_723, .int u_ta_823]), (ta_signs, kB k 1000 ta_signsF), (ta_words, kJ k 23 ta_wordsF), (w, kO 0 [.ref w_code, .ref w_stack, .ref w_facts, .int (nI u_w_325), .int (nI w_top)]), (w_code, kI k 1000 u_w_code25)] H → va_D A [(ta, kO 6 [.ref ta_signs, .ref ta_words, .int (nI ta_length), .int (nI u_ta_323), .int u_ta_423, .int u_ta_523, .int u_ta_623, .long u_ta_723, .int u_ta_823]), (ta_signs, kB k 1000 ta_signsF), (ta_words, kJ k 23 ta_wordsF), (w, kO 0 [.ref w_code, .ref w_stack, .ref w_facts, .int (nI u_w_325), .int (nI w_top)]), (w_code, kI k 1000 u_w_code25)] → va_S A s.heap H locs → lv_has ls 8 [(0, .ref w), (1, .ref ta), (2, .int 1), (3, .int 3), (4, .int l4_17), (5, .int (nI l5_17)), (6, .int r5), (7, .int 2)] → W p l e R s m args below meth c H locs 0 0 Q (F0 m 93 ls [.int s0_93]) := by
                                    intro s0_93 H locs ls hZ hP hD hS hl
                                    refine lv_istore (lv' := [(4, .int s0_93), (0, .ref w), (1, .ref ta), (2, .int 1), (3, .int 3), (5, .int (nI l5_17)), (6, .int r5), (7, .int 2)]) hx hb dX0_readOver_93 hl (by decide) rfl (fun ls hl => ?_)
                                    exact by
                                     refine lv_iinc (v := (nI (l5_17 + 1))) (lv' := [(5, .int (nI (l5_17 + 1))), (4, .int s0_93), (0, .ref w), (1, .ref ta), (2, .int 1), (3, .int 3), (6, .int r5), (7, .int 2)]) hx hb dX0_readOver_95 hl (k := 5) rfl (nI_1 _) (by decide) rfl (fun ls hl => ?_)
                                     exact by
                                      refine lv_goto (tgt := 17) hx hb dX0_readOver_98 (by decide) ?_
                                      exact ih17 s0_93 (l5_17 + 1) u_w_325 u_w_code25 u_ta_323 u_ta_423 u_ta_523 u_ta_623 u_ta_723 u_ta_823 _ _ _ (by omega) (by first | omega | assumption) (by first | omega | assumption) (by first | omega | assumption) (by rw [← hrc17_3]; exact hZ) (hP.sub [3, 4, 0, 1, 2] rfl) (hD.sub [3, 4, 0, 1, 2] (by decide +kernel) rfl) hS (lv_sub hl [2, 3, 4, 5, 1, 0] rfl)
                                  refine lv_icmp_ne (tgt := 91) hx hb dX0_readOver_81 (by decide) (fun c_28 => absurd (by decide) c_28) (fun c_28 => ?_)
                                  exact by
                                   refine lv_iload hx hb dX0_readOver_84 (lv_at hl 0 rfl) ?_
                                   refine lv_iconst (v := 1) hx hb dX0_readOver_86 (by decide) ?_
                                   refine lv_isub hx hb dX0_readOver_87 ?_
                                   refine lv_topi (fun x29 ex29 => ?_)
                                   exact by
                                    obtain rfl : x29 = 1 := ex29.trans (by decide)
                                    refine lv_goto (tgt := 93) hx hb dX0_readOver_88 (by decide) ?_
                                    exact hj93_26 (1 : Int32) _ _ _ hZ (hP.sub [0, 1, 2, 3, 4] rfl) (hD.sub [0, 1, 2, 3, 4] (by decide +kernel) rfl) hS (lv_sub hl [2, 3, 4, 5, 6, 7, 1, 0] rfl)
                              · exact by
                                 have b_24 : ub23 = false := bB_0 c_24
                                 have hZ := (if_neg (bF b_24)).symm.trans hZ
                                 refine lv_iconst (v := 0) hx hb dX0_readOver_70 (by decide) ?_
                                 rw [hQ]
                                 have hP9 := hP.sub (ws' := [(w, kO 0 [.ref w_code, .ref w_stack, .ref w_facts, .int (nI u_w_323), .int (nI w_top)]), (w_code, kI k 1000 u_w_code23), (ta, kO 6 [.ref ta_signs, .ref ta_words, .int (nI ta_length), .int (nI u_ta_323), .int u_ta_423, .int u_ta_523, .int u_ta_623, .long u_ta_723, .int u_ta_823]), (ta_signs, kB k 1000 ta_signsF), (ta_words, kJ k 23 ta_wordsF)]) [0, 1, 2, 3, 4] rfl
                                 have hD9 := hD.sub (ws' := [(w, kO 0 [.ref w_code, .ref w_stack, .ref w_facts, .int (nI u_w_323), .int (nI w_top)]), (w_code, kI k 1000 u_w_code23), (ta, kO 6 [.ref ta_signs, .ref ta_words, .int (nI ta_length), .int (nI u_ta_323), .int u_ta_423, .int u_ta_523, .int u_ta_623, .long u_ta_723, .int u_ta_823]), (ta_signs, kB k 1000 ta_signsF), (ta_words, kJ k 23 ta_wordsF)]) [0, 1, 2, 3, 4] (by decide +kernel) rfl
                                 exact W.zret (v := 0) hx hb hr rfl (fun zt ht hW => ⟨⟨0, ⟨u_w_323, u_w_code23, u_ta_323, u_ta_423, u_ta_523, u_ta_623, u_ta_723, u_ta_823, false⟩, rfl, ⟨rfl, (by first | omega | (dsimp only; omega) | assumption), (by first | omega | (dsimp only; omega) | assumption), (hZ.trans hE0)⟩, by rw [ht]; exact hP9, hD9⟩, hS.F ht⟩) hS.2.2 dX0_readOver_71
                         · obtain rfl : r6 = 3 := Int32.toInt_inj.mp (cs10.trans (by decide))
                           have hZ := hZ9
                           have hZ := (if_neg (by decide : ¬ ((3 : Int32) = 1))).symm.trans hZ
                           have hZ := (if_neg (by decide : ¬ ((3 : Int32) = 2))).symm.trans hZ
                           have hZ := (if_pos (rfl : (3 : Int32) = 3)).symm.trans hZ
                           refine lv_aload_n hx hb dX0_readOver_53 rfl (lv_at hl 3 rfl) ?_
                           refine kz_VvY (As := []) (rest := []) (wc := [(ta, kO 6 [.ref ta_signs, .ref ta_words, .int (nI ta_length), .int (nI fta_3_17), .int fta_4_17, .int fta_5_17, .int fta_6_17, .long fta_7_17, .int fta_8_17]), (ta_signs, kB k 1000 ta_signsF), (ta_words, kJ k 23 ta_wordsF)]) (wr := [(w, kO 0 [.ref w_code, .ref w_stack, .ref w_facts, .int (nI fw_3_17), .int (nI w_top)]), (w_code, kI k 1000 aw_code_17)]) ⟨hx, hb, hml, hown, hts⟩ hX hAX ha0 hK hE hP hD hS hA (sX6_advance l D k a0 sa sv f H.size ta ta_signs ta_words ta_length fta_3_17 fta_4_17 fta_5_17 fta_6_17 fta_7_17 fta_8_17 ta_signsF ta_wordsF (by first | omega | assumption | decide) (by first | omega | assumption | decide)) (cwV 0 hts gX0_readOver_X6_advance rfl rfl rfl (by decide +kernel) (by rw [hR]; exact ⟨Nat.le_of_ble_eq_true rfl, Nat.le_of_ble_eq_true rfl⟩)) [4, 2, 3] [0, 1] rfl rfl (by decide +kernel) (by decide +kernel) (by decide +kernel) 0 rfl rfl rfl hl.1 rfl (Nat.le_of_ble_eq_true rfl) dX0_readOver_54 (by rw [hR]; exact ⟨Nat.le_of_ble_eq_true rfl, Nat.le_of_ble_eq_true rfl⟩) (fun u31 H locs hw31 hP hD hS => ?_)
                           exact by
                            obtain ⟨u_ta_331, u_ta_431, u_ta_531, u_ta_631, u_ta_731⟩ := u31
                            try dsimp only at hw31
                            have hP : va_P D vwCl [(w, kO 0 [.ref w_code, .ref w_stack, .ref w_facts, .int (nI fw_3_17), .int (nI w_top)]), (w_code, kI k 1000 aw_code_17), (ta, kO 6 [.ref ta_signs, .ref ta_words, .int (nI ta_length), .int (nI u_ta_331), .int u_ta_431, .int u_ta_531, .int u_ta_631, .long u_ta_731, .int fta_8_17]), (ta_signs, kB k 1000 ta_signsF), (ta_words, kJ k 23 ta_wordsF)] H := hP
                            have hD : va_D A [(w, kO 0 [.ref w_code, .ref w_stack, .ref w_facts, .int (nI fw_3_17), .int (nI w_top)]), (w_code, kI k 1000 aw_code_17), (ta, kO 6 [.ref ta_signs, .ref ta_words, .int (nI ta_length), .int (nI u_ta_331), .int u_ta_431, .int u_ta_531, .int u_ta_631, .long u_ta_731, .int fta_8_17]), (ta_signs, kB k 1000 ta_signsF), (ta_words, kJ k 23 ta_wordsF)] := hD
                            obtain ⟨hw31_0, hw31_1⟩ := hw31
                            have hZ := bn5_e hw31_1 hZ
                            refine lv_aload_n hx hb dX0_readOver_57 rfl (lv_at hl 2 rfl) ?_
                            refine lv_aload_n hx hb dX0_readOver_58 rfl (lv_at hl 3 rfl) ?_
                            refine lv_iload hx hb dX0_readOver_59 (lv_at hl 0 rfl) ?_
                            refine lv_iconst (v := 1) hx hb dX0_readOver_61 (by decide) ?_
                            refine lv_iadd hx hb dX0_readOver_62 ?_
                            refine lv_topi (fun x32 ex32 => ?_)
                            exact by
                             obtain rfl : x32 = 4 := ex32.trans (by decide)
                             refine lv_iload_n hx hb dX0_readOver_63 rfl (lv_at hl 5 rfl) ?_
                             refine kz_ViY (As := [.ref ta, .int 4, .int 3]) (rest := []) (wc := [(w, kO 0 [.ref w_code, .ref w_stack, .ref w_facts, .int (nI fw_3_17), .int (nI w_top)]), (w_code, kI k 1000 aw_code_17), (ta, kO 6 [.ref ta_signs, .ref ta_words, .int (nI ta_length), .int (nI u_ta_331), .int u_ta_431, .int u_ta_531, .int u_ta_631, .long u_ta_731, .int fta_8_17]), (ta_signs, kB k 1000 ta_signsF), (ta_words, kJ k 23 ta_wordsF)]) (wr := []) ⟨hx, hb, hml, hown, hts⟩ hX hAX ha0 hK hE hP hD hS hA (sX0_readOver_4_3 l D k a0 sa sv f H.size w ta w_code w_stack w_facts fw_3_17 w_top aw_code_17 ta_signs ta_words ta_length u_ta_331 u_ta_431 u_ta_531 u_ta_631 u_ta_731 fta_8_17 ta_signsF ta_wordsF (by first | omega | assumption | decide) (by first | omega | assumption | decide) (by first | omega | assumption | decide) (by first | omega | assumption | decide)) (cwV 3 hts gX0_readOver_X0_readOver rfl rfl rfl (by decide +kernel) (by rw [hR]; exact ⟨Nat.le_of_ble_eq_true rfl, Nat.le_of_ble_eq_true rfl⟩)) [0, 1, 2, 3, 4] [] rfl rfl (by decide +kernel) (by decide +kernel) (by decide +kernel) 0 rfl rfl rfl hl.1 rfl (Nat.le_of_ble_eq_true rfl) dX0_readOver_64 (by rw [hR]; exact ⟨Nat.le_of_ble_eq_true rfl, Nat.le_of_ble_eq_true rfl⟩) (fun r33 u33 H locs hw33 hP hD hS => ?_)
                             exact by
                              obtain ⟨u_w_333, u_w_code33, u_ta_333, u_ta_433, u_ta_533, u_ta_633, u_ta_733, u_ta_833, ub33⟩ := u33
                              try dsimp only at hw33
                              obtain ⟨rfl, hw33⟩ := hw33
                              have hP : va_P D vwCl [(w, kO 0 [.ref w_code, .ref w_stack, .ref w_facts, .int (nI u_w_333), .int (nI w_top)]), (w_code, kI k 1000 u_w_code33), (ta, kO 6 [.ref ta_signs, .ref ta_words, .int (nI ta_length), .int (nI u_ta_333), .int u_ta_433, .int u_ta_533, .int u_ta_633, .long u_ta_733, .int u_ta_833]), (ta_signs, kB k 1000 ta_signsF), (ta_words, kJ k 23 ta_wordsF)] H := hP
                              have hD : va_D A [(w, kO 0 [.ref w_code, .ref w_stack, .ref w_facts, .int (nI u_w_333), .int (nI w_top)]), (w_code, kI k 1000 u_w_code33), (ta, kO 6 [.ref ta_signs, .ref ta_words, .int (nI ta_length), .int (nI u_ta_333), .int u_ta_433, .int u_ta_533, .int u_ta_633, .long u_ta_733, .int u_ta_833]), (ta_signs, kB k 1000 ta_signsF), (ta_words, kJ k 23 ta_wordsF)] := hD
                              obtain ⟨hw33_0, hw33_1, hw33_2⟩ := hw33
                              have hZ := bn9_e hw33_2 hZ
                              refine lv_if_ne (tgt := 72) hx hb dX0_readOver_67 (by decide) (fun c_34 => ?_) (fun c_34 => ?_)
                              · exact by
                                 have b_34 : ub33 = true := bB_1 c_34
                                 have hZ := (if_pos b_34).symm.trans hZ
                                 refine lv_aload_n hx hb dX0_readOver_72 rfl (lv_at hl 2 rfl) ?_
                                 refine lv_iload hx hb dX0_readOver_73 (lv_at hl 1 rfl) ?_
                                 refine kz_Vv (As := [.int r5]) (rest := []) (wc := [(w, kO 0 [.ref w_code, .ref w_stack, .ref w_facts, .int (nI u_w_333), .int (nI w_top)]), (w_code, kI k 1000 u_w_code33)]) (wr := [(ta, kO 6 [.ref ta_signs, .ref ta_words, .int (nI ta_length), .int (nI u_ta_333), .int u_ta_433, .int u_ta_533, .int u_ta_633, .long u_ta_733, .int u_ta_833]), (ta_signs, kB k 1000 ta_signsF), (ta_words, kJ k 23 ta_wordsF)]) ⟨hx, hb, hml, hown, hts⟩ hK hE hP hD hS hA (sX0_write l D k H.size w r5 w_code w_stack w_facts u_w_333 w_top u_w_code33 (by first | omega | assumption | decide) (by first | omega | assumption | decide)) (cwV 1 hts gX0_readOver_X0_write rfl rfl rfl (by decide +kernel) (by rw [hR]; exact ⟨Nat.le_of_ble_eq_true rfl, Nat.le_of_ble_eq_true rfl⟩)) [0, 1] [2, 3, 4] rfl rfl (by decide +kernel) (by decide +kernel) (by decide +kernel) 0 rfl rfl rfl hl.1 rfl (Nat.le_of_ble_eq_true rfl) dX0_readOver_75 (by rw [hR]; exact ⟨Nat.le_of_ble_eq_true rfl, Nat.le_of_ble_eq_true rfl⟩) (fun u35 H locs hw35 hP hD hS => ?_)
                                 exact by
                                  obtain ⟨u_w_335, u_w_code35⟩ := u35
                                  try dsimp only at hw35
                                  have hP : va_P D vwCl [(ta, kO 6 [.ref ta_signs, .ref ta_words, .int (nI ta_length), .int (nI u_ta_333), .int u_ta_433, .int u_ta_533, .int u_ta_633, .long u_ta_733, .int u_ta_833]), (ta_signs, kB k 1000 ta_signsF), (ta_words, kJ k 23 ta_wordsF), (w, kO 0 [.ref w_code, .ref w_stack, .ref w_facts, .int (nI u_w_335), .int (nI w_top)]), (w_code, kI k 1000 u_w_code35)] H := hP
                                  have hD : va_D A [(ta, kO 6 [.ref ta_signs, .ref ta_words, .int (nI ta_length), .int (nI u_ta_333), .int u_ta_433, .int u_ta_533, .int u_ta_633, .long u_ta_733, .int u_ta_833]), (ta_signs, kB k 1000 ta_signsF), (ta_words, kJ k 23 ta_wordsF), (w, kO 0 [.ref w_code, .ref w_stack, .ref w_facts, .int (nI u_w_335), .int (nI w_top)]), (w_code, kI k 1000 u_w_code35)] := hD
                                  obtain ⟨hw35_0, hw35_1⟩ := hw35
                                  have hZ := bn2_e hw35_1 hZ
                                  refine lv_iload hx hb dX0_readOver_78 (lv_at hl 0 rfl) ?_
                                  refine lv_iconst (v := 2) hx hb dX0_readOver_80 (by decide) ?_
                                  have hj93_36 : ∀ (s0_93 : Int32) (H : Heap) (locs : List Loc) (ls : Array Slot), ((fX0_readOver_1_3_J93c l5_17 rc17_3 u_ta_333 u_ta_433 u_ta_533 u_ta_633 u_ta_733 u_ta_833 u_w_335 u_w_code35) s0_93 = E0) → va_P D vwCl [(ta, kO 6 [.ref ta_signs, .ref ta_words, .int (nI ta_length), .int (nI u_ta_333), .int u_ta_433, .int u_ta_533, .int u_ta_633, .long u_ta_733, .int u_ta_833]), (ta_signs, kB k 1000 ta_signsF), (ta_words, kJ k 23 ta_wordsF), (w, kO 0 [.ref w_code, .ref w_stack, .ref w_facts, .int (nI u_w_335), .int (nI w_top)]), (w_code, kI k 1000 u_w_code35)] H → va_D A [(ta, kO 6 [.ref ta_signs, .ref ta_words, .int (nI ta_length), .int (nI u_ta_333), .int u_ta_433, .int u_ta_533, .int u_ta_633, .long u_ta_733, .int u_ta_833]), (ta_signs, kB k 1000 ta_signsF), (ta_words, kJ k 23 ta_wordsF), (w, kO 0 [.ref w_code, .ref w_stack, .ref w_facts, .int (nI u_w_335), .int (nI w_top)]), (w_code, kI k 1000 u_w_code35)] → va_S A s.heap H locs → lv_has ls 8 [(0, .ref w), (1, .ref ta), (2, .int 1), (3, .int 3), (4, .int l4_17), (5, .int (nI l5_17)), (6, .int r5), (7, .int 3)] → W p l e R s m args below meth c H locs 0 0 Q (F0 m 93 ls [.int s0_93]) := by
                                    intro s0_93 H locs ls hZ hP hD hS hl
                                    refine lv_istore (lv' := [(4, .int s0_93), (0, .ref w), (1, .ref ta), (2, .int 1), (3, .int 3), (5, .int (nI l5_17)), (6, .int r5), (7, .int 3)]) hx hb dX0_readOver_93 hl (by decide) rfl (fun ls hl => ?_)
                                    exact by
                                     refine lv_iinc (v := (nI (l5_17 + 1))) (lv' := [(5, .int (nI (l5_17 + 1))), (4, .int s0_93), (0, .ref w), (1, .ref ta), (2, .int 1), (3, .int 3), (6, .int r5), (7, .int 3)]) hx hb dX0_readOver_95 hl (k := 5) rfl (nI_1 _) (by decide) rfl (fun ls hl => ?_)
                                     exact by
                                      refine lv_goto (tgt := 17) hx hb dX0_readOver_98 (by decide) ?_
                                      exact ih17 s0_93 (l5_17 + 1) u_w_335 u_w_code35 u_ta_333 u_ta_433 u_ta_533 u_ta_633 u_ta_733 u_ta_833 _ _ _ (by omega) (by first | omega | assumption) (by first | omega | assumption) (by first | omega | assumption) (by rw [← hrc17_3]; exact hZ) (hP.sub [3, 4, 0, 1, 2] rfl) (hD.sub [3, 4, 0, 1, 2] (by decide +kernel) rfl) hS (lv_sub hl [2, 3, 4, 5, 1, 0] rfl)
                                  refine lv_icmp_ne (tgt := 91) hx hb dX0_readOver_81 (by decide) (fun c_38 => ?_) (fun c_38 => absurd c_38 (by decide))
                                  refine lv_iload hx hb dX0_readOver_91 (lv_at hl 0 rfl) ?_
                                  exact hj93_36 (3 : Int32) _ _ _ hZ (hP.sub [0, 1, 2, 3, 4] rfl) (hD.sub [0, 1, 2, 3, 4] (by decide +kernel) rfl) hS (lv_sub hl [2, 3, 4, 5, 6, 7, 1, 0] rfl)
                              · exact by
                                 have b_34 : ub33 = false := bB_0 c_34
                                 have hZ := (if_neg (bF b_34)).symm.trans hZ
                                 refine lv_iconst (v := 0) hx hb dX0_readOver_70 (by decide) ?_
                                 rw [hQ]
                                 have hP9 := hP.sub (ws' := [(w, kO 0 [.ref w_code, .ref w_stack, .ref w_facts, .int (nI u_w_333), .int (nI w_top)]), (w_code, kI k 1000 u_w_code33), (ta, kO 6 [.ref ta_signs, .ref ta_words, .int (nI ta_length), .int (nI u_ta_333), .int u_ta_433, .int u_ta_533, .int u_ta_633, .long u_ta_733, .int u_ta_833]), (ta_signs, kB k 1000 ta_signsF), (ta_words, kJ k 23 ta_wordsF)]) [0, 1, 2, 3, 4] rfl
                                 have hD9 := hD.sub (ws' := [(w, kO 0 [.ref w_code, .ref w_stack, .ref w_facts, .int (nI u_w_333), .int (nI w_top)]), (w_code, kI k 1000 u_w_code33), (ta, kO 6 [.ref ta_signs, .ref ta_words, .int (nI ta_length), .int (nI u_ta_333), .int u_ta_433, .int u_ta_533, .int u_ta_633, .long u_ta_733, .int u_ta_833]), (ta_signs, kB k 1000 ta_signsF), (ta_words, kJ k 23 ta_wordsF)]) [0, 1, 2, 3, 4] (by decide +kernel) rfl
                                 exact W.zret (v := 0) hx hb hr rfl (fun zt ht hW => ⟨⟨0, ⟨u_w_333, u_w_code33, u_ta_333, u_ta_433, u_ta_533, u_ta_633, u_ta_733, u_ta_833, false⟩, rfl, ⟨rfl, (by first | omega | (dsimp only; omega) | assumption), (by first | omega | (dsimp only; omega) | assumption), (hZ.trans hE0)⟩, by rw [ht]; exact hP9, hD9⟩, hS.F ht⟩) hS.2.2 dX0_readOver_71
                         · obtain rfl : r6 = 4 := Int32.toInt_inj.mp (cs10.trans (by decide))
                           have hZ := hZ9
                           have hZ := (if_neg (by decide : ¬ ((4 : Int32) = 1))).symm.trans hZ
                           have hZ := (if_neg (by decide : ¬ ((4 : Int32) = 2))).symm.trans hZ
                           have hZ := (if_neg (by decide : ¬ ((4 : Int32) = 3))).symm.trans hZ
                           refine lv_aload_n hx hb dX0_readOver_53 rfl (lv_at hl 3 rfl) ?_
                           refine kz_VvY (As := []) (rest := []) (wc := [(ta, kO 6 [.ref ta_signs, .ref ta_words, .int (nI ta_length), .int (nI fta_3_17), .int fta_4_17, .int fta_5_17, .int fta_6_17, .long fta_7_17, .int fta_8_17]), (ta_signs, kB k 1000 ta_signsF), (ta_words, kJ k 23 ta_wordsF)]) (wr := [(w, kO 0 [.ref w_code, .ref w_stack, .ref w_facts, .int (nI fw_3_17), .int (nI w_top)]), (w_code, kI k 1000 aw_code_17)]) ⟨hx, hb, hml, hown, hts⟩ hX hAX ha0 hK hE hP hD hS hA (sX6_advance l D k a0 sa sv f H.size ta ta_signs ta_words ta_length fta_3_17 fta_4_17 fta_5_17 fta_6_17 fta_7_17 fta_8_17 ta_signsF ta_wordsF (by first | omega | assumption | decide) (by first | omega | assumption | decide)) (cwV 0 hts gX0_readOver_X6_advance rfl rfl rfl (by decide +kernel) (by rw [hR]; exact ⟨Nat.le_of_ble_eq_true rfl, Nat.le_of_ble_eq_true rfl⟩)) [4, 2, 3] [0, 1] rfl rfl (by decide +kernel) (by decide +kernel) (by decide +kernel) 0 rfl rfl rfl hl.1 rfl (Nat.le_of_ble_eq_true rfl) dX0_readOver_54 (by rw [hR]; exact ⟨Nat.le_of_ble_eq_true rfl, Nat.le_of_ble_eq_true rfl⟩) (fun u40 H locs hw40 hP hD hS => ?_)
                           exact by
                            obtain ⟨u_ta_340, u_ta_440, u_ta_540, u_ta_640, u_ta_740⟩ := u40
                            try dsimp only at hw40
                            have hP : va_P D vwCl [(w, kO 0 [.ref w_code, .ref w_stack, .ref w_facts, .int (nI fw_3_17), .int (nI w_top)]), (w_code, kI k 1000 aw_code_17), (ta, kO 6 [.ref ta_signs, .ref ta_words, .int (nI ta_length), .int (nI u_ta_340), .int u_ta_440, .int u_ta_540, .int u_ta_640, .long u_ta_740, .int fta_8_17]), (ta_signs, kB k 1000 ta_signsF), (ta_words, kJ k 23 ta_wordsF)] H := hP
                            have hD : va_D A [(w, kO 0 [.ref w_code, .ref w_stack, .ref w_facts, .int (nI fw_3_17), .int (nI w_top)]), (w_code, kI k 1000 aw_code_17), (ta, kO 6 [.ref ta_signs, .ref ta_words, .int (nI ta_length), .int (nI u_ta_340), .int u_ta_440, .int u_ta_540, .int u_ta_640, .long u_ta_740, .int fta_8_17]), (ta_signs, kB k 1000 ta_signsF), (ta_words, kJ k 23 ta_wordsF)] := hD
                            obtain ⟨hw40_0, hw40_1⟩ := hw40
                            have hZ := bn5_e hw40_1 hZ
                            refine lv_aload_n hx hb dX0_readOver_57 rfl (lv_at hl 2 rfl) ?_
                            refine lv_aload_n hx hb dX0_readOver_58 rfl (lv_at hl 3 rfl) ?_
                            refine lv_iload hx hb dX0_readOver_59 (lv_at hl 0 rfl) ?_
                            refine lv_iconst (v := 1) hx hb dX0_readOver_61 (by decide) ?_
                            refine lv_iadd hx hb dX0_readOver_62 ?_
                            refine lv_topi (fun x41 ex41 => ?_)
                            exact by
                             obtain rfl : x41 = 5 := ex41.trans (by decide)
                             refine lv_iload_n hx hb dX0_readOver_63 rfl (lv_at hl 5 rfl) ?_
                             refine kz_ViY (As := [.ref ta, .int 5, .int 3]) (rest := []) (wc := [(w, kO 0 [.ref w_code, .ref w_stack, .ref w_facts, .int (nI fw_3_17), .int (nI w_top)]), (w_code, kI k 1000 aw_code_17), (ta, kO 6 [.ref ta_signs, .ref ta_words, .int (nI ta_length), .int (nI u_ta_340), .int u_ta_440, .int u_ta_540, .int u_ta_640, .long u_ta_740, .int fta_8_17]), (ta_signs, kB k 1000 ta_signsF), (ta_words, kJ k 23 ta_wordsF)]) (wr := []) ⟨hx, hb, hml, hown, hts⟩ hX hAX ha0 hK hE hP hD hS hA (sX0_readOver_5_3 l D k a0 sa sv f H.size w ta w_code w_stack w_facts fw_3_17 w_top aw_code_17 ta_signs ta_words ta_length u_ta_340 u_ta_440 u_ta_540 u_ta_640 u_ta_740 fta_8_17 ta_signsF ta_wordsF (by first | omega | assumption | decide) (by first | omega | assumption | decide) (by first | omega | assumption | decide) (by first | omega | assumption | decide)) (cwV 3 hts gX0_readOver_X0_readOver rfl rfl rfl (by decide +kernel) (by rw [hR]; exact ⟨Nat.le_of_ble_eq_true rfl, Nat.le_of_ble_eq_true rfl⟩)) [0, 1, 2, 3, 4] [] rfl rfl (by decide +kernel) (by decide +kernel) (by decide +kernel) 0 rfl rfl rfl hl.1 rfl (Nat.le_of_ble_eq_true rfl) dX0_readOver_64 (by rw [hR]; exact ⟨Nat.le_of_ble_eq_true rfl, Nat.le_of_ble_eq_true rfl⟩) (fun r42 u42 H locs hw42 hP hD hS => ?_)
                             exact by
                              obtain ⟨u_w_342, u_w_code42, u_ta_342, u_ta_442, u_ta_542, u_ta_642, u_ta_742, u_ta_842, ub42⟩ := u42
                              try dsimp only at hw42
                              obtain ⟨rfl, hw42⟩ := hw42
                              have hP : va_P D vwCl [(w, kO 0 [.ref w_code, .ref w_stack, .ref w_facts, .int (nI u_w_342), .int (nI w_top)]), (w_code, kI k 1000 u_w_code42), (ta, kO 6 [.ref ta_signs, .ref ta_words, .int (nI ta_length), .int (nI u_ta_342), .int u_ta_442, .int u_ta_542, .int u_ta_642, .long u_ta_742, .int u_ta_842]), (ta_signs, kB k 1000 ta_signsF), (ta_words, kJ k 23 ta_wordsF)] H := hP
                              have hD : va_D A [(w, kO 0 [.ref w_code, .ref w_stack, .ref w_facts, .int (nI u_w_342), .int (nI w_top)]), (w_code, kI k 1000 u_w_code42), (ta, kO 6 [.ref ta_signs, .ref ta_words, .int (nI ta_length), .int (nI u_ta_342), .int u_ta_442, .int u_ta_542, .int u_ta_642, .long u_ta_742, .int u_ta_842]), (ta_signs, kB k 1000 ta_signsF), (ta_words, kJ k 23 ta_wordsF)] := hD
                              obtain ⟨hw42_0, hw42_1, hw42_2⟩ := hw42
                              have hZ := bn9_e hw42_2 hZ
                              refine lv_if_ne (tgt := 72) hx hb dX0_readOver_67 (by decide) (fun c_43 => ?_) (fun c_43 => ?_)
                              · exact by
                                 have b_43 : ub42 = true := bB_1 c_43
                                 have hZ := (if_pos b_43).symm.trans hZ
                                 refine lv_aload_n hx hb dX0_readOver_72 rfl (lv_at hl 2 rfl) ?_
                                 refine lv_iload hx hb dX0_readOver_73 (lv_at hl 1 rfl) ?_
                                 refine kz_Vv (As := [.int r5]) (rest := []) (wc := [(w, kO 0 [.ref w_code, .ref w_stack, .ref w_facts, .int (nI u_w_342), .int (nI w_top)]), (w_code, kI k 1000 u_w_code42)]) (wr := [(ta, kO 6 [.ref ta_signs, .ref ta_words, .int (nI ta_length), .int (nI u_ta_342), .int u_ta_442, .int u_ta_542, .int u_ta_642, .long u_ta_742, .int u_ta_842]), (ta_signs, kB k 1000 ta_signsF), (ta_words, kJ k 23 ta_wordsF)]) ⟨hx, hb, hml, hown, hts⟩ hK hE hP hD hS hA (sX0_write l D k H.size w r5 w_code w_stack w_facts u_w_342 w_top u_w_code42 (by first | omega | assumption | decide) (by first | omega | assumption | decide)) (cwV 1 hts gX0_readOver_X0_write rfl rfl rfl (by decide +kernel) (by rw [hR]; exact ⟨Nat.le_of_ble_eq_true rfl, Nat.le_of_ble_eq_true rfl⟩)) [0, 1] [2, 3, 4] rfl rfl (by decide +kernel) (by decide +kernel) (by decide +kernel) 0 rfl rfl rfl hl.1 rfl (Nat.le_of_ble_eq_true rfl) dX0_readOver_75 (by rw [hR]; exact ⟨Nat.le_of_ble_eq_true rfl, Nat.le_of_ble_eq_true rfl⟩) (fun u44 H locs hw44 hP hD hS => ?_)
                                 exact by
                                  obtain ⟨u_w_344, u_w_code44⟩ := u44
                                  try dsimp only at hw44
                                  have hP : va_P D vwCl [(ta, kO 6 [.ref ta_signs, .ref ta_words, .int (nI ta_length), .int (nI u_ta_342), .int u_ta_442, .int u_ta_542, .int u_ta_642, .long u_ta_742, .int u_ta_842]), (ta_signs, kB k 1000 ta_signsF), (ta_words, kJ k 23 ta_wordsF), (w, kO 0 [.ref w_code, .ref w_stack, .ref w_facts, .int (nI u_w_344), .int (nI w_top)]), (w_code, kI k 1000 u_w_code44)] H := hP
                                  have hD : va_D A [(ta, kO 6 [.ref ta_signs, .ref ta_words, .int (nI ta_length), .int (nI u_ta_342), .int u_ta_442, .int u_ta_542, .int u_ta_642, .long u_ta_742, .int u_ta_842]), (ta_signs, kB k 1000 ta_signsF), (ta_words, kJ k 23 ta_wordsF), (w, kO 0 [.ref w_code, .ref w_stack, .ref w_facts, .int (nI u_w_344), .int (nI w_top)]), (w_code, kI k 1000 u_w_code44)] := hD
                                  obtain ⟨hw44_0, hw44_1⟩ := hw44
                                  have hZ := bn2_e hw44_1 hZ
                                  refine lv_iload hx hb dX0_readOver_78 (lv_at hl 0 rfl) ?_
                                  refine lv_iconst (v := 2) hx hb dX0_readOver_80 (by decide) ?_
                                  have hj93_45 : ∀ (s0_93 : Int32) (H : Heap) (locs : List Loc) (ls : Array Slot), ((fX0_readOver_1_3_J93d l5_17 rc17_3 u_ta_342 u_ta_442 u_ta_542 u_ta_642 u_ta_742 u_ta_842 u_w_344 u_w_code44) s0_93 = E0) → va_P D vwCl [(ta, kO 6 [.ref ta_signs, .ref ta_words, .int (nI ta_length), .int (nI u_ta_342), .int u_ta_442, .int u_ta_542, .int u_ta_642, .long u_ta_742, .int u_ta_842]), (ta_signs, kB k 1000 ta_signsF), (ta_words, kJ k 23 ta_wordsF), (w, kO 0 [.ref w_code, .ref w_stack, .ref w_facts, .int (nI u_w_344), .int (nI w_top)]), (w_code, kI k 1000 u_w_code44)] H → va_D A [(ta, kO 6 [.ref ta_signs, .ref ta_words, .int (nI ta_length), .int (nI u_ta_342), .int u_ta_442, .int u_ta_542, .int u_ta_642, .long u_ta_742, .int u_ta_842]), (ta_signs, kB k 1000 ta_signsF), (ta_words, kJ k 23 ta_wordsF), (w, kO 0 [.ref w_code, .ref w_stack, .ref w_facts, .int (nI u_w_344), .int (nI w_top)]), (w_code, kI k 1000 u_w_code44)] → va_S A s.heap H locs → lv_has ls 8 [(0, .ref w), (1, .ref ta), (2, .int 1), (3, .int 3), (4, .int l4_17), (5, .int (nI l5_17)), (6, .int r5), (7, .int 4)] → W p l e R s m args below meth c H locs 0 0 Q (F0 m 93 ls [.int s0_93]) := by
                                    intro s0_93 H locs ls hZ hP hD hS hl
                                    refine lv_istore (lv' := [(4, .int s0_93), (0, .ref w), (1, .ref ta), (2, .int 1), (3, .int 3), (5, .int (nI l5_17)), (6, .int r5), (7, .int 4)]) hx hb dX0_readOver_93 hl (by decide) rfl (fun ls hl => ?_)
                                    exact by
                                     refine lv_iinc (v := (nI (l5_17 + 1))) (lv' := [(5, .int (nI (l5_17 + 1))), (4, .int s0_93), (0, .ref w), (1, .ref ta), (2, .int 1), (3, .int 3), (6, .int r5), (7, .int 4)]) hx hb dX0_readOver_95 hl (k := 5) rfl (nI_1 _) (by decide) rfl (fun ls hl => ?_)
                                     exact by
                                      refine lv_goto (tgt := 17) hx hb dX0_readOver_98 (by decide) ?_
                                      exact ih17 s0_93 (l5_17 + 1) u_w_344 u_w_code44 u_ta_342 u_ta_442 u_ta_542 u_ta_642 u_ta_742 u_ta_842 _ _ _ (by omega) (by first | omega | assumption) (by first | omega | assumption) (by first | omega | assumption) (by rw [← hrc17_3]; exact hZ) (hP.sub [3, 4, 0, 1, 2] rfl) (hD.sub [3, 4, 0, 1, 2] (by decide +kernel) rfl) hS (lv_sub hl [2, 3, 4, 5, 1, 0] rfl)
                                  refine lv_icmp_ne (tgt := 91) hx hb dX0_readOver_81 (by decide) (fun c_47 => ?_) (fun c_47 => absurd c_47 (by decide))
                                  refine lv_iload hx hb dX0_readOver_91 (lv_at hl 0 rfl) ?_
                                  exact hj93_45 (4 : Int32) _ _ _ hZ (hP.sub [0, 1, 2, 3, 4] rfl) (hD.sub [0, 1, 2, 3, 4] (by decide +kernel) rfl) hS (lv_sub hl [2, 3, 4, 5, 6, 7, 1, 0] rfl)
                              · exact by
                                 have b_43 : ub42 = false := bB_0 c_43
                                 have hZ := (if_neg (bF b_43)).symm.trans hZ
                                 refine lv_iconst (v := 0) hx hb dX0_readOver_70 (by decide) ?_
                                 rw [hQ]
                                 have hP9 := hP.sub (ws' := [(w, kO 0 [.ref w_code, .ref w_stack, .ref w_facts, .int (nI u_w_342), .int (nI w_top)]), (w_code, kI k 1000 u_w_code42), (ta, kO 6 [.ref ta_signs, .ref ta_words, .int (nI ta_length), .int (nI u_ta_342), .int u_ta_442, .int u_ta_542, .int u_ta_642, .long u_ta_742, .int u_ta_842]), (ta_signs, kB k 1000 ta_signsF), (ta_words, kJ k 23 ta_wordsF)]) [0, 1, 2, 3, 4] rfl
                                 have hD9 := hD.sub (ws' := [(w, kO 0 [.ref w_code, .ref w_stack, .ref w_facts, .int (nI u_w_342), .int (nI w_top)]), (w_code, kI k 1000 u_w_code42), (ta, kO 6 [.ref ta_signs, .ref ta_words, .int (nI ta_length), .int (nI u_ta_342), .int u_ta_442, .int u_ta_542, .int u_ta_642, .long u_ta_742, .int u_ta_842]), (ta_signs, kB k 1000 ta_signsF), (ta_words, kJ k 23 ta_wordsF)]) [0, 1, 2, 3, 4] (by decide +kernel) rfl
                                 exact W.zret (v := 0) hx hb hr rfl (fun zt ht hW => ⟨⟨0, ⟨u_w_342, u_w_code42, u_ta_342, u_ta_442, u_ta_542, u_ta_642, u_ta_742, u_ta_842, false⟩, rfl, ⟨rfl, (by first | omega | (dsimp only; omega) | assumption), (by first | omega | (dsimp only; omega) | assumption), (hZ.trans hE0)⟩, by rw [ht]; exact hP9, hD9⟩, hS.F ht⟩) hS.2.2 dX0_readOver_71
                      · exact by
                         have t_9 : (Int32.toInt r6) > (Int32.toInt l4_17) := tI_nle rfl rfl c_9
                         have hZ := (if_neg c_9).symm.trans hZ
                         exact hj51_7 _ _ _ hZ (hP.sub [0, 1, 2, 3, 4] rfl) (hD.sub [0, 1, 2, 3, 4] (by decide +kernel) rfl) hS (lv_sub hl [2, 3, 4, 5, 6, 7, 1, 0] rfl)
        exact hloop17 ((1000 + 1 - 0) + 1) (4 : Int32) 0 u_w_31 u_w_code1 u_ta_31 u_ta_41 u_ta_51 u_ta_61 u_ta_71 u_ta_81 _ _ _ (Nat.lt_succ_self _) (by first | omega | assumption) (by first | omega | assumption) (by first | omega | assumption) hZ (hP.sub [0, 1, 2, 3, 4] rfl) (hD.sub [0, 1, 2, 3, 4] (by decide +kernel) rfl) hS (lv_sub hl [2, 3, 4, 5, 1, 0] rfl)
   · exact by
      have b_2 : ub1 = false := bB_0 c_2
      have hZ := (if_neg (bF b_2)).symm.trans hZ
      refine lv_iconst (v := 0) hx hb dX0_readOver_9 (by decide) ?_
      rw [hQ]
      have hP9 := hP.sub (ws' := [(w, kO 0 [.ref w_code, .ref w_stack, .ref w_facts, .int (nI u_w_31), .int (nI w_top)]), (w_code, kI k 1000 u_w_code1), (ta, kO 6 [.ref ta_signs, .ref ta_words, .int (nI ta_length), .int (nI u_ta_31), .int u_ta_41, .int u_ta_51, .int u_ta_61, .long u_ta_71, .int u_ta_81]), (ta_signs, kB k 1000 ta_signsF), (ta_words, kJ k 23 ta_wordsF)]) [0, 1, 2, 3, 4] rfl
      have hD9 := hD.sub (ws' := [(w, kO 0 [.ref w_code, .ref w_stack, .ref w_facts, .int (nI u_w_31), .int (nI w_top)]), (w_code, kI k 1000 u_w_code1), (ta, kO 6 [.ref ta_signs, .ref ta_words, .int (nI ta_length), .int (nI u_ta_31), .int u_ta_41, .int u_ta_51, .int u_ta_61, .long u_ta_71, .int u_ta_81]), (ta_signs, kB k 1000 ta_signsF), (ta_words, kJ k 23 ta_wordsF)]) [0, 1, 2, 3, 4] (by decide +kernel) rfl
      exact W.zret (v := 0) hx hb hr rfl (fun zt ht hW => ⟨⟨0, ⟨u_w_31, u_w_code1, u_ta_31, u_ta_41, u_ta_51, u_ta_61, u_ta_71, u_ta_81, false⟩, rfl, ⟨rfl, (by first | omega | (dsimp only; omega) | assumption), (by first | omega | (dsimp only; omega) | assumption), (hZ.trans hE0)⟩, by rw [ht]; exact hP9, hD9⟩, hS.F ht⟩) hS.2.2 dX0_readOver_10
