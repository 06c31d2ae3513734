theorem dX6_init_0 : decode cX6_init 0 = .ok (.aload_n 0, 1) := dk_aload_n_0 (by decide +kernel)
theorem dX6_init_1 : decode cX6_init 1 = .ok (.invokespecial 3, 3) := dk_invokespecial (by decide +kernel)
theorem dX6_init_4 : decode cX6_init 4 = .ok (.aload_n 0, 1) := dk_aload_n_0 (by decide +kernel)
theorem dX6_init_5 : decode cX6_init 5 = .ok (.sipush 1000, 3) := dk_sipush (by decide +kernel)
theorem dX6_init_8 : decode cX6_init 8 = .ok (.newarray .byte, 2) := by decide +kernel
theorem dX6_init_10 : decode cX6_init 10 = .ok (.putfield 11, 3) := dk_putfield (by decide +kernel)
theorem dX6_init_13 : decode cX6_init 13 = .ok (.aload_n 0, 1) := dk_aload_n_0 (by decide +kernel)
theorem dX6_init_14 : decode cX6_init 14 = .ok (.bipush 23, 2) := dk_bipush (by decide +kernel)
theorem dX6_init_16 : decode cX6_init 16 = .ok (.newarray .long, 2) := by decide +kernel
theorem dX6_init_18 : decode cX6_init 18 = .ok (.putfield 15, 3) := dk_putfield (by decide +kernel)
theorem dX6_init_21 : decode cX6_init 21 = .ok (.iconst 0, 1) := dk_iconst_0 (by decide +kernel)
theorem dX6_init_22 : decode cX6_init 22 = .ok (.istore_n 1, 1) := dk_istore_n_1 (by decide +kernel)
theorem dX6_init_23 : decode cX6_init 23 = .ok (.lconst 0, 1) := dk_lconst_0 (by decide +kernel)
theorem dX6_init_24 : decode cX6_init 24 = .ok (.lstore_n 2, 1) := dk_lstore_n_2 (by decide +kernel)
theorem dX6_init_25 : decode cX6_init 25 = .ok (.iconst 0, 1) := dk_iconst_0 (by decide +kernel)
theorem dX6_init_26 : decode cX6_init 26 = .ok (.istore 4, 2) := dk_istore (by decide +kernel)
theorem dX6_init_28 : decode cX6_init 28 = .ok (.iload 4, 2) := dk_iload (by decide +kernel)
theorem dX6_init_30 : decode cX6_init 30 = .ok (.ldc 19, 2) := dk_ldc (by decide +kernel)
theorem dX6_init_32 : decode cX6_init 32 = .ok (.invokevirtual 21, 3) := dk_invokevirtual (by decide +kernel)
theorem dX6_init_35 : decode cX6_init 35 = .ok (.if_icmp .ge 57, 3) := dk_if_icmp_ge (by decide +kernel)
theorem dX6_init_38 : decode cX6_init 38 = .ok (.ldc 19, 2) := dk_ldc (by decide +kernel)
theorem dX6_init_40 : decode cX6_init 40 = .ok (.iload 4, 2) := dk_iload (by decide +kernel)
theorem dX6_init_42 : decode cX6_init 42 = .ok (.invokevirtual 27, 3) := dk_invokevirtual (by decide +kernel)
theorem dX6_init_45 : decode cX6_init 45 = .ok (.istore 5, 2) := dk_istore (by decide +kernel)
theorem dX6_init_47 : decode cX6_init 47 = .ok (.iload 5, 2) := dk_iload (by decide +kernel)
theorem dX6_init_49 : decode cX6_init 49 = .ok (.invokestatic 31, 3) := dk_invokestatic (by decide +kernel)
theorem dX6_init_52 : decode cX6_init 52 = .ok (.ifCond .eq 13, 3) := dk_ifCond_eq (by decide +kernel)
theorem dX6_init_55 : decode cX6_init 55 = .ok (.lload_n 2, 1) := dk_lload_n_2 (by decide +kernel)
theorem dX6_init_56 : decode cX6_init 56 = .ok (.iload 5, 2) := dk_iload (by decide +kernel)
theorem dX6_init_58 : decode cX6_init 58 = .ok (.invokestatic 35, 3) := dk_invokestatic (by decide +kernel)
theorem dX6_init_61 : decode cX6_init 61 = .ok (.lstore_n 2, 1) := dk_lstore_n_2 (by decide +kernel)
theorem dX6_init_62 : decode cX6_init 62 = .ok (.goto 24, 3) := dk_goto (by decide +kernel)
theorem dX6_init_65 : decode cX6_init 65 = .ok (.iload_n 1, 1) := dk_iload_n_1 (by decide +kernel)
theorem dX6_init_66 : decode cX6_init 66 = .ok (.aload_n 0, 1) := dk_aload_n_0 (by decide +kernel)
theorem dX6_init_67 : decode cX6_init 67 = .ok (.getfield 15, 3) := dk_getfield (by decide +kernel)
theorem dX6_init_70 : decode cX6_init 70 = .ok (.arraylength, 1) := dk_arraylength (by decide +kernel)
theorem dX6_init_71 : decode cX6_init 71 = .ok (.if_icmp .ge 15, 3) := dk_if_icmp_ge (by decide +kernel)
theorem dX6_init_74 : decode cX6_init 74 = .ok (.aload_n 0, 1) := dk_aload_n_0 (by decide +kernel)
theorem dX6_init_75 : decode cX6_init 75 = .ok (.getfield 15, 3) := dk_getfield (by decide +kernel)
theorem dX6_init_78 : decode cX6_init 78 = .ok (.iload_n 1, 1) := dk_iload_n_1 (by decide +kernel)
theorem dX6_init_79 : decode cX6_init 79 = .ok (.lload_n 2, 1) := dk_lload_n_2 (by decide +kernel)
theorem dX6_init_80 : decode cX6_init 80 = .ok (.lastore, 1) := dk_lastore (by decide +kernel)
theorem dX6_init_81 : decode cX6_init 81 = .ok (.iinc 1 1, 3) := dk_iinc (by decide +kernel)
theorem dX6_init_84 : decode cX6_init 84 = .ok (.lconst 0, 1) := dk_lconst_0 (by decide +kernel)
theorem dX6_init_85 : decode cX6_init 85 = .ok (.lstore_n 2, 1) := dk_lstore_n_2 (by decide +kernel)
theorem dX6_init_86 : decode cX6_init 86 = .ok (.iinc 4 1, 3) := dk_iinc (by decide +kernel)
theorem dX6_init_89 : decode cX6_init 89 = .ok (.goto (-61), 3) := dk_goto (by decide +kernel)
theorem dX6_init_92 : decode cX6_init 92 = .ok (.return_, 1) := dk_return_ (by decide +kernel)
set_option maxRecDepth 20000 in
theorem ggX6_init_J0_length_8abf5 : GoodIn wsX6_init wsJ0_length_8abf5 := goodIn_sub (sub_cons (List.mem_cons_of_mem _ (List.mem_append_left _ (List.mem_append_left _ (List.mem_of_getElem? (i := 11) rfl)))) (sub_cons (List.mem_cons_of_mem _ (List.mem_append_left _ (List.mem_append_left _ (List.mem_of_getElem? (i := 12) rfl)))) (sub_cons (List.mem_cons_of_mem _ (List.mem_append_left _ (List.mem_append_left _ (List.mem_of_getElem? (i := 13) rfl)))) (sub_cons (List.mem_cons_of_mem _ (List.mem_append_left _ (List.mem_append_left _ (List.mem_of_getElem? (i := 14) rfl)))) (sub_cons (List.mem_cons_of_mem _ (List.mem_append_left _ (List.mem_append_left _ (List.mem_of_getElem? (i := 15) rfl)))) (sub_cons (List.mem_cons_of_mem _ (List.mem_append_left _ (List.mem_append_left _ (List.mem_of_getElem? (i := 10) rfl)))) (sub_cons (List.mem_cons_of_mem _ (List.mem_append_left _ (List.mem_append_left _ (List.mem_of_getElem? (i := 16) rfl)))) (sub_cons (List.mem_cons_of_mem _ (List.mem_append_left _ (List.mem_append_left _ (List.mem_of_getElem? (i := 17) rfl)))) (sub_cons (List.mem_cons_of_mem _ (List.mem_append_left _ (List.mem_append_left _ (List.mem_of_getElem? (i := 18) rfl)))) sub_nil))))))))) gw_J0_length_8abf5
set_option maxRecDepth 20000 in
theorem gX6_init_J0_length_8abf5 : GoodIn wsX6_init (wsV RX6 21 RJ0 yJ0_length_8abf5 wsJ0_length_8abf5) := goodIn_app (goodIn_sub (sub_cons (List.mem_cons_of_mem _ (List.mem_append_left _ (List.mem_append_left _ (List.mem_of_getElem? (i := 7) rfl)))) (sub_cons (List.mem_cons_of_mem _ (List.mem_append_left _ (List.mem_append_left _ (List.mem_of_getElem? (i := 8) rfl)))) (sub_cons (List.mem_cons_of_mem _ (List.mem_append_left _ (List.mem_append_left _ (List.mem_of_getElem? (i := 9) rfl)))) (sub_cons (List.mem_cons_of_mem _ (List.mem_append_left _ (List.mem_append_left _ (List.mem_of_getElem? (i := 10) rfl)))) sub_nil)))) (by decide +kernel)) ggX6_init_J0_length_8abf5
set_option maxRecDepth 20000 in
theorem ggX6_init_J0_charAt_5068e : GoodIn wsX6_init wsJ0_charAt_5068e := goodIn_sub (sub_cons (List.mem_cons_of_mem _ (List.mem_append_left _ (List.mem_append_left _ (List.mem_of_getElem? (i := 22) rfl)))) (sub_app (sub_cons (List.mem_cons_of_mem _ (List.mem_append_left _ (List.mem_append_left _ (List.mem_of_getElem? (i := 12) rfl)))) (sub_cons (List.mem_cons_of_mem _ (List.mem_append_left _ (List.mem_append_left _ (List.mem_of_getElem? (i := 23) rfl)))) (sub_cons (List.mem_cons_of_mem _ (List.mem_append_left _ (List.mem_append_right _ (List.mem_append_left _ (List.mem_of_getElem? (i := 0) rfl))))) (sub_cons (List.mem_cons_of_mem _ (List.mem_append_left _ (List.mem_append_right _ (List.mem_append_left _ (List.mem_of_getElem? (i := 1) rfl))))) (sub_cons (List.mem_cons_of_mem _ (List.mem_append_left _ (List.mem_append_left _ (List.mem_of_getElem? (i := 10) rfl)))) (sub_cons (List.mem_cons_of_mem _ (List.mem_append_left _ (List.mem_append_right _ (List.mem_append_left _ (List.mem_of_getElem? (i := 2) rfl))))) (sub_cons (List.mem_cons_of_mem _ (List.mem_append_left _ (List.mem_append_left _ (List.mem_of_getElem? (i := 17) rfl)))) (sub_cons (List.mem_cons_of_mem _ (List.mem_append_left _ (List.mem_append_left _ (List.mem_of_getElem? (i := 18) rfl)))) (sub_cons (List.mem_cons_of_mem _ (List.mem_append_left _ (List.mem_append_right _ (List.mem_append_left _ (List.mem_of_getElem? (i := 3) rfl))))) (sub_cons (List.mem_cons_of_mem _ (List.mem_append_left _ (List.mem_append_right _ (List.mem_append_left _ (List.mem_of_getElem? (i := 4) rfl))))) (sub_cons (List.mem_cons_of_mem _ (List.mem_append_left _ (List.mem_append_right _ (List.mem_append_left _ (List.mem_of_getElem? (i := 5) rfl))))) (sub_cons (List.mem_cons_of_mem _ (List.mem_append_left _ (List.mem_append_right _ (List.mem_append_left _ (List.mem_of_getElem? (i := 6) rfl))))) (sub_cons (List.mem_cons_of_mem _ (List.mem_append_left _ (List.mem_append_right _ (List.mem_append_left _ (List.mem_of_getElem? (i := 7) rfl))))) (sub_cons (List.mem_cons_of_mem _ (List.mem_append_left _ (List.mem_append_right _ (List.mem_append_left _ (List.mem_of_getElem? (i := 8) rfl))))) (sub_cons (List.mem_cons_of_mem _ (List.mem_append_left _ (List.mem_append_right _ (List.mem_append_left _ (List.mem_of_getElem? (i := 9) rfl))))) (sub_cons (List.mem_cons_of_mem _ (List.mem_append_left _ (List.mem_append_right _ (List.mem_append_left _ (List.mem_of_getElem? (i := 10) rfl))))) (sub_cons (List.mem_cons_of_mem _ (List.mem_append_left _ (List.mem_append_right _ (List.mem_append_left _ (List.mem_of_getElem? (i := 11) rfl))))) (sub_cons (List.mem_cons_of_mem _ (List.mem_append_left _ (List.mem_append_right _ (List.mem_append_left _ (List.mem_of_getElem? (i := 12) rfl))))) (sub_cons (List.mem_cons_of_mem _ (List.mem_append_left _ (List.mem_append_right _ (List.mem_append_left _ (List.mem_of_getElem? (i := 13) rfl))))) (sub_cons (List.mem_cons_of_mem _ (List.mem_append_left _ (List.mem_append_right _ (List.mem_append_left _ (List.mem_of_getElem? (i := 14) rfl))))) (sub_cons (List.mem_cons_of_mem _ (List.mem_append_left _ (List.mem_append_right _ (List.mem_append_left _ (List.mem_of_getElem? (i := 15) rfl))))) (sub_cons (List.mem_cons_of_mem _ (List.mem_append_left _ (List.mem_append_right _ (List.mem_append_left _ (List.mem_of_getElem? (i := 16) rfl))))) (sub_cons (List.mem_cons_of_mem _ (List.mem_append_left _ (List.mem_append_right _ (List.mem_append_left _ (List.mem_of_getElem? (i := 17) rfl))))) (sub_cons (List.mem_cons_of_mem _ (List.mem_append_left _ (List.mem_append_right _ (List.mem_append_left _ (List.mem_of_getElem? (i := 18) rfl))))) sub_nil)))))))))))))))))))))))) (sub_cons (List.mem_cons_of_mem _ (List.mem_append_left _ (List.mem_append_right _ (List.mem_append_left _ (List.mem_of_getElem? (i := 19) rfl))))) (sub_cons (List.mem_cons_of_mem _ (List.mem_append_left _ (List.mem_append_right _ (List.mem_append_left _ (List.mem_of_getElem? (i := 20) rfl))))) (sub_cons (List.mem_cons_of_mem _ (List.mem_append_left _ (List.mem_append_right _ (List.mem_append_left _ (List.mem_of_getElem? (i := 21) rfl))))) (sub_cons (List.mem_cons_of_mem _ (List.mem_append_left _ (List.mem_append_right _ (List.mem_append_left _ (List.mem_of_getElem? (i := 22) rfl))))) (sub_cons (List.mem_cons_of_mem _ (List.mem_append_left _ (List.mem_append_right _ (List.mem_append_left _ (List.mem_of_getElem? (i := 23) rfl))))) (sub_cons (List.mem_cons_of_mem _ (List.mem_append_left _ (List.mem_append_right _ (List.mem_append_right _ (List.mem_of_getElem? (i := 0) rfl))))) (sub_cons (List.mem_cons_of_mem _ (List.mem_append_left _ (List.mem_append_right _ (List.mem_append_right _ (List.mem_of_getElem? (i := 1) rfl))))) (sub_cons (List.mem_cons_of_mem _ (List.mem_append_left _ (List.mem_append_right _ (List.mem_append_right _ (List.mem_of_getElem? (i := 2) rfl))))) (sub_cons (List.mem_cons_of_mem _ (List.mem_append_left _ (List.mem_append_right _ (List.mem_append_right _ (List.mem_of_getElem? (i := 3) rfl))))) (sub_cons (List.mem_cons_of_mem _ (List.mem_append_left _ (List.mem_append_right _ (List.mem_append_right _ (List.mem_of_getElem? (i := 4) rfl))))) (sub_cons (List.mem_cons_of_mem _ (List.mem_append_left _ (List.mem_append_right _ (List.mem_append_right _ (List.mem_of_getElem? (i := 5) rfl))))) (sub_cons (List.mem_cons_of_mem _ (List.mem_append_left _ (List.mem_append_right _ (List.mem_append_right _ (List.mem_of_getElem? (i := 6) rfl))))) (sub_cons (List.mem_cons_of_mem _ (List.mem_append_left _ (List.mem_append_right _ (List.mem_append_right _ (List.mem_of_getElem? (i := 7) rfl))))) sub_nil))))))))))))))) gw_J0_charAt_5068e
set_option maxRecDepth 20000 in
theorem gX6_init_J0_charAt_5068e : GoodIn wsX6_init (wsV RX6 27 RJ0 yJ0_charAt_5068e wsJ0_charAt_5068e) := goodIn_app (goodIn_sub (sub_cons (List.mem_cons_of_mem _ (List.mem_append_left _ (List.mem_append_left _ (List.mem_of_getElem? (i := 19) rfl)))) (sub_cons (List.mem_cons_of_mem _ (List.mem_append_left _ (List.mem_append_left _ (List.mem_of_getElem? (i := 20) rfl)))) (sub_cons (List.mem_cons_of_mem _ (List.mem_append_left _ (List.mem_append_left _ (List.mem_of_getElem? (i := 21) rfl)))) (sub_cons (List.mem_cons_of_mem _ (List.mem_append_left _ (List.mem_append_left _ (List.mem_of_getElem? (i := 10) rfl)))) sub_nil)))) (by decide +kernel)) ggX6_init_J0_charAt_5068e
set_option maxRecDepth 20000 in
theorem ggX6_init_X6_isLetter : GoodIn wsX6_init wsX6_isLetter := goodIn_sub (sub_cons (List.mem_cons_of_mem _ (List.mem_append_left _ (List.mem_append_right _ (List.mem_append_right _ (List.mem_of_getElem? (i := 11) rfl))))) sub_nil) gw_X6_isLetter
set_option maxRecDepth 20000 in
theorem gX6_init_X6_isLetter : GoodIn wsX6_init (va_wsS RX6 31 yX6_isLetter wsX6_isLetter) := goodIn_app (goodIn_of _ (by decide +kernel)) ggX6_init_X6_isLetter
set_option maxRecDepth 20000 in
theorem ggX6_init_X6_withLetter : GoodIn wsX6_init wsX6_withLetter := goodIn_sub (sub_cons (List.mem_cons_of_mem _ (List.mem_append_left _ (List.mem_append_right _ (List.mem_append_right _ (List.mem_of_getElem? (i := 14) rfl))))) (sub_cons (List.mem_cons_of_mem _ (List.mem_append_left _ (List.mem_append_right _ (List.mem_append_right _ (List.mem_of_getElem? (i := 15) rfl))))) sub_nil)) gw_X6_withLetter
set_option maxRecDepth 20000 in
theorem gX6_init_X6_withLetter : GoodIn wsX6_init (va_wsS RX6 35 yX6_withLetter wsX6_withLetter) := goodIn_app (goodIn_of _ (by decide +kernel)) ggX6_init_X6_withLetter
set_option maxHeartbeats 4000000 in
set_option maxRecDepth 100000 in
theorem kX6_init (l : Launch) (D : va_G) (k : Nat → ClassId) (a0 sa sv : Nat) (f : Nat → Int32) (sz : Nat) (w : Nat) (hge : a0 ≤ w) (hf9 : f = txF) : Met l yX6_init wsX6_init ({ frames := 4, cells := 2, slots := 1023, locals := 280 }) (va_Pc [.ref w] (kz_PreX D k [(w, kO 6 [.null, .null, .int 0, .int 0, .int 0, .int 0, .int 0, .long 0, .int 0])] a0 sa sv f sz)) (va_Qv (fun (uu : Nat × Nat × (Nat → Int64)) => WT uu.2.2) (fun uu zt => kz_B D (va_A [(w, kO 6 [.null, .null, .int 0, .int 0, .int 0, .int 0, .int 0, .long 0, .int 0])] sz) [(w, kO 6 [.ref uu.1, .ref uu.2.1, .int 0, .int 0, .int 0, .int 0, .int 0, .long 0, .int 0]), (uu.1, kB k 1000 (fun _ => 0)), (uu.2.1, kJ k 23 uu.2.2)] zt) (va_A [(w, kO 6 [.null, .null, .int 0, .int 0, .int 0, .int 0, .int 0, .long 0, .int 0])] sz)) 2 1023 (va_A [(w, kO 6 [.null, .null, .int 0, .int 0, .int 0, .int 0, .int 0, .long 0, .int 0])] sz) := by
  refine Met.ofW (cc := cX6_init) (maxL := 6) (ret := none) (by decide) rfl ?_
  intro p e s m args below meth c s₁ B hml hv
  obtain ⟨hav, ⟨hsz, hP, hK, hD0, hE⟩, ha0, hX⟩ := hv
  have hx := B.exec
  have hb := B.bytes
  have hr := B.returns
  have hts := atoms_spec (ws := wsX6_init) B.pre
  have hown : s.vm.findClass RX6 = some m.cls := findClass_of_methodNamed B.named
  have hlocks := B.notSynchronized
  have hin : meth.name = "<init>" := (name_of_methodNamed B.named B.method).1
  have hi6 : ∀ w ∈ u_ws RX6 TX6 9, w ∈ wsX6_init := fun w h9 => List.mem_cons_of_mem _ (List.mem_append_right _ h9)
  have lm3 := hts (.methodLink RX6 3 objectInit) (List.mem_cons_of_mem _ (List.mem_append_left _ (List.mem_append_left _ (List.mem_of_getElem? (i := 0) rfl))))
  have lio := hts (.instanceMethod objectInit) (List.mem_cons_of_mem _ (List.mem_append_left _ (List.mem_append_left _ (List.mem_of_getElem? (i := 1) rfl))))
  have lco := hts (.code objectInit ⟨#[0xb1]⟩ 1 none) (List.mem_cons_of_mem _ (List.mem_append_left _ (List.mem_append_left _ (List.mem_of_getElem? (i := 2) rfl))))
  have laB := hts (.arrayClass .byte) (List.mem_cons_of_mem _ (List.mem_append_left _ (List.mem_append_left _ (List.mem_of_getElem? (i := 3) rfl))))
  have lf11 := hts (.fieldLink RX6 11 "LastCook$Tape" "signs" "[B") (List.mem_cons_of_mem _ (List.mem_append_left _ (List.mem_append_left _ (List.mem_of_getElem? (i := 4) rfl))))
  have laJ := hts (.arrayClass .long) (List.mem_cons_of_mem _ (List.mem_append_left _ (List.mem_append_left _ (List.mem_of_getElem? (i := 5) rfl))))
  have lf15 := hts (.fieldLink RX6 15 "LastCook$Tape" "words" "[J") (List.mem_cons_of_mem _ (List.mem_append_left _ (List.mem_append_left _ (List.mem_of_getElem? (i := 6) rfl))))
  subst hsz
  have hD := hD0.self (sz := s.heap.size)
  generalize hAe : va_A [(w, kO 6 [.null, .null, .int 0, .int 0, .int 0, .int 0, .int 0, .long 0, .int 0])] s.heap.size = A at hD ⊢
  have hA : ∀ q : Nat, s.heap.size ≤ q → A q := fun q h => by rw [← hAe]; exact Or.inr h
  have hAX : ∀ q, A q → a0 ≤ q := fun q h => by rw [← hAe] at h; exact (va_A1 h).elim (fun e => by rw [e]; exact hge) (fun e => Nat.le_trans ha0 e)
  obtain ⟨tx19, hR19⟩ := hX.1
  have hS : va_S A s.heap s.heap [] := va_S.rf
  have hl := lv_entry ([.ref w]) (n := 6) (Nat.le_of_ble_eq_true rfl)
  rw [show entryFrame m args 6 = entryFrame m ([.ref w] : List Value).toArray 6 by rw [hav], lg_entry_eq]
  generalize (lg_sl ([.ref w]) ++ List.replicate (6 - (lg_sl ([.ref w])).length) Slot.unset).toArray = ls at hl ⊢
  have hl : lv_has ls 6 [(0, .ref w)] := hl
  obtain ⟨R, hR⟩ : ∃ R, R = (headSpec wsX6_init ({ frames := 4, cells := 2, slots := 1023, locals := 280 } : Room)).room := ⟨_, rfl⟩
  rw [← hR]
  generalize hQ : MQ below _ args s 2 1023 A = Q
  replace hQ := hQ.symm
  obtain ⟨H, hH⟩ : ∃ H, H = s.heap := ⟨_, rfl⟩
  rw [← hH] at hP ⊢
  have hS : va_S A s.heap H [] := by rw [hH]; exact hS
  have hRc : R.cells = 2 ∧ R.slots = 1023 := by rw [hR]; exact ⟨rfl, rfl⟩
  obtain ⟨hRc, hRs⟩ := hRc
  refine lv_aload_n hx hb dX6_init_0 rfl (lv_at hl 0 rfl) ?_
  refine W.objInit hx hb hown lm3 lio lco rfl (by rw [hml]; exact hl.1) rfl dX6_init_1 (by rw [hR]; exact Nat.le_of_ble_eq_true rfl) (by rw [hR]; exact Nat.le_of_ble_eq_true rfl) ?_
  refine W.eq (g2 := F0 m 4 ls []) rfl ?_
  refine lv_aload_n hx hb dX6_init_4 rfl (lv_at hl 0 rfl) ?_
  refine lv_sipush (v := 1000) hx hb dX6_init_5 (by decide) ?_
  refine va_newa (atype := .byte) (ty := .byte) (N' := 1000) (a0 := (1000, .inl (fun _ => 0))) hx hb laB rfl hK hP hD hS hA (fun _ => rfl) (by decide) (by decide) (by decide) (by omega) (by omega) dX6_init_8 (fun q8_1 cA H hK9 hP hD hS => ?_)
  exact by
   obtain rfl : cA = k 2 := kz_same hK9 2 rfl
   refine W.widen (k := 1) (n := 1000) (by omega) (by omega) ?_
   have hP : va_P D vwCl ([(w, kO 6 [.null, .null, .int 0, .int 0, .int 0, .int 0, .int 0, .long 0, .int 0]), (q8_1, kB k 1000 (fun _ => 0))]) H := hP
   have hD : va_D A ([(w, kO 6 [.null, .null, .int 0, .int 0, .int 0, .int 0, .int 0, .long 0, .int 0]), (q8_1, kB k 1000 (fun _ => 0))]) := hD
   refine va_putF (D := D) (ci := 6) (v := .ref q8_1) (ty := (.array .byte)) (C := RX6) (T := TX6) (N := 9) hx hb hts hi6 tyX6 tyX6_ok nmX6 hown hK hP hD hS 0 rfl rfl 0 (by decide) lf11 (fun _ h9 => h9) rfl hin rfl (by decide +kernel) rfl rfl (Nat.le_of_ble_eq_true rfl) dX6_init_10 (fun H locs hP hD hS => ?_)
   exact by
    have hP : va_P D vwCl ([(w, kO 6 [.ref q8_1, .null, .int 0, .int 0, .int 0, .int 0, .int 0, .long 0, .int 0]), (q8_1, kB k 1000 (fun _ => 0))]) H := hP
    have hD : va_D A ([(w, kO 6 [.ref q8_1, .null, .int 0, .int 0, .int 0, .int 0, .int 0, .long 0, .int 0]), (q8_1, kB k 1000 (fun _ => 0))]) := hD
    refine lv_aload_n hx hb dX6_init_13 rfl (lv_at hl 0 rfl) ?_
    refine lv_bipush (v := 23) hx hb dX6_init_14 (by decide) ?_
    refine va_newa (atype := .long) (ty := .long) (N' := 23) (a0 := (23, .inr (.inl (fun _ => 0)))) hx hb laJ rfl hK hP hD hS hA (fun _ => rfl) (by decide) (by decide) (by decide) (by omega) (by omega) dX6_init_16 (fun q16_2 cA H hK9 hP hD hS => ?_)
    exact by
     obtain rfl : cA = k 1 := kz_same hK9 1 rfl
     refine W.widen (k := 2) (n := 1023) (by omega) (by omega) ?_
     have hP : va_P D vwCl ([(w, kO 6 [.ref q8_1, .null, .int 0, .int 0, .int 0, .int 0, .int 0, .long 0, .int 0]), (q8_1, kB k 1000 (fun _ => 0)), (q16_2, kJ k 23 (fun _ => 0))]) H := hP
     have hD : va_D A ([(w, kO 6 [.ref q8_1, .null, .int 0, .int 0, .int 0, .int 0, .int 0, .long 0, .int 0]), (q8_1, kB k 1000 (fun _ => 0)), (q16_2, kJ k 23 (fun _ => 0))]) := hD
     refine va_putF (D := D) (ci := 6) (v := .ref q16_2) (ty := (.array .long)) (C := RX6) (T := TX6) (N := 9) hx hb hts hi6 tyX6 tyX6_ok nmX6 hown hK hP hD hS 0 rfl rfl 1 (by decide) lf15 (fun _ h9 => h9) rfl hin rfl (by decide +kernel) rfl rfl (Nat.le_of_ble_eq_true rfl) dX6_init_18 (fun H locs hP hD hS => ?_)
     exact by
      have hP : va_P D vwCl ([(w, kO 6 [.ref q8_1, .ref q16_2, .int 0, .int 0, .int 0, .int 0, .int 0, .long 0, .int 0]), (q8_1, kB k 1000 (fun _ => 0)), (q16_2, kJ k 23 (fun _ => 0))]) H := hP
      have hD : va_D A ([(w, kO 6 [.ref q8_1, .ref q16_2, .int 0, .int 0, .int 0, .int 0, .int 0, .long 0, .int 0]), (q8_1, kB k 1000 (fun _ => 0)), (q16_2, kJ k 23 (fun _ => 0))]) := hD
      refine lv_iconst (v := 0) hx hb dX6_init_21 (by decide) ?_
      refine lv_istore_n (lv' := [(1, .int 0), (0, .ref w)]) hx hb dX6_init_22 rfl hl (by decide) rfl (fun ls hl => ?_)
      exact by
       refine lv_lconst (v := 0) hx hb dX6_init_23 (by decide) ?_
       refine lv_lstore_n (lv' := [(2, .long 0), (1, .int 0), (0, .ref w)]) hx hb dX6_init_24 rfl hl (by decide) rfl (fun ls hl => ?_)
       exact by
        refine lv_iconst (v := 0) hx hb dX6_init_25 (by decide) ?_
        refine lv_istore (lv' := [(4, .int 0), (2, .long 0), (1, .int 0), (0, .ref w)]) hx hb dX6_init_26 hl (by decide) rfl (fun ls hl => ?_)
        exact by
         have hloop28 : ∀ (n : Nat) (j : Nat) (w9 : Nat) (g9 : Int64) (c9 : Nat → Int64), 123 - j < n → (j ≤ 123) → (w9 ≤ 23) → (TI j w9 g9 c9) → ∀ (H : Heap) (locs : List Loc) (ls : Array Slot), va_P D vwCl [(w, kO 6 [.ref q8_1, .ref q16_2, .int 0, .int 0, .int 0, .int 0, .int 0, .long 0, .int 0]), (q8_1, kB k 1000 (fun _ => 0)), (q16_2, kJ k 23 c9)] H → va_D A [(w, kO 6 [.ref q8_1, .ref q16_2, .int 0, .int 0, .int 0, .int 0, .int 0, .long 0, .int 0]), (q8_1, kB k 1000 (fun _ => 0)), (q16_2, kJ k 23 c9)] → va_S A s.heap H locs → lv_has ls 6 [(4, .int (nI j)), (1, .int (nI w9)), (2, .long g9), (0, .ref w)] → W p l e R s m args below meth c H locs 2 1023 Q (F0 m 28 ls []) := by
           intro n28
           induction n28 with
           | zero => intro j w9 g9 c9 hm; exact absurd hm (Nat.not_lt_zero _)
           | succ n28 ih28 =>
             intro j w9 g9 c9 hm28 hj hw9 hi9 H locs ls hP hD hS hl
             refine lv_iload hx hb dX6_init_28 (lv_at hl 0 rfl) ?_
             refine va_ldcS hx hb hown hR19 dX6_init_30 ?_
             refine ks_V (As := []) (rest := [.int (nI j)]) ⟨hx, hb, hml, hown, hts⟩ hX hS hAX hA ha0 (mJ0_length_8abf5 l a0 sa sv f H.size) (cwV 0 hts gX6_init_J0_length_8abf5 rfl rfl rfl (by decide +kernel) (by rw [hR]; exact ⟨Nat.le_of_ble_eq_true rfl, Nat.le_of_ble_eq_true rfl⟩)) rfl hl.1 rfl (Nat.le_of_ble_eq_true rfl) dX6_init_32 (by rw [hR]; exact ⟨Nat.le_of_ble_eq_true rfl, Nat.le_of_ble_eq_true rfl⟩) (fun r3 H9 locs hw3 hk3 hS => ?_)
             exact by
              have hP := hP.kept (H1 := H9) (fun k9 q9 h9 => hk3 q9.1 ((hP k9 q9 h9).lt))
              generalize H9 = H at hP hS ⊢
              obtain rfl : r3 = 123 := hw3
              have hP : va_P D vwCl ([(w, kO 6 [.ref q8_1, .ref q16_2, .int 0, .int 0, .int 0, .int 0, .int 0, .long 0, .int 0]), (q8_1, kB k 1000 (fun _ => 0)), (q16_2, kJ k 23 c9)]) H := hP
              have hD : va_D A ([(w, kO 6 [.ref q8_1, .ref q16_2, .int 0, .int 0, .int 0, .int 0, .int 0, .long 0, .int 0]), (q8_1, kB k 1000 (fun _ => 0)), (q16_2, kJ k 23 c9)]) := hD
              refine lv_icmp_ge (tgt := 92) hx hb dX6_init_35 (by decide) (fun c_4 => ?_) (fun c_4 => ?_)
              · exact by
                 have k_4 : 123 ≤ j := (nI_leI (a := 123) (b := j) (by omega) (by omega)).mp c_4
                 rw [hQ]
                 have hP9 := hP.sub (ws' := [(w, kO 6 [.ref q8_1, .ref q16_2, .int 0, .int 0, .int 0, .int 0, .int 0, .long 0, .int 0]), (q8_1, kB k 1000 (fun _ => 0)), (q16_2, kJ k 23 c9)]) [0, 1, 2] rfl
                 have hD9 := hD.sub (ws' := [(w, kO 6 [.ref q8_1, .ref q16_2, .int 0, .int 0, .int 0, .int 0, .int 0, .long 0, .int 0]), (q8_1, kB k 1000 (fun _ => 0)), (q16_2, kJ k 23 c9)]) [0, 1, 2] (by decide +kernel) rfl
                 exact W.vret hx hb hr (fun zt ht hW => ⟨⟨⟨q8_1, q16_2, c9⟩, rfl, (ti_e hi9 (by omega) (by omega)), by rw [ht]; exact hP9, hD9⟩, hS.F ht⟩) hS.2.2 dX6_init_92
              · exact by
                 have k_4 : ¬ (123 ≤ j) := fun h => c_4 ((nI_leI (a := 123) (b := j) (by omega) (by omega)).mpr h)
                 refine va_ldcS hx hb hown hR19 dX6_init_38 ?_
                 refine lv_iload hx hb dX6_init_40 (lv_at hl 0 rfl) ?_
                 refine ks_V (As := [.int (nI j)]) (rest := []) ⟨hx, hb, hml, hown, hts⟩ hX hS hAX hA ha0 (mJ0_charAt_5068e l a0 sa sv f H.size j (by omega)) (cwV 1 hts gX6_init_J0_charAt_5068e rfl rfl rfl (by decide +kernel) (by rw [hR]; exact ⟨Nat.le_of_ble_eq_true rfl, Nat.le_of_ble_eq_true rfl⟩)) rfl hl.1 rfl (Nat.le_of_ble_eq_true rfl) dX6_init_42 (by rw [hR]; exact ⟨Nat.le_of_ble_eq_true rfl, Nat.le_of_ble_eq_true rfl⟩) (fun r5 H9 locs hw5 hk5 hS => ?_)
                 exact by
                  have hP := hP.kept (H1 := H9) (fun k9 q9 h9 => hk5 q9.1 ((hP k9 q9 h9).lt))
                  generalize H9 = H at hP hS ⊢
                  have hP : va_P D vwCl ([(w, kO 6 [.ref q8_1, .ref q16_2, .int 0, .int 0, .int 0, .int 0, .int 0, .long 0, .int 0]), (q8_1, kB k 1000 (fun _ => 0)), (q16_2, kJ k 23 c9)]) H := hP
                  have hD : va_D A ([(w, kO 6 [.ref q8_1, .ref q16_2, .int 0, .int 0, .int 0, .int 0, .int 0, .long 0, .int 0]), (q8_1, kB k 1000 (fun _ => 0)), (q16_2, kJ k 23 c9)]) := hD
                  refine lv_istore (lv' := [(5, .int r5), (4, .int (nI j)), (1, .int (nI w9)), (2, .long g9), (0, .ref w)]) hx hb dX6_init_45 hl (by decide) rfl (fun ls hl => ?_)
                  exact by
                   refine lv_iload hx hb dX6_init_47 (lv_at hl 0 rfl) ?_
                   refine kz_Si (As := [.int r5]) (rest := []) (wc := []) (wr := [(w, kO 6 [.ref q8_1, .ref q16_2, .int 0, .int 0, .int 0, .int 0, .int 0, .long 0, .int 0]), (q8_1, kB k 1000 (fun _ => 0)), (q16_2, kJ k 23 c9)]) ⟨hx, hb, hml, hown, hts⟩ hK hE hP hD hS hA (sX6_isLetter l D k H.size r5) (va_cwS 1 hts gX6_init_X6_isLetter rfl rfl rfl (by decide +kernel) (by rw [hR]; exact ⟨Nat.le_of_ble_eq_true rfl, Nat.le_of_ble_eq_true rfl⟩)) [] [0, 1, 2] rfl rfl (by decide +kernel) (by decide +kernel) (by decide +kernel) rfl hl.1 rfl (Nat.le_of_ble_eq_true rfl) dX6_init_49 (by rw [hR]; exact ⟨Nat.le_of_ble_eq_true rfl, Nat.le_of_ble_eq_true rfl⟩) (fun r6 u6 H locs hw6 hP hD hS => ?_)
                   exact by
                    try dsimp only at hw6
                    obtain ⟨rfl, hw6⟩ := hw6
                    have hP : va_P D vwCl ([(w, kO 6 [.ref q8_1, .ref q16_2, .int 0, .int 0, .int 0, .int 0, .int 0, .long 0, .int 0]), (q8_1, kB k 1000 (fun _ => 0)), (q16_2, kJ k 23 c9)]) H := hP
                    have hD : va_D A ([(w, kO 6 [.ref q8_1, .ref q16_2, .int 0, .int 0, .int 0, .int 0, .int 0, .long 0, .int 0]), (q8_1, kB k 1000 (fun _ => 0)), (q16_2, kJ k 23 c9)]) := hD
                    refine lv_if_eq (tgt := 65) hx hb dX6_init_52 (by decide) (fun c_7 => ?_) (fun c_7 => ?_)
                    · exact by
                       refine lv_iload_n hx hb dX6_init_65 rfl (lv_at hl 2 rfl) ?_
                       refine lv_aload_n hx hb dX6_init_66 rfl (lv_at hl 4 rfl) ?_
                       refine va_get (D := D) (ci := 6) (v := .ref q16_2) (C := RX6) (T := TX6) (N := 9) hx hb hts hi6 hown hK hP 0 rfl rfl 1 (by decide) lf15 (fun _ h9 => h9) rfl dX6_init_67 ?_
                       refine va_alen (v := 23) hx hb hK hP 2 1 rfl rfl rfl dX6_init_70 ?_
                       refine lv_icmp_ge (tgt := 86) hx hb dX6_init_71 (by decide) (fun c_8 => ?_) (fun c_8 => ?_)
                       · exact by
                          have k_8 : 23 ≤ w9 := (nI_leI (a := 23) (b := w9) (by omega) (by omega)).mp c_8
                          refine lv_iinc (v := (nI (j + 1))) (lv' := [(4, .int (nI (j + 1))), (5, .int r5), (1, .int (nI w9)), (2, .long g9), (0, .ref w)]) hx hb dX6_init_86 hl (k := 1) rfl (nI_1 _) (by decide) rfl (fun ls hl => ?_)
                          exact by
                           refine lv_goto (tgt := 28) hx hb dX6_init_89 (by decide) ?_
                           exact ih28 (j + 1) w9 g9 c9 (by omega) (by omega) (by omega) (ti_n hi9 (by omega) hf9 hw5.2 hw6 (by assumption) (by omega)) _ _ _ (hP.sub [0, 1, 2] rfl) (hD.sub [0, 1, 2] (by decide +kernel) rfl) hS (lv_sub hl [0, 2, 3, 4] rfl)
                       · exact by
                          have k_8 : ¬ (23 ≤ w9) := fun h => c_8 ((nI_leI (a := 23) (b := w9) (by omega) (by omega)).mpr h)
                          refine lv_aload_n hx hb dX6_init_74 rfl (lv_at hl 4 rfl) ?_
                          refine va_get (D := D) (ci := 6) (v := .ref q16_2) (C := RX6) (T := TX6) (N := 9) hx hb hts hi6 hown hK hP 0 rfl rfl 1 (by decide) lf15 (fun _ h9 => h9) rfl dX6_init_75 ?_
                          refine lv_iload_n hx hb dX6_init_78 rfl (lv_at hl 2 rfl) ?_
                          refine lv_lload_n hx hb dX6_init_79 rfl (lv_at hl 3 rfl) ?_
                          refine va_last hx hb hK hP hD hS 2 1 rfl rfl (vp_in_nI (n := w9) (by omega) (by omega)) dX6_init_80 (fun H locs hP hD hS => ?_)
                          exact by
                           have hP : va_P D vwCl ([(w, kO 6 [.ref q8_1, .ref q16_2, .int 0, .int 0, .int 0, .int 0, .int 0, .long 0, .int 0]), (q8_1, kB k 1000 (fun _ => 0)), (q16_2, kJ k 23 (vp_updL c9 (Int32.toNatClampNeg (nI w9)) g9))]) H := hP
                           have hD : va_D A ([(w, kO 6 [.ref q8_1, .ref q16_2, .int 0, .int 0, .int 0, .int 0, .int 0, .long 0, .int 0]), (q8_1, kB k 1000 (fun _ => 0)), (q16_2, kJ k 23 (vp_updL c9 (Int32.toNatClampNeg (nI w9)) g9))]) := hD
                           refine lv_iinc (v := (nI (w9 + 1))) (lv' := [(1, .int (nI (w9 + 1))), (5, .int r5), (4, .int (nI j)), (2, .long g9), (0, .ref w)]) hx hb dX6_init_81 hl (k := 2) rfl (nI_1 _) (by decide) rfl (fun ls hl => ?_)
                           exact by
                            refine lv_lconst (v := 0) hx hb dX6_init_84 (by decide) ?_
                            refine lv_lstore_n (lv' := [(2, .long 0), (1, .int (nI (w9 + 1))), (5, .int r5), (4, .int (nI j)), (0, .ref w)]) hx hb dX6_init_85 rfl hl (by decide) rfl (fun ls hl => ?_)
                            exact by
                             refine lv_iinc (v := (nI (j + 1))) (lv' := [(4, .int (nI (j + 1))), (2, .long 0), (1, .int (nI (w9 + 1))), (5, .int r5), (0, .ref w)]) hx hb dX6_init_86 hl (k := 3) rfl (nI_1 _) (by decide) rfl (fun ls hl => ?_)
                             exact by
                              refine lv_goto (tgt := 28) hx hb dX6_init_89 (by decide) ?_
                              exact ih28 (j + 1) (w9 + 1) 0 (vp_updL c9 (Int32.toNatClampNeg (nI w9)) g9) (by omega) (by omega) (by omega) (ti_s hi9 (by omega) hf9 hw5.2 hw6 (by assumption) (by omega)) _ _ _ (hP.sub [0, 1, 2] rfl) (hD.sub [0, 1, 2] (by decide +kernel) rfl) hS (lv_sub hl [0, 2, 1, 4] rfl)
                    · exact by
                       refine lv_lload_n hx hb dX6_init_55 rfl (lv_at hl 3 rfl) ?_
                       refine lv_iload hx hb dX6_init_56 (lv_at hl 0 rfl) ?_
                       refine kz_Sl (As := [.long g9, .int r5]) (rest := []) (wc := []) (wr := [(w, kO 6 [.ref q8_1, .ref q16_2, .int 0, .int 0, .int 0, .int 0, .int 0, .long 0, .int 0]), (q8_1, kB k 1000 (fun _ => 0)), (q16_2, kJ k 23 c9)]) ⟨hx, hb, hml, hown, hts⟩ hK hE hP hD hS hA (sX6_withLetter l D k H.size g9 r5) (va_cwS 2 hts gX6_init_X6_withLetter rfl rfl rfl (by decide +kernel) (by rw [hR]; exact ⟨Nat.le_of_ble_eq_true rfl, Nat.le_of_ble_eq_true rfl⟩)) [] [0, 1, 2] rfl rfl (by decide +kernel) (by decide +kernel) (by decide +kernel) rfl hl.1 rfl (Nat.le_of_ble_eq_true rfl) dX6_init_58 (by rw [hR]; exact ⟨Nat.le_of_ble_eq_true rfl, Nat.le_of_ble_eq_true rfl⟩) (fun r9 u9 H locs hw9 hP hD hS => ?_)
                       exact by
                        try dsimp only at hw9
                        have hP : va_P D vwCl ([(w, kO 6 [.ref q8_1, .ref q16_2, .int 0, .int 0, .int 0, .int 0, .int 0, .long 0, .int 0]), (q8_1, kB k 1000 (fun _ => 0)), (q16_2, kJ k 23 c9)]) H := hP
                        have hD : va_D A ([(w, kO 6 [.ref q8_1, .ref q16_2, .int 0, .int 0, .int 0, .int 0, .int 0, .long 0, .int 0]), (q8_1, kB k 1000 (fun _ => 0)), (q16_2, kJ k 23 c9)]) := hD
                        refine lv_lstore_n (lv' := [(2, .long r9), (5, .int r5), (4, .int (nI j)), (1, .int (nI w9)), (0, .ref w)]) hx hb dX6_init_61 rfl hl (by decide) rfl (fun ls hl => ?_)
                        exact by
                         refine lv_goto (tgt := 86) hx hb dX6_init_62 (by decide) ?_
                         refine lv_iinc (v := (nI (j + 1))) (lv' := [(4, .int (nI (j + 1))), (2, .long r9), (5, .int r5), (1, .int (nI w9)), (0, .ref w)]) hx hb dX6_init_86 hl (k := 2) rfl (nI_1 _) (by decide) rfl (fun ls hl => ?_)
                         exact by
                          refine lv_goto (tgt := 28) hx hb dX6_init_89 (by decide) ?_
                          exact ih28 (j + 1) w9 r9 c9 (by omega) (by omega) (by omega) (ti_l hi9 (by omega) hf9 hw5.2 hw6 (by assumption) hw9) _ _ _ (hP.sub [0, 1, 2] rfl) (hD.sub [0, 1, 2] (by decide +kernel) rfl) hS (lv_sub hl [0, 3, 1, 4] rfl)
         exact hloop28 ((123 - 0) + 1) 0 0 0 (fun _ => 0) (Nat.lt_succ_self _) (by omega) (by omega) (ti_0) _ _ _ (hP.sub [0, 1, 2] rfl) (hD.sub [0, 1, 2] (by decide +kernel) rfl) hS (lv_sub hl [0, 2, 1, 3] rfl)
