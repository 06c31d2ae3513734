/-! the class's rests: it answers, or throws; caught by the law's own helper -/
def kz_T (a0 : Nat) (U : State) : Prop := (∃ q, vk_R RX8 263 "no such latch" q U) ∧ (∃ q, vk_R RX8 272 "no such rest" q U) ∧ vx_Zq Bundle.tN "UNASSIGNED_STACK" Bundle.steD (fun q => a0 ≤ q) U U.heap ∧ vx_Zq Bundle.tN "SUPPRESSED_SENTINEL" Bundle.listD (fun q => a0 ≤ q) U U.heap ∧ va_Nw (.castable nN nN) U ∧ va_Nw (.declares (Bundle.initS nR)) U ∧ va_Nw (.declares (Bundle.initS "java/lang/Exception")) U ∧ va_Nw (.declares (Bundle.initS Bundle.tN)) U
theorem kz_T.same {a0 : Nat} {u U : State} (hv : U.vm = u.vm) (hh : U.heap = u.heap) (h : kz_T a0 u) : kz_T a0 U := by
  obtain ⟨⟨q1, h1⟩, ⟨q2, h2⟩, h3, h4, h5, h6, h7, h8⟩ := h
  have ha : u.vm.Alike U.vm := by rw [hv]; exact Vm.Alike.refl _
  unfold kz_T
  rw [hh]
  exact ⟨⟨q1, h1.same hv⟩, ⟨q2, h2.same hv⟩, h3.moved ha, h4.moved ha, h5.same rfl hv.symm, h6.same rfl hv.symm, h7.same rfl hv.symm, h8.same rfl hv.symm⟩
theorem kz_T.at {a0 : Nat} {s : State} {A : Nat → Prop} {H : Heap} {locs : List Loc} (h : kz_T a0 s) (hS : va_S A s.heap H locs) (hAX : ∀ q, A q → a0 ≤ q) : ∀ U : State, U.heap = H → s.WarmedH U.vm → kz_T a0 U := by
  intro U hU hW
  obtain ⟨⟨q1, h1⟩, ⟨q2, h2⟩, h3, h4, h5, h6, h7, h8⟩ := h
  have hq : ∀ a : Nat, a < s.heap.size → ¬ (fun q => a0 ≤ q) a → H[a]? = s.heap[a]? := fun a h1 h2 => hS.2.1 a h1 (fun z => h2 (hAX a z))
  unfold kz_T
  rw [hU]
  exact ⟨⟨q1, h1.warm hW⟩, ⟨q2, h2.warm hW⟩, (h3.kept hq).moved hW.alike, (h4.kept hq).moved hW.alike, h5.warmC hW, h6.warmD hW, h7.warmD hW, h8.warmD hW⟩
def kz_PreT (D : va_G) (k : Nat → ClassId) (ws : va_W) (a0 sz : Nat) (U : State) : Prop := kz_Pre D k ws sz U ∧ a0 ≤ sz ∧ kz_T a0 U
theorem kz_PreTb {D : va_G} {k : Nat → ClassId} {ws : va_W} {a0 sz : Nat} {av : List Value} : FrameBlind (va_Pc av (kz_PreT D k ws a0 sz)) := by
  intro a U g mk q
  obtain ⟨q0, ⟨q1, qP, qK, qD, qE⟩, q2, q3⟩ := q
  exact ⟨q0, ⟨q1, qP, va_K.moved (u := U) (U := U.calling g mk a) (Vm.Alike.refl U.vm) qK, qD, qE.same rfl⟩, q2, q3.same (u := U) (U := U.calling g mk a) rfl rfl⟩
noncomputable def wsQ_rests : List Cond := .code yX8_rests cX8_rests 9 (some .int) :: ([.classLink RX8 261 "java/util/NoSuchElementException", .initialized "java/util/NoSuchElementException", .methodLink RX8 137 yX8_isWithin, .static yX8_isWithin, .initialized RX8, .code yX8_isWithin cX8_isWithin 3 (some .boolean), .methodLink RX8 268 yX8_isContent, .static yX8_isContent, .code yX8_isContent cX8_isContent 5 (some .boolean), .methodLink RX8 314 yX8_gain, .static yX8_gain, .code yX8_gain cX8_gain 5 (some .int)] ++ nseW)

theorem dX8_rests_0 : decode cX8_rests 0 = .ok (.iload_n 1, 1) := dk_iload_n_1 (by decide +kernel)
theorem dX8_rests_1 : decode cX8_rests 1 = .ok (.iconst 0, 1) := dk_iconst_0 (by decide +kernel)
theorem dX8_rests_2 : decode cX8_rests 2 = .ok (.bipush 9, 2) := dk_bipush (by decide +kernel)
theorem dX8_rests_4 : decode cX8_rests 4 = .ok (.invokestatic 137, 3) := dk_invokestatic (by decide +kernel)
theorem dX8_rests_7 : decode cX8_rests 7 = .ok (.ifCond .eq 29, 3) := dk_ifCond_eq (by decide +kernel)
theorem dX8_rests_10 : decode cX8_rests 10 = .ok (.iload_n 2, 1) := dk_iload_n_2 (by decide +kernel)
theorem dX8_rests_11 : decode cX8_rests 11 = .ok (.iconst 0, 1) := dk_iconst_0 (by decide +kernel)
theorem dX8_rests_12 : decode cX8_rests 12 = .ok (.bipush 9, 2) := dk_bipush (by decide +kernel)
theorem dX8_rests_14 : decode cX8_rests 14 = .ok (.invokestatic 137, 3) := dk_invokestatic (by decide +kernel)
theorem dX8_rests_17 : decode cX8_rests 17 = .ok (.ifCond .eq 19, 3) := dk_ifCond_eq (by decide +kernel)
theorem dX8_rests_20 : decode cX8_rests 20 = .ok (.iload_n 3, 1) := dk_iload_n_3 (by decide +kernel)
theorem dX8_rests_21 : decode cX8_rests 21 = .ok (.iconst 0, 1) := dk_iconst_0 (by decide +kernel)
theorem dX8_rests_22 : decode cX8_rests 22 = .ok (.bipush 9, 2) := dk_bipush (by decide +kernel)
theorem dX8_rests_24 : decode cX8_rests 24 = .ok (.invokestatic 137, 3) := dk_invokestatic (by decide +kernel)
theorem dX8_rests_27 : decode cX8_rests 27 = .ok (.ifCond .eq 9, 3) := dk_ifCond_eq (by decide +kernel)
theorem dX8_rests_30 : decode cX8_rests 30 = .ok (.iload 4, 2) := dk_iload (by decide +kernel)
theorem dX8_rests_32 : decode cX8_rests 32 = .ok (.iconst (-1), 1) := dk_iconst_m1 (by decide +kernel)
theorem dX8_rests_33 : decode cX8_rests 33 = .ok (.if_icmp .ge 14, 3) := dk_if_icmp_ge (by decide +kernel)
theorem dX8_rests_36 : decode cX8_rests 36 = .ok (.new 261, 3) := dk_new (by decide +kernel)
theorem dX8_rests_39 : decode cX8_rests 39 = .ok (.dup, 1) := dk_dup (by decide +kernel)
theorem dX8_rests_40 : decode cX8_rests 40 = .ok (.ldc_w 263, 3) := dk_ldc_w (by decide +kernel)
theorem dX8_rests_43 : decode cX8_rests 43 = .ok (.invokespecial 265, 3) := dk_invokespecial (by decide +kernel)
theorem dX8_rests_46 : decode cX8_rests 46 = .ok (.athrow, 1) := dk_athrow (by decide +kernel)
theorem dX8_rests_47 : decode cX8_rests 47 = .ok (.iconst 0, 1) := dk_iconst_0 (by decide +kernel)
theorem dX8_rests_48 : decode cX8_rests 48 = .ok (.istore 5, 2) := dk_istore (by decide +kernel)
theorem dX8_rests_50 : decode cX8_rests 50 = .ok (.iconst 0, 1) := dk_iconst_0 (by decide +kernel)
theorem dX8_rests_51 : decode cX8_rests 51 = .ok (.istore 6, 2) := dk_istore (by decide +kernel)
theorem dX8_rests_53 : decode cX8_rests 53 = .ok (.iload 6, 2) := dk_iload (by decide +kernel)
theorem dX8_rests_55 : decode cX8_rests 55 = .ok (.iconst 4, 1) := dk_iconst_4 (by decide +kernel)
theorem dX8_rests_56 : decode cX8_rests 56 = .ok (.if_icmp .ge 60, 3) := dk_if_icmp_ge (by decide +kernel)
theorem dX8_rests_59 : decode cX8_rests 59 = .ok (.iload 6, 2) := dk_iload (by decide +kernel)
theorem dX8_rests_61 : decode cX8_rests 61 = .ok (.iconst 1, 1) := dk_iconst_1 (by decide +kernel)
theorem dX8_rests_62 : decode cX8_rests 62 = .ok (.ishr, 1) := dk_ishr (by decide +kernel)
theorem dX8_rests_63 : decode cX8_rests 63 = .ok (.istore 7, 2) := dk_istore (by decide +kernel)
theorem dX8_rests_65 : decode cX8_rests 65 = .ok (.iload 6, 2) := dk_iload (by decide +kernel)
theorem dX8_rests_67 : decode cX8_rests 67 = .ok (.iconst 1, 1) := dk_iconst_1 (by decide +kernel)
theorem dX8_rests_68 : decode cX8_rests 68 = .ok (.iand, 1) := dk_iand (by decide +kernel)
theorem dX8_rests_69 : decode cX8_rests 69 = .ok (.istore 8, 2) := dk_istore (by decide +kernel)
theorem dX8_rests_71 : decode cX8_rests 71 = .ok (.iload 7, 2) := dk_iload (by decide +kernel)
theorem dX8_rests_73 : decode cX8_rests 73 = .ok (.iload 8, 2) := dk_iload (by decide +kernel)
theorem dX8_rests_75 : decode cX8_rests 75 = .ok (.iload_n 1, 1) := dk_iload_n_1 (by decide +kernel)
theorem dX8_rests_76 : decode cX8_rests 76 = .ok (.iload_n 2, 1) := dk_iload_n_2 (by decide +kernel)
theorem dX8_rests_77 : decode cX8_rests 77 = .ok (.iload_n 3, 1) := dk_iload_n_3 (by decide +kernel)
theorem dX8_rests_78 : decode cX8_rests 78 = .ok (.invokestatic 268, 3) := dk_invokestatic (by decide +kernel)
theorem dX8_rests_81 : decode cX8_rests 81 = .ok (.ifCond .eq 29, 3) := dk_ifCond_eq (by decide +kernel)
theorem dX8_rests_84 : decode cX8_rests 84 = .ok (.iload 8, 2) := dk_iload (by decide +kernel)
theorem dX8_rests_86 : decode cX8_rests 86 = .ok (.iload 7, 2) := dk_iload (by decide +kernel)
theorem dX8_rests_88 : decode cX8_rests 88 = .ok (.iload_n 1, 1) := dk_iload_n_1 (by decide +kernel)
theorem dX8_rests_89 : decode cX8_rests 89 = .ok (.iload_n 2, 1) := dk_iload_n_2 (by decide +kernel)
theorem dX8_rests_90 : decode cX8_rests 90 = .ok (.iload_n 3, 1) := dk_iload_n_3 (by decide +kernel)
theorem dX8_rests_91 : decode cX8_rests 91 = .ok (.invokestatic 268, 3) := dk_invokestatic (by decide +kernel)
theorem dX8_rests_94 : decode cX8_rests 94 = .ok (.ifCond .eq 16, 3) := dk_ifCond_eq (by decide +kernel)
theorem dX8_rests_97 : decode cX8_rests 97 = .ok (.iload 5, 2) := dk_iload (by decide +kernel)
theorem dX8_rests_99 : decode cX8_rests 99 = .ok (.iload 4, 2) := dk_iload (by decide +kernel)
theorem dX8_rests_101 : decode cX8_rests 101 = .ok (.if_icmp .ne 6, 3) := dk_if_icmp_ne (by decide +kernel)
theorem dX8_rests_104 : decode cX8_rests 104 = .ok (.iload 6, 2) := dk_iload (by decide +kernel)
theorem dX8_rests_106 : decode cX8_rests 106 = .ok (.ireturn, 1) := dk_ireturn (by decide +kernel)
theorem dX8_rests_107 : decode cX8_rests 107 = .ok (.iinc 5 1, 3) := dk_iinc (by decide +kernel)
theorem dX8_rests_110 : decode cX8_rests 110 = .ok (.iinc 6 1, 3) := dk_iinc (by decide +kernel)
theorem dX8_rests_113 : decode cX8_rests 113 = .ok (.goto (-60), 3) := dk_goto (by decide +kernel)
theorem dX8_rests_116 : decode cX8_rests 116 = .ok (.iload 4, 2) := dk_iload (by decide +kernel)
theorem dX8_rests_118 : decode cX8_rests 118 = .ok (.iconst (-1), 1) := dk_iconst_m1 (by decide +kernel)
theorem dX8_rests_119 : decode cX8_rests 119 = .ok (.if_icmp .eq 14, 3) := dk_if_icmp_eq (by decide +kernel)
theorem dX8_rests_122 : decode cX8_rests 122 = .ok (.new 261, 3) := dk_new (by decide +kernel)
theorem dX8_rests_125 : decode cX8_rests 125 = .ok (.dup, 1) := dk_dup (by decide +kernel)
theorem dX8_rests_126 : decode cX8_rests 126 = .ok (.ldc_w 272, 3) := dk_ldc_w (by decide +kernel)
theorem dX8_rests_129 : decode cX8_rests 129 = .ok (.invokespecial 265, 3) := dk_invokespecial (by decide +kernel)
theorem dX8_rests_132 : decode cX8_rests 132 = .ok (.athrow, 1) := dk_athrow (by decide +kernel)
theorem dX8_rests_133 : decode cX8_rests 133 = .ok (.iload 5, 2) := dk_iload (by decide +kernel)
theorem dX8_rests_135 : decode cX8_rests 135 = .ok (.ireturn, 1) := dk_ireturn (by decide +kernel)
set_option maxRecDepth 20000 in
set_option maxRecDepth 20000 in
theorem ggX8_rests_X8_isWithin : GoodIn wsQ_rests wsX8_isWithin := goodIn_r _ [6] rfl (by decide +kernel)
set_option maxRecDepth 20000 in
theorem gX8_rests_X8_isWithin : GoodIn wsQ_rests (va_wsS RX8 137 yX8_isWithin wsX8_isWithin) := goodIn_app (goodIn_of _ (by decide +kernel)) ggX8_rests_X8_isWithin
set_option maxRecDepth 20000 in
set_option maxRecDepth 20000 in
theorem ggX8_rests_X8_isContent : GoodIn wsQ_rests wsX8_isContent := goodIn_r _ [9, 10, 11, 5, 12] rfl (by decide +kernel)
set_option maxRecDepth 20000 in
theorem gX8_rests_X8_isContent : GoodIn wsQ_rests (va_wsS RX8 268 yX8_isContent wsX8_isContent) := goodIn_app (goodIn_of _ (by decide +kernel)) ggX8_rests_X8_isContent
set_option maxHeartbeats 4000000 in
set_option maxRecDepth 100000 in
theorem mX8_rests (l : Launch) (D : va_G) (k : Nat → ClassId) (sz : Nat) (x : Nat) (q1 : Int32) (q2 : Int32) (q3 : Int32) (q4 : Int32) (a0 : Nat) (hst : l.stackTraces = false) : vx_Met l yX8_rests wsQ_rests ({ frames := 8, cells := 1, slots := 6, locals := 560 }) (va_Pc [.ref x, .int q1, .int q2, .int q3, .int q4] (kz_PreT D k [] a0 sz)) (va_Qi (fun (rr : Int32) (uu : Unit) => rs q1 q2 q3 q4 = (0, rr)) (fun uu zt => kz_B D (va_A [] sz) [] zt) (va_A [] sz)) (vx_X (fun _ : Unit => rs q1 q2 q3 q4 = (1, 0)) (fun E _ _ => E = "java/util/NoSuchElementException") (va_A [] sz)) 1 6 (va_A [] sz) := by
  refine vx_ofW (cc := cX8_rests) (maxL := 9) (ret := (some .int)) (by decide) rfl ?_
  intro p e s m args below meth c s₁ B hml hnt hv
  obtain ⟨hav, ⟨hsz, hP, hK, hD0, hE⟩, ha0, hT9⟩ := hv
  have hx := B.exec
  have hb := B.bytes
  have hr := B.returns
  have hts := atoms_spec (ws := wsQ_rests) B.pre
  have hown : s.vm.findClass RX8 = some m.cls := findClass_of_methodNamed B.named
  have hlocks := B.notSynchronized
  subst hsz
  have hD := hD0.self (sz := s.heap.size)
  generalize hAe : va_A [] s.heap.size = A at hD ⊢
  have hA : ∀ q : Nat, s.heap.size ≤ q → A q := fun q h => by rw [← hAe]; exact Or.inr h
  have hAX : ∀ q, A q → a0 ≤ q := fun q h => by rw [← hAe] at h; exact h.elim (fun ⟨k, e, h⟩ => by simp at h) (fun h => Nat.le_trans ha0 h)
  have hU9 := hT9.2.2.1.narrow hAX
  have hN9 := hT9.2.2.2.1.narrow hAX
  have lk261 := hts (.classLink RX8 261 "java/util/NoSuchElementException") (by decide +kernel)
  have lz9 := hts (.initialized "java/util/NoSuchElementException") (by decide +kernel)
  have hat := vx_hat (L := nseL) (fun w h => hts w (List.mem_cons_of_mem _ (List.mem_append_right _ h))) nse_b (vx_c (va_Nw.use rfl hT9.2.2.2.2.1) (vx_c (va_Nw.use rfl hT9.2.2.2.2.2.1) (vx_c (va_Nw.use rfl hT9.2.2.2.2.2.2.1) (vx_c (va_Nw.use rfl hT9.2.2.2.2.2.2.2) vx_n))))
  have hS : va_S A s.heap s.heap [] := va_S.rf
  have hl := lv_entry ([.ref x, .int q1, .int q2, .int q3, .int q4]) (n := 9) (Nat.le_of_ble_eq_true rfl)
  rw [show entryFrame m args 9 = entryFrame m ([.ref x, .int q1, .int q2, .int q3, .int q4] : List Value).toArray 9 by rw [hav], lg_entry_eq]
  generalize (lg_sl ([.ref x, .int q1, .int q2, .int q3, .int q4]) ++ List.replicate (9 - (lg_sl ([.ref x, .int q1, .int q2, .int q3, .int q4])).length) Slot.unset).toArray = ls at hl ⊢
  have hl : lv_has ls 9 [(0, .ref x), (1, .int q1), (2, .int q2), (3, .int q3), (4, .int q4)] := hl
  obtain ⟨R, hR⟩ : ∃ R, R = (headSpec wsQ_rests ({ frames := 8, cells := 1, slots := 6, locals := 560 } : Room)).room := ⟨_, rfl⟩
  rw [← hR]
  generalize hQ : vx_MQ below _ _ args s 1 6 A = Q
  replace hQ := hQ.symm
  obtain ⟨H, hH⟩ : ∃ H, H = s.heap := ⟨_, rfl⟩
  rw [← hH] at hP ⊢
  have hS : va_S A s.heap H [] := by rw [hH]; exact hS
  have hRc : R.cells = 1 ∧ R.slots = 6 := by rw [hR]; exact ⟨rfl, rfl⟩
  obtain ⟨hRc, hRs⟩ := hRc
  refine lv_iload_n hx hb dX8_rests_0 rfl (lv_at hl 1 rfl) ?_
  refine lv_iconst (v := 0) hx hb dX8_rests_1 (by decide) ?_
  refine lv_bipush (v := 9) hx hb dX8_rests_2 (by decide) ?_
  refine kz_Si (As := [.int q1, .int 0, .int 9]) (rest := []) (wc := []) (wr := []) ⟨hx, hb, hml, hown, hts⟩ hK hE hP hD hS hA (mX8_isWithin l D k H.size q1 0 9) (va_cwS 3 hts gX8_rests_X8_isWithin rfl rfl rfl (by decide +kernel) (by rw [hR]; exact ⟨Nat.le_of_ble_eq_true rfl, Nat.le_of_ble_eq_true rfl⟩)) [] [] rfl rfl (by decide +kernel) (by decide +kernel) (by decide +kernel) rfl hl.1 rfl (Nat.le_of_ble_eq_true rfl) dX8_rests_4 (by rw [hR]; exact ⟨Nat.le_of_ble_eq_true rfl, Nat.le_of_ble_eq_true rfl⟩) (fun r1 u1 H locs hw1 hP hD hS => ?_)
  exact by
   try dsimp only at hw1
   obtain rfl : r1 = bz (0 ≤ q1 ∧ q1 ≤ 9) := hw1
   have hP : va_P D vwCl [] H := hP
   have hD : va_D A [] := hD
   refine lv_if_eq (tgt := 36) hx hb dX8_rests_7 (by decide) (fun c_2 => ?_) (fun c_2 => ?_)
   · exact by
      obtain ⟨sq, hsq⟩ := hT9.1
      rw [hQ]
      exact nse_throw hx hb hst hown lk261 lz9 hsq hat hU9 hN9 hS (hl.1.trans hml.symm) dX8_rests_36 dX8_rests_39 dX8_rests_40 dX8_rests_43 dX8_rests_46 (fun x h => (hnt x h).elim) (by rw [hR]; exact Nat.le_of_ble_eq_true rfl) (by rw [hR]; exact Nat.le_of_ble_eq_true rfl) (by rw [hR]; exact Nat.le_of_ble_eq_true rfl) (by rw [hR]; exact Nat.le_of_ble_eq_true rfl) hlocks (fun t hvm h1 h2 => ⟨(), (by unfold rs; rw [if_neg (bz_0 c_2)]), rfl, Nat.le_trans hS.1 h1, fun q z1 z2 => (h2 q (Nat.lt_of_lt_of_le z1 hS.1)).trans (hS.2.1 q z1 z2)⟩) hS.2.2 (by decide) (by decide)
   · exact by
      refine lv_iload_n hx hb dX8_rests_10 rfl (lv_at hl 2 rfl) ?_
      refine lv_iconst (v := 0) hx hb dX8_rests_11 (by decide) ?_
      refine lv_bipush (v := 9) hx hb dX8_rests_12 (by decide) ?_
      refine kz_Si (As := [.int q2, .int 0, .int 9]) (rest := []) (wc := []) (wr := []) ⟨hx, hb, hml, hown, hts⟩ hK hE hP hD hS hA (mX8_isWithin l D k H.size q2 0 9) (va_cwS 3 hts gX8_rests_X8_isWithin rfl rfl rfl (by decide +kernel) (by rw [hR]; exact ⟨Nat.le_of_ble_eq_true rfl, Nat.le_of_ble_eq_true rfl⟩)) [] [] rfl rfl (by decide +kernel) (by decide +kernel) (by decide +kernel) rfl hl.1 rfl (Nat.le_of_ble_eq_true rfl) dX8_rests_14 (by rw [hR]; exact ⟨Nat.le_of_ble_eq_true rfl, Nat.le_of_ble_eq_true rfl⟩) (fun r3 u3 H locs hw3 hP hD hS => ?_)
      exact by
       try dsimp only at hw3
       obtain rfl : r3 = bz (0 ≤ q2 ∧ q2 ≤ 9) := hw3
       have hP : va_P D vwCl [] H := hP
       have hD : va_D A [] := hD
       refine lv_if_eq (tgt := 36) hx hb dX8_rests_17 (by decide) (fun c_4 => ?_) (fun c_4 => ?_)
       · exact by
          obtain ⟨sq, hsq⟩ := hT9.1
          rw [hQ]
          exact nse_throw hx hb hst hown lk261 lz9 hsq hat hU9 hN9 hS (hl.1.trans hml.symm) dX8_rests_36 dX8_rests_39 dX8_rests_40 dX8_rests_43 dX8_rests_46 (fun x h => (hnt x h).elim) (by rw [hR]; exact Nat.le_of_ble_eq_true rfl) (by rw [hR]; exact Nat.le_of_ble_eq_true rfl) (by rw [hR]; exact Nat.le_of_ble_eq_true rfl) (by rw [hR]; exact Nat.le_of_ble_eq_true rfl) hlocks (fun t hvm h1 h2 => ⟨(), (by unfold rs; rw [if_pos (bz_1 c_2), if_neg (bz_0 c_4)]), rfl, Nat.le_trans hS.1 h1, fun q z1 z2 => (h2 q (Nat.lt_of_lt_of_le z1 hS.1)).trans (hS.2.1 q z1 z2)⟩) hS.2.2 (by decide) (by decide)
       · exact by
          refine lv_iload_n hx hb dX8_rests_20 rfl (lv_at hl 3 rfl) ?_
          refine lv_iconst (v := 0) hx hb dX8_rests_21 (by decide) ?_
          refine lv_bipush (v := 9) hx hb dX8_rests_22 (by decide) ?_
          refine kz_Si (As := [.int q3, .int 0, .int 9]) (rest := []) (wc := []) (wr := []) ⟨hx, hb, hml, hown, hts⟩ hK hE hP hD hS hA (mX8_isWithin l D k H.size q3 0 9) (va_cwS 3 hts gX8_rests_X8_isWithin rfl rfl rfl (by decide +kernel) (by rw [hR]; exact ⟨Nat.le_of_ble_eq_true rfl, Nat.le_of_ble_eq_true rfl⟩)) [] [] rfl rfl (by decide +kernel) (by decide +kernel) (by decide +kernel) rfl hl.1 rfl (Nat.le_of_ble_eq_true rfl) dX8_rests_24 (by rw [hR]; exact ⟨Nat.le_of_ble_eq_true rfl, Nat.le_of_ble_eq_true rfl⟩) (fun r5 u5 H locs hw5 hP hD hS => ?_)
          exact by
           try dsimp only at hw5
           obtain rfl : r5 = bz (0 ≤ q3 ∧ q3 ≤ 9) := hw5
           have hP : va_P D vwCl [] H := hP
           have hD : va_D A [] := hD
           refine lv_if_eq (tgt := 36) hx hb dX8_rests_27 (by decide) (fun c_6 => ?_) (fun c_6 => ?_)
           · exact by
              obtain ⟨sq, hsq⟩ := hT9.1
              rw [hQ]
              exact nse_throw hx hb hst hown lk261 lz9 hsq hat hU9 hN9 hS (hl.1.trans hml.symm) dX8_rests_36 dX8_rests_39 dX8_rests_40 dX8_rests_43 dX8_rests_46 (fun x h => (hnt x h).elim) (by rw [hR]; exact Nat.le_of_ble_eq_true rfl) (by rw [hR]; exact Nat.le_of_ble_eq_true rfl) (by rw [hR]; exact Nat.le_of_ble_eq_true rfl) (by rw [hR]; exact Nat.le_of_ble_eq_true rfl) hlocks (fun t hvm h1 h2 => ⟨(), (by unfold rs; rw [if_pos (bz_1 c_2), if_pos (bz_1 c_4), if_neg (bz_0 c_6)]), rfl, Nat.le_trans hS.1 h1, fun q z1 z2 => (h2 q (Nat.lt_of_lt_of_le z1 hS.1)).trans (hS.2.1 q z1 z2)⟩) hS.2.2 (by decide) (by decide)
           · exact by
              refine lv_iload hx hb dX8_rests_30 (lv_at hl 4 rfl) ?_
              refine lv_iconst (v := (-1)) hx hb dX8_rests_32 (by decide) ?_
              refine lv_icmp_ge (tgt := 47) hx hb dX8_rests_33 (by decide) (fun c_7 => ?_) (fun c_7 => ?_)
              · exact by
                 refine lv_iconst (v := 0) hx hb dX8_rests_47 (by decide) ?_
                 refine lv_istore (lv' := [(5, .int 0), (0, .ref x), (1, .int q1), (2, .int q2), (3, .int q3), (4, .int q4)]) hx hb dX8_rests_48 hl (by decide) rfl (fun ls hl => ?_)
                 exact by
                  refine lv_iconst (v := 0) hx hb dX8_rests_50 (by decide) ?_
                  refine lv_istore (lv' := [(6, .int 0), (5, .int 0), (0, .ref x), (1, .int q1), (2, .int q2), (3, .int q3), (4, .int q4)]) hx hb dX8_rests_51 hl (by decide) rfl (fun ls hl => ?_)
                  exact by
                   have hloop53 : ∀ (n : Nat) (j : Nat) (n9 : Nat), 4 - j < n → (j ≤ 4) → (n9 ≤ j) → (rgo q1 q2 q3 q4 (4 - j) j n9 = rs q1 q2 q3 q4) → ∀ (H : Heap) (locs : List Loc) (ls : Array Slot), va_P D vwCl [] H → va_D A [] → va_S A s.heap H locs → lv_has ls 9 [(6, .int (nI j)), (5, .int (nI n9)), (0, .ref x), (1, .int q1), (2, .int q2), (3, .int q3), (4, .int q4)] → W p l e R s m args below meth c H locs 0 0 Q (F0 m 53 ls []) := by
                     intro n53
                     induction n53 with
                     | zero => intro j n9 hm; exact absurd hm (Nat.not_lt_zero _)
                     | succ n53 ih53 =>
                       intro j n9 hm53 hj hn hrg H locs ls hP hD hS hl
                       refine lv_iload hx hb dX8_rests_53 (lv_at hl 0 rfl) ?_
                       refine lv_iconst (v := 4) hx hb dX8_rests_55 (by decide) ?_
                       refine lv_icmp_ge (tgt := 116) hx hb dX8_rests_56 (by decide) (fun c_8 => ?_) (fun c_8 => ?_)
                       · exact by
                          have k_8 : 4 ≤ j := (nI_leI (a := 4) (b := j) (by omega) (by omega)).mp c_8
                          obtain rfl : j = 4 := by omega
                          refine lv_iload hx hb dX8_rests_116 (lv_at hl 6 rfl) ?_
                          refine lv_iconst (v := (-1)) hx hb dX8_rests_118 (by decide) ?_
                          refine lv_icmp_eq (tgt := 133) hx hb dX8_rests_119 (by decide) (fun c_9 => ?_) (fun c_9 => ?_)
                          · exact by
                             refine lv_iload hx hb dX8_rests_133 (lv_at hl 1 rfl) ?_
                             rw [hQ]
                             refine vx_ret ?_
                             refine W.widen (k := 1) (n := 6) (by omega) (by omega) ?_
                             have hP9 := hP.sub (ws' := []) [] rfl
                             have hD9 := hD.sub (ws' := []) [] (by decide) rfl
                             exact W.iret (v := (nI n9)) hx hb hr (fun zt ht hW => ⟨⟨(nI n9), (), rfl, (hrg.symm.trans (by show (if q4 = -1 then _ else _) = _; rw [if_pos c_9])), by rw [ht]; exact hP9, hD9⟩, hS.F ht⟩) hS.2.2 dX8_rests_135
                          · exact by
                             obtain ⟨sq, hsq⟩ := hT9.2.1
                             rw [hQ]
                             exact nse_throw hx hb hst hown lk261 lz9 hsq hat hU9 hN9 hS (hl.1.trans hml.symm) dX8_rests_122 dX8_rests_125 dX8_rests_126 dX8_rests_129 dX8_rests_132 (fun x h => (hnt x h).elim) (by rw [hR]; exact Nat.le_of_ble_eq_true rfl) (by rw [hR]; exact Nat.le_of_ble_eq_true rfl) (by rw [hR]; exact Nat.le_of_ble_eq_true rfl) (by rw [hR]; exact Nat.le_of_ble_eq_true rfl) hlocks (fun t hvm h1 h2 => ⟨(), (hrg.symm.trans (by show (if q4 = -1 then _ else _) = _; rw [if_neg c_9])), rfl, Nat.le_trans hS.1 h1, fun q z1 z2 => (h2 q (Nat.lt_of_lt_of_le z1 hS.1)).trans (hS.2.1 q z1 z2)⟩) hS.2.2 (by decide) (by decide)
                       · exact by
                          have k_8 : ¬ (4 ≤ j) := fun h => c_8 ((nI_leI (a := 4) (b := j) (by omega) (by omega)).mpr h)
                          refine lv_iload hx hb dX8_rests_59 (lv_at hl 0 rfl) ?_
                          refine lv_iconst (v := 1) hx hb dX8_rests_61 (by decide) ?_
                          refine lv_ishr hx hb dX8_rests_62 ?_
                          refine lv_topi (fun x10 ex10 => ?_)
                          exact by
                           obtain rfl : x10 = (fA j) := ex10.trans (fA_s j (by omega))
                           refine lv_istore (lv' := [(7, .int (fA j)), (6, .int (nI j)), (5, .int (nI n9)), (0, .ref x), (1, .int q1), (2, .int q2), (3, .int q3), (4, .int q4)]) hx hb dX8_rests_63 hl (by decide) rfl (fun ls hl => ?_)
                           exact by
                            refine lv_iload hx hb dX8_rests_65 (lv_at hl 1 rfl) ?_
                            refine lv_iconst (v := 1) hx hb dX8_rests_67 (by decide) ?_
                            refine lv_iand hx hb dX8_rests_68 ?_
                            refine lv_topi (fun x11 ex11 => ?_)
                            exact by
                             obtain rfl : x11 = (fB j) := ex11.trans (fB_s j (by omega))
                             refine lv_istore (lv' := [(8, .int (fB j)), (7, .int (fA j)), (6, .int (nI j)), (5, .int (nI n9)), (0, .ref x), (1, .int q1), (2, .int q2), (3, .int q3), (4, .int q4)]) hx hb dX8_rests_69 hl (by decide) rfl (fun ls hl => ?_)
                             exact by
                              refine lv_iload hx hb dX8_rests_71 (lv_at hl 1 rfl) ?_
                              refine lv_iload hx hb dX8_rests_73 (lv_at hl 0 rfl) ?_
                              refine lv_iload_n hx hb dX8_rests_75 rfl (lv_at hl 5 rfl) ?_
                              refine lv_iload_n hx hb dX8_rests_76 rfl (lv_at hl 6 rfl) ?_
                              refine lv_iload_n hx hb dX8_rests_77 rfl (lv_at hl 7 rfl) ?_
                              refine kz_Si (As := [.int (fA j), .int (fB j), .int q1, .int q2, .int q3]) (rest := []) (wc := []) (wr := []) ⟨hx, hb, hml, hown, hts⟩ hK hE hP hD hS hA (mX8_isContent l D k H.size (fA j) (fB j) q1 q2 q3) (va_cwS 5 hts gX8_rests_X8_isContent rfl rfl rfl (by decide +kernel) (by rw [hR]; exact ⟨Nat.le_of_ble_eq_true rfl, Nat.le_of_ble_eq_true rfl⟩)) [] [] rfl rfl (by decide +kernel) (by decide +kernel) (by decide +kernel) rfl hl.1 rfl (Nat.le_of_ble_eq_true rfl) dX8_rests_78 (by rw [hR]; exact ⟨Nat.le_of_ble_eq_true rfl, Nat.le_of_ble_eq_true rfl⟩) (fun r12 u12 H locs hw12 hP hD hS => ?_)
                              exact by
                               try dsimp only at hw12
                               obtain rfl : r12 = bz (gm q1 q2 q3 (1 - (fA j)) (fB j) ≤ gm q1 q2 q3 (fA j) (fB j)) := hw12
                               have hP : va_P D vwCl [] H := hP
                               have hD : va_D A [] := hD
                               refine lv_if_eq (tgt := 110) hx hb dX8_rests_81 (by decide) (fun c_13 => ?_) (fun c_13 => ?_)
                               · exact by
                                  refine lv_iinc (v := (nI (j + 1))) (lv' := [(6, .int (nI (j + 1))), (8, .int (fB j)), (7, .int (fA j)), (5, .int (nI n9)), (0, .ref x), (1, .int q1), (2, .int q2), (3, .int q3), (4, .int q4)]) hx hb dX8_rests_110 hl (k := 2) rfl (nI_1 _) (by decide) rfl (fun ls hl => ?_)
                                  exact by
                                   refine lv_goto (tgt := 53) hx hb dX8_rests_113 (by decide) ?_
                                   exact ih53 (j + 1) n9 (by omega) (by omega) (by omega) ((rgo_skip (by omega) (okb_f1 (bz_0 c_13))).trans hrg) _ _ _ (hP.sub [] rfl) (hD.sub [] (by decide) rfl) hS (lv_sub hl [0, 3, 4, 5, 6, 7, 8] rfl)
                               · exact by
                                  refine lv_iload hx hb dX8_rests_84 (lv_at hl 0 rfl) ?_
                                  refine lv_iload hx hb dX8_rests_86 (lv_at hl 1 rfl) ?_
                                  refine lv_iload_n hx hb dX8_rests_88 rfl (lv_at hl 5 rfl) ?_
                                  refine lv_iload_n hx hb dX8_rests_89 rfl (lv_at hl 6 rfl) ?_
                                  refine lv_iload_n hx hb dX8_rests_90 rfl (lv_at hl 7 rfl) ?_
                                  refine kz_Si (As := [.int (fB j), .int (fA j), .int q1, .int q2, .int q3]) (rest := []) (wc := []) (wr := []) ⟨hx, hb, hml, hown, hts⟩ hK hE hP hD hS hA (mX8_isContent l D k H.size (fB j) (fA j) q1 q2 q3) (va_cwS 5 hts gX8_rests_X8_isContent rfl rfl rfl (by decide +kernel) (by rw [hR]; exact ⟨Nat.le_of_ble_eq_true rfl, Nat.le_of_ble_eq_true rfl⟩)) [] [] rfl rfl (by decide +kernel) (by decide +kernel) (by decide +kernel) rfl hl.1 rfl (Nat.le_of_ble_eq_true rfl) dX8_rests_91 (by rw [hR]; exact ⟨Nat.le_of_ble_eq_true rfl, Nat.le_of_ble_eq_true rfl⟩) (fun r14 u14 H locs hw14 hP hD hS => ?_)
                                  exact by
                                   try dsimp only at hw14
                                   obtain rfl : r14 = bz (gm q1 q2 q3 (1 - (fB j)) (fA j) ≤ gm q1 q2 q3 (fB j) (fA j)) := hw14
                                   have hP : va_P D vwCl [] H := hP
                                   have hD : va_D A [] := hD
                                   refine lv_if_eq (tgt := 110) hx hb dX8_rests_94 (by decide) (fun c_15 => ?_) (fun c_15 => ?_)
                                   · exact by
                                      refine lv_iinc (v := (nI (j + 1))) (lv' := [(6, .int (nI (j + 1))), (8, .int (fB j)), (7, .int (fA j)), (5, .int (nI n9)), (0, .ref x), (1, .int q1), (2, .int q2), (3, .int q3), (4, .int q4)]) hx hb dX8_rests_110 hl (k := 2) rfl (nI_1 _) (by decide) rfl (fun ls hl => ?_)
                                      exact by
                                       refine lv_goto (tgt := 53) hx hb dX8_rests_113 (by decide) ?_
                                       exact ih53 (j + 1) n9 (by omega) (by omega) (by omega) ((rgo_skip (by omega) (okb_f2 (bz_0 c_15))).trans hrg) _ _ _ (hP.sub [] rfl) (hD.sub [] (by decide) rfl) hS (lv_sub hl [0, 3, 4, 5, 6, 7, 8] rfl)
                                   · exact by
                                      refine lv_iload hx hb dX8_rests_97 (lv_at hl 3 rfl) ?_
                                      refine lv_iload hx hb dX8_rests_99 (lv_at hl 8 rfl) ?_
                                      refine lv_icmp_ne (tgt := 107) hx hb dX8_rests_101 (by decide) (fun c_16 => ?_) (fun c_16 => ?_)
                                      · exact by
                                         refine lv_iinc (v := (nI (n9 + 1))) (lv' := [(5, .int (nI (n9 + 1))), (8, .int (fB j)), (7, .int (fA j)), (6, .int (nI j)), (0, .ref x), (1, .int q1), (2, .int q2), (3, .int q3), (4, .int q4)]) hx hb dX8_rests_107 hl (k := 3) rfl (nI_1 _) (by decide) rfl (fun ls hl => ?_)
                                         exact by
                                          refine lv_iinc (v := (nI (j + 1))) (lv' := [(6, .int (nI (j + 1))), (5, .int (nI (n9 + 1))), (8, .int (fB j)), (7, .int (fA j)), (0, .ref x), (1, .int q1), (2, .int q2), (3, .int q3), (4, .int q4)]) hx hb dX8_rests_110 hl (k := 3) rfl (nI_1 _) (by decide) rfl (fun ls hl => ?_)
                                          exact by
                                           refine lv_goto (tgt := 53) hx hb dX8_rests_113 (by decide) ?_
                                           exact ih53 (j + 1) (n9 + 1) (by omega) (by omega) (by omega) ((rgo_next (by omega) (okb_t (bz_1 c_13) (bz_1 c_15)) c_16).trans hrg) _ _ _ (hP.sub [] rfl) (hD.sub [] (by decide) rfl) hS (lv_sub hl [0, 1, 4, 5, 6, 7, 8] rfl)
                                      · exact by
                                         refine lv_iload hx hb dX8_rests_104 (lv_at hl 2 rfl) ?_
                                         rw [hQ]
                                         refine vx_ret ?_
                                         refine W.widen (k := 1) (n := 6) (by omega) (by omega) ?_
                                         have hP9 := hP.sub (ws' := []) [] rfl
                                         have hD9 := hD.sub (ws' := []) [] (by decide) rfl
                                         exact W.iret (v := (nI j)) hx hb hr (fun zt ht hW => ⟨⟨(nI j), (), rfl, (hrg.symm.trans (rgo_hit (by omega) (okb_t (bz_1 c_13) (bz_1 c_15)) c_16)), by rw [ht]; exact hP9, hD9⟩, hS.F ht⟩) hS.2.2 dX8_rests_106
                   exact hloop53 ((4 - 0) + 1) 0 0 (Nat.lt_succ_self _) (by omega) (by omega) ((by unfold rs; rw [if_pos (bz_1 c_2), if_pos (bz_1 c_4), if_pos (bz_1 c_6), if_neg (Int32.not_lt.mpr c_7)])) _ _ _ (hP.sub [] rfl) (hD.sub [] (by decide) rfl) hS (lv_sub hl [0, 1, 2, 3, 4, 5, 6] rfl)
              · exact by
                 obtain ⟨sq, hsq⟩ := hT9.1
                 rw [hQ]
                 exact nse_throw hx hb hst hown lk261 lz9 hsq hat hU9 hN9 hS (hl.1.trans hml.symm) dX8_rests_36 dX8_rests_39 dX8_rests_40 dX8_rests_43 dX8_rests_46 (fun x h => (hnt x h).elim) (by rw [hR]; exact Nat.le_of_ble_eq_true rfl) (by rw [hR]; exact Nat.le_of_ble_eq_true rfl) (by rw [hR]; exact Nat.le_of_ble_eq_true rfl) (by rw [hR]; exact Nat.le_of_ble_eq_true rfl) hlocks (fun t hvm h1 h2 => ⟨(), (by unfold rs; rw [if_pos (bz_1 c_2), if_pos (bz_1 c_4), if_pos (bz_1 c_6), if_pos (Int32.not_le.mp c_7)]), rfl, Nat.le_trans hS.1 h1, fun q z1 z2 => (h2 q (Nat.lt_of_lt_of_le z1 hS.1)).trans (hS.2.1 q z1 z2)⟩) hS.2.2 (by decide) (by decide)
