set_option maxHeartbeats 40000000 in
set_option maxRecDepth 100000 in
theorem law_loop {p : Program} {l : Launch} {e : Env} {s : State} {m : MethodId} {below : List Frame} {meth : Method} {c : Code} {b L : Nat} {xs : Nat → Int32} {A : Nat → Prop} (hx : p.tables.exec = Jvm.exec) (hb : c.code = code) (hr : meth.sig.returnType = ret) (hlocks : meth.locks = false) (hml : c.maxLocals = 7) (hown : s.vm.findClass RL = some m.cls) (hts : ∀ w ∈ wsL_law0, w.before #[Value.ref b] s = true) (htq : ∀ w ∈ wsL_q, w.before #[Value.ref b] s = true) (hX0 : va_X b L xs s s.heap) (hbl : b < s.heap.size) (hbA : ¬ A b) (hA : ∀ q : Nat, s.heap.size ≤ q → A q) (D : va_G) (k : Nat → ClassId) (hK : va_K D vwCl (tysW k) s) (hE : kz_E s) (a0 sa sv : Nat) (f : Nat → Int32) (hX : ky_X a0 sa sv f s) (hF : FT f) (hAX : ∀ q, A q → a0 ≤ q) (ha0 : a0 ≤ s.heap.size) (hT9 : kz_T a0 s) (hst : l.stackTraces = false) (hAX0 : ∀ q, A q → s.heap.size ≤ q) (hL : L ≤ 3584) (oa x y : Nat) (mA rA : Nat → Nat → Nat) (qa : Nat → Nat → Option Nat) (hkf : ∀ j, j < 16 → (qa 0) j = some (rA j 0)) (hmf : ∀ q, q < 4 → (qa 1) q = some (mA q 16)) : ∀ (n j7 cells slots mb : Nat) (ad : Nat → Nat) (fa : Nat → Nat → Int32) (ja : Nat → Nat → Int64) (iv : Nat → Int32) (nv : Nat → Nat) (bv : Nat → Bool) (gv : Nat → Int64) (g h : Nat → va_W) (H : Heap) (locs : List Loc) (ls : Array Slot), L - j7 < n → j7 ≤ L → mb ≤ j7 → cells ≤ 295 + j7 → slots ≤ 10895 + 6 * j7 → law_I k mA rA g h mb ad fa ja iv nv bv gv → va_P D vwCl ((BIGW k x y oa mA qa ad fa ja iv nv bv gv) ++ (fam g 16 ++ (fam h 4 ++ []))) H → va_D A ((BIGW k x y oa mA qa ad fa ja iv nv bv gv) ++ (fam g 16 ++ (fam h 4 ++ []))) → va_S A s.heap H locs → lv_has ls 7 [(4, .int (nI j7)), (3, .ref oa), (2, .ref y), (1, .ref x), (0, .ref b)] → W p l e room_1 s m #[Value.ref b] below meth c H locs cells slots (lw_Z below #[Value.ref b] s) (F0 m 23 ls []) := by
  intro n
  induction n with
  | zero => intro j7 cells slots mb ad fa ja iv nv bv gv g h H locs ls hn; exact absurd hn (Nat.not_lt_zero _)
  | succ n ih =>
    intro j7 cells slots mb ad fa ja iv nv bv gv g h H locs ls hn hjL hmj hce hsl hI hP hD hS hl
    refine lv_iload hx hb dL_law_23 (lv_at hl 0 rfl) ?_
    refine lv_aload_n hx hb dL_law_25 rfl (lv_at hl 4 rfl) ?_
    refine va_slen hx hb hX0 hbl hbA hS dL_law_26 ?_
    refine kz_top (w := .int (nI L)) rfl ?_
    refine lv_bipush (v := 7) hx hb dL_law_27 (by decide) ?_
    refine lv_isub hx hb dL_law_29 ?_
    refine lv_icmp_gt (tgt := 1236) hx hb dL_law_30 (by decide) (fun c_1 => ?_) (fun c_1 => ?_)
    · exact law_exit hx hb hr hlocks hAX0 (by omega) (by omega) hS
    · have hj7 : j7 + 7 ≤ L := by
        by_cases h9 : L < j7 + 7
        · exact absurd ((slt7 (L := L) (j := j7) (by omega) (by omega)).mpr h9) c_1
        · omega
      have hRc : room_1.cells = 601024 := rfl
      have hRs : room_1.slots = 7293034 := rfl
      have hcR : cells ≤ room_1.cells := by omega
      have hsR : slots ≤ room_1.slots := by omega
      have hcR1 : cells + 1 ≤ room_1.cells := by omega
      have hsR1 : slots + 6 ≤ room_1.slots := by omega
      have hR : room_1 = room_1 := rfl
      have tl : law_T p l e room_1 s m #[Value.ref b] below meth c (lw_Z below #[Value.ref b] s) D A k b x y oa mA rA qa j7 cells slots := by
        intro ad fa ja iv nv bv gv g h mb H locs ls hI hmj hP hD hS hl
        refine lv_iinc (v := nI (j7 + 7)) (lv' := [(4, .int (nI (j7 + 7))), (3, .ref oa), (2, .ref y), (1, .ref x), (0, .ref b)]) hx hb dL_law_1230 hl (k := 0) rfl (nI_add j7 7) (by decide) rfl (fun ls hl => ?_)
        exact by
         refine lv_goto (tgt := 23) hx hb dL_law_1233 (by decide) ?_
         exact ih (j7 + 7) (cells + 1) (slots + 6) mb ad fa ja iv nv bv gv g h H locs ls (by omega) (by omega) (by omega) (by omega) (by omega) hI hP hD hS hl
      refine lv_aload_n hx hb dL_law_33 rfl (lv_at hl 4 rfl) ?_
      refine lv_iload hx hb dL_law_34 (lv_at hl 0 rfl) ?_
      refine va_sld hx hb hX0 hbl hbA hS (vp_in_nI (n := j7) (by omega) (by omega)) dL_law_36 ?_
      refine lv_bipush (v := 63) hx hb dL_law_37 (by decide) ?_
      refine lv_iand hx hb dL_law_39 ?_
      refine lv_topi (fun w9 ew9 => ?_)
      exact by
       by_cases w_0 : w9 = 0
       · subst w_0
         refine lv_tableIn (off := 148) (tgt := 188) hx hb dL_law_40 (by decide) (by decide) (by decide) (by decide) ?_
         exact law_step0 hx hb hml hown hts hX0 hbl hbA hA hR D k hK hE a0 sa sv f hX hF hAX ha0 j7 cells slots hj7 hL hcR hsR oa x y mA rA qa hkf hmf ad fa ja iv nv bv gv g h mb hI hmj hP hD hS hl tl
       by_cases w_1 : w9 = 1
       · subst w_1
         refine lv_tableIn (off := 295) (tgt := 335) hx hb dL_law_40 (by decide) (by decide) (by decide) (by decide) ?_
         exact law_step1 hx hb hml hown hts hX0 hbl hbA hA hR D k hK hE a0 sa sv f hX hF hAX ha0 j7 cells slots hj7 hL hcR hsR oa x y mA rA qa hkf hmf ad fa ja iv nv bv gv g h mb hI hmj hP hD hS hl tl
       by_cases w_2 : w9 = 2
       · subst w_2
         refine lv_tableIn (off := 308) (tgt := 348) hx hb dL_law_40 (by decide) (by decide) (by decide) (by decide) ?_
         exact law_step2 hx hb hml hown hts hX0 hbl hbA hA hR D k hK hE a0 sa sv f hX hF hAX ha0 j7 cells slots hj7 hL hcR hsR oa x y mA rA qa hkf hmf ad fa ja iv nv bv gv g h mb hI hmj hP hD hS hl tl
       by_cases w_3 : w9 = 3
       · subst w_3
         refine lv_tableIn (off := 321) (tgt := 361) hx hb dL_law_40 (by decide) (by decide) (by decide) (by decide) ?_
         exact law_step3 hx hb hml hown hts hX0 hbl hbA hA hR D k hK hE a0 sa sv f hX hF hAX ha0 j7 cells slots hj7 hL hcR hsR oa x y mA rA qa hkf hmf ad fa ja iv nv bv gv g h mb hI hmj hP hD hS hl tl
       by_cases w_4 : w9 = 4
       · subst w_4
         refine lv_tableIn (off := 358) (tgt := 398) hx hb dL_law_40 (by decide) (by decide) (by decide) (by decide) ?_
         exact law_step4 hx hb hml hown hts hX0 hbl hbA hA hR D k hK hE a0 sa sv f hX hF hAX ha0 j7 cells slots hj7 hL hcR hsR oa x y mA rA qa hkf hmf ad fa ja iv nv bv gv g h mb hI hmj hP hD hS hl tl
       by_cases w_5 : w9 = 5
       · subst w_5
         refine lv_tableIn (off := 395) (tgt := 435) hx hb dL_law_40 (by decide) (by decide) (by decide) (by decide) ?_
         exact law_step5 hx hb hml hown hts hX0 hbl hbA hA hR D k hK hE a0 sa sv f hX hF hAX ha0 j7 cells slots hj7 hL hcR hsR oa x y mA rA qa hkf hmf ad fa ja iv nv bv gv g h mb hI hmj hP hD hS hl tl
       by_cases w_6 : w9 = 6
       · subst w_6
         refine lv_tableIn (off := 432) (tgt := 472) hx hb dL_law_40 (by decide) (by decide) (by decide) (by decide) ?_
         exact law_step6 hx hb hml hown hts hX0 hbl hbA hA hR D k hK hE a0 sa sv f hX hF hAX ha0 j7 cells slots hj7 hL hcR hsR oa x y mA rA qa hkf hmf ad fa ja iv nv bv gv g h mb hI hmj hP hD hS hl tl
       by_cases w_7 : w9 = 7
       · subst w_7
         refine lv_tableIn (off := 469) (tgt := 509) hx hb dL_law_40 (by decide) (by decide) (by decide) (by decide) ?_
         exact law_step7 hx hb hml hown hts hX0 hbl hbA hA hR D k hK hE a0 sa sv f hX hF hAX ha0 j7 cells slots hj7 hL hcR hsR oa x y mA rA qa hkf hmf ad fa ja iv nv bv gv g h mb hI hmj hP hD hS hl tl
       by_cases w_8 : w9 = 8
       · subst w_8
         refine lv_tableIn (off := 482) (tgt := 522) hx hb dL_law_40 (by decide) (by decide) (by decide) (by decide) ?_
         exact law_step8 hx hb hml hown hts hX0 hbl hbA hA hR D k hK hE a0 sa sv f hX hF hAX ha0 j7 cells slots hj7 hL hcR hsR oa x y mA rA qa hkf hmf ad fa ja iv nv bv gv g h mb hI hmj hP hD hS hl tl
       by_cases w_9 : w9 = 9
       · subst w_9
         refine lv_tableIn (off := 495) (tgt := 535) hx hb dL_law_40 (by decide) (by decide) (by decide) (by decide) ?_
         exact law_step9 hx hb hml hown hts hX0 hbl hbA hA hR D k hK hE a0 sa sv f hX hF hAX ha0 j7 cells slots hj7 hL hcR hsR oa x y mA rA qa hkf hmf ad fa ja iv nv bv gv g h mb hI hmj hP hD hS hl tl
       by_cases w_10 : w9 = 10
       · subst w_10
         refine lv_tableIn (off := 520) (tgt := 560) hx hb dL_law_40 (by decide) (by decide) (by decide) (by decide) ?_
         exact law_step10 hx hb hml hown hts hX0 hbl hbA hA hR D k hK hE a0 sa sv f hX hF hAX ha0 j7 cells slots hj7 hL hcR hsR oa x y mA rA qa hkf hmf ad fa ja iv nv bv gv g h mb hI hmj hP hD hS hl tl
       by_cases w_11 : w9 = 11
       · subst w_11
         refine lv_tableIn (off := 533) (tgt := 573) hx hb dL_law_40 (by decide) (by decide) (by decide) (by decide) ?_
         exact law_step11 hx hb hml hown hts hX0 hbl hbA hA hR D k hK hE a0 sa sv f hX hF hAX ha0 j7 cells slots hj7 hL hcR hsR oa x y mA rA qa hkf hmf ad fa ja iv nv bv gv g h mb hI hmj hP hD hS hl tl
       by_cases w_12 : w9 = 12
       · subst w_12
         refine lv_tableIn (off := 546) (tgt := 586) hx hb dL_law_40 (by decide) (by decide) (by decide) (by decide) ?_
         exact law_step12 hx hb hml hown hts hX0 hbl hbA hA hR D k hK hE a0 sa sv f hX hF hAX ha0 j7 cells slots hj7 hL hcR hsR oa x y mA rA qa hkf hmf ad fa ja iv nv bv gv g h mb hI hmj hP hD hS hl tl
       by_cases w_13 : w9 = 13
       · subst w_13
         refine lv_tableIn (off := 571) (tgt := 611) hx hb dL_law_40 (by decide) (by decide) (by decide) (by decide) ?_
         exact law_step13 hx hb hml hown hts hX0 hbl hbA hA hR D k hK hE a0 sa sv f hX hF hAX ha0 j7 cells slots hj7 hL hcR hsR oa x y mA rA qa hkf hmf ad fa ja iv nv bv gv g h mb hI hmj hP hD hS hl tl
       by_cases w_14 : w9 = 14
       · subst w_14
         refine lv_tableIn (off := 608) (tgt := 648) hx hb dL_law_40 (by decide) (by decide) (by decide) (by decide) ?_
         exact law_step14 hx hb hml hown hts hX0 hbl hbA hA hR D k hK hE a0 sa sv f hX hF hAX ha0 j7 cells slots hj7 hL hcR hsR oa x y mA rA qa hkf hmf ad fa ja iv nv bv gv g h mb hI hmj hP hD hS hl tl
       by_cases w_15 : w9 = 15
       · subst w_15
         refine lv_tableIn (off := 633) (tgt := 673) hx hb dL_law_40 (by decide) (by decide) (by decide) (by decide) ?_
         exact law_step15 hx hb hml hown hts hX0 hbl hbA hA hR D k hK hE a0 sa sv f hX hF hAX ha0 j7 cells slots hj7 hL hcR hsR oa x y mA rA qa hkf hmf ad fa ja iv nv bv gv g h mb hI hmj hP hD hS hl tl
       by_cases w_16 : w9 = 16
       · subst w_16
         refine lv_tableIn (off := 658) (tgt := 698) hx hb dL_law_40 (by decide) (by decide) (by decide) (by decide) ?_
         exact law_step16 hx hb hml hown hts hX0 hbl hbA hA hR D k hK hE a0 sa sv f hX hF hAX ha0 j7 cells slots hj7 hL hcR hsR oa x y mA rA qa hkf hmf ad fa ja iv nv bv gv g h mb hI hmj hP hD hS hl tl
       by_cases w_17 : w9 = 17
       · subst w_17
         refine lv_tableIn (off := 683) (tgt := 723) hx hb dL_law_40 (by decide) (by decide) (by decide) (by decide) ?_
         exact law_step17 hx hb hml hown hts hX0 hbl hbA hA hR D k hK hE a0 sa sv f hX hF hAX ha0 j7 cells slots hj7 hL hcR hsR oa x y mA rA qa hkf hmf ad fa ja iv nv bv gv g h mb hI hmj hP hD hS hl tl
       by_cases w_18 : w9 = 18
       · subst w_18
         refine lv_tableIn (off := 696) (tgt := 736) hx hb dL_law_40 (by decide) (by decide) (by decide) (by decide) ?_
         exact law_step18 hx hb hml hown hts hX0 hbl hbA hA hR D k hK hE a0 sa sv f hX hF hAX ha0 j7 cells slots hj7 hL hcR hsR oa x y mA rA qa hkf hmf ad fa ja iv nv bv gv g h mb hI hmj hP hD hS hl tl
       by_cases w_19 : w9 = 19
       · subst w_19
         refine lv_tableIn (off := 721) (tgt := 761) hx hb dL_law_40 (by decide) (by decide) (by decide) (by decide) ?_
         exact law_step19 hx hb hml hown hts hX0 hbl hbA hA hR D k hK hE a0 sa sv f hX hF hAX ha0 j7 cells slots hj7 hL hcR hsR oa x y mA rA qa hkf hmf ad fa ja iv nv bv gv g h mb hI hmj hP hD hS hl tl
       by_cases w_20 : w9 = 20
       · subst w_20
         refine lv_tableIn (off := 758) (tgt := 798) hx hb dL_law_40 (by decide) (by decide) (by decide) (by decide) ?_
         exact law_step20 hx hb hml hown hts hX0 hbl hbA hA hR D k hK hE a0 sa sv f hX hF hAX ha0 j7 cells slots hj7 hL hcR hsR oa x y mA rA qa hkf hmf ad fa ja iv nv bv gv g h mb hI hmj hP hD hS hl tl
       by_cases w_21 : w9 = 21
       · subst w_21
         refine lv_tableIn (off := 783) (tgt := 823) hx hb dL_law_40 (by decide) (by decide) (by decide) (by decide) ?_
         exact law_step21 hx hb hml hown hts hX0 hbl hbA hA hR D k hK hE a0 sa sv f hX hF hAX ha0 j7 cells slots hj7 hL hcR hsR oa x y mA rA qa hkf hmf ad fa ja iv nv bv gv g h mb hI hmj hP hD hS hl tl
       by_cases w_22 : w9 = 22
       · subst w_22
         refine lv_tableIn (off := 808) (tgt := 848) hx hb dL_law_40 (by decide) (by decide) (by decide) (by decide) ?_
         exact law_step22 hx hb hml hown hts hX0 hbl hbA hA hR D k hK hE a0 sa sv f hX hF hAX ha0 j7 cells slots hj7 hL hcR hsR oa x y mA rA qa hkf hmf ad fa ja iv nv bv gv g h mb hI hmj hP hD hS hl tl
       by_cases w_23 : w9 = 23
       · subst w_23
         refine lv_tableIn (off := 833) (tgt := 873) hx hb dL_law_40 (by decide) (by decide) (by decide) (by decide) ?_
         exact law_step23 hx hb hml hown hts hX0 hbl hbA hA hR D k hK hE a0 sa sv f hX hF hAX ha0 j7 cells slots hj7 hL hcR hsR oa x y mA rA qa hkf hmf ad fa ja iv nv bv gv g h mb hI hmj hP hD hS hl tl
       by_cases w_24 : w9 = 24
       · subst w_24
         refine lv_tableIn (off := 846) (tgt := 886) hx hb dL_law_40 (by decide) (by decide) (by decide) (by decide) ?_
         exact law_step24 hx hb hml hown hts hX0 hbl hbA hA hR D k hK hE a0 sa sv f hX hF hAX ha0 j7 cells slots hj7 hL hcR hsR oa x y mA rA qa hkf hmf ad fa ja iv nv bv gv g h mb hI hmj hP hD hS hl tl
       by_cases w_25 : w9 = 25
       · subst w_25
         refine lv_tableIn (off := 859) (tgt := 899) hx hb dL_law_40 (by decide) (by decide) (by decide) (by decide) ?_
         exact law_step25 hx hb hml hown hts hX0 hbl hbA hA hR D k hK hE a0 sa sv f hX hF hAX ha0 j7 cells slots hj7 hL hcR hsR oa x y mA rA qa hkf hmf ad fa ja iv nv bv gv g h mb hI hmj hP hD hS hl tl
       by_cases w_26 : w9 = 26
       · subst w_26
         refine lv_tableIn (off := 924) (tgt := 964) hx hb dL_law_40 (by decide) (by decide) (by decide) (by decide) ?_
         exact law_step26 hx hb hml hown hts hX0 hbl hbA hA hR D k hK hE a0 sa sv f hX hF hAX ha0 j7 cells slots hj7 hL hcR hsR oa x y mA rA qa hkf hmf ad fa ja iv nv bv gv g h mb hI hmj hP hD hS hl tl
       by_cases w_27 : w9 = 27
       · subst w_27
         refine lv_tableIn (off := 937) (tgt := 977) hx hb dL_law_40 (by decide) (by decide) (by decide) (by decide) ?_
         exact law_step27 hx hb hml hown hts hX0 hbl hbA hA hR D k hK hE a0 sa sv f hX hF hAX ha0 j7 cells slots hj7 hL hcR hsR oa x y mA rA qa hkf hmf ad fa ja iv nv bv gv g h mb hI hmj hP hD hS hl tl
       by_cases w_28 : w9 = 28
       · subst w_28
         refine lv_tableIn (off := 950) (tgt := 990) hx hb dL_law_40 (by decide) (by decide) (by decide) (by decide) ?_
         exact law_step28 hx hb hml hown hts hX0 hbl hbA hA hR D k hK hE a0 sa sv f hX hF hAX ha0 j7 cells slots hj7 hL hcR hsR oa x y mA rA qa hkf hmf ad fa ja iv nv bv gv g h mb hI hmj hP hD hS hl tl
       by_cases w_29 : w9 = 29
       · subst w_29
         refine lv_tableIn (off := 999) (tgt := 1039) hx hb dL_law_40 (by decide) (by decide) (by decide) (by decide) ?_
         exact law_step29 hx hb hml hown hts hX0 hbl hbA hA hR D k hK hE a0 sa sv f hX hF hAX ha0 j7 cells slots hj7 hL hcR hsR oa htq hT9 hst hcR1 hsR1 x y mA rA qa hkf hmf ad fa ja iv nv bv gv g h mb hI hmj hP hD hS hl tl
       by_cases w_30 : w9 = 30
       · subst w_30
         refine lv_tableIn (off := 1063) (tgt := 1103) hx hb dL_law_40 (by decide) (by decide) (by decide) (by decide) ?_
         exact law_step30 hx hb hml hown hts hX0 hbl hbA hA hR D k hK hE a0 sa sv f hX hF hAX ha0 j7 cells slots hj7 hL hcR hsR oa x y mA rA qa hkf hmf ad fa ja iv nv bv gv g h mb hI hmj hP hD hS hl tl
       by_cases w_31 : w9 = 31
       · subst w_31
         refine lv_tableIn (off := 1112) (tgt := 1152) hx hb dL_law_40 (by decide) (by decide) (by decide) (by decide) ?_
         exact law_step31 hx hb hml hown hts hX0 hbl hbA hA hR D k hK hE a0 sa sv f hX hF hAX ha0 j7 cells slots hj7 hL hcR hsR oa x y mA rA qa hkf hmf ad fa ja iv nv bv gv g h mb hI hmj hP hD hS hl tl
       by_cases w_32 : w9 = 32
       · subst w_32
         refine lv_tableIn (off := 1165) (tgt := 1205) hx hb dL_law_40 (by decide) (by decide) (by decide) (by decide) ?_
         exact law_step32 hx hb hml hown hts hX0 hbl hbA hA hR D k hK hE a0 sa sv f hX hF hAX ha0 j7 cells slots hj7 hL hcR hsR oa x y mA rA qa hkf hmf ad fa ja iv nv bv gv g h mb hI hmj hP hD hS hl tl
       have z_0 := lv_neT w_0 (a := 0) (by decide)
       have z_1 := lv_neT w_1 (a := 1) (by decide)
       have z_2 := lv_neT w_2 (a := 2) (by decide)
       have z_3 := lv_neT w_3 (a := 3) (by decide)
       have z_4 := lv_neT w_4 (a := 4) (by decide)
       have z_5 := lv_neT w_5 (a := 5) (by decide)
       have z_6 := lv_neT w_6 (a := 6) (by decide)
       have z_7 := lv_neT w_7 (a := 7) (by decide)
       have z_8 := lv_neT w_8 (a := 8) (by decide)
       have z_9 := lv_neT w_9 (a := 9) (by decide)
       have z_10 := lv_neT w_10 (a := 10) (by decide)
       have z_11 := lv_neT w_11 (a := 11) (by decide)
       have z_12 := lv_neT w_12 (a := 12) (by decide)
       have z_13 := lv_neT w_13 (a := 13) (by decide)
       have z_14 := lv_neT w_14 (a := 14) (by decide)
       have z_15 := lv_neT w_15 (a := 15) (by decide)
       have z_16 := lv_neT w_16 (a := 16) (by decide)
       have z_17 := lv_neT w_17 (a := 17) (by decide)
       have z_18 := lv_neT w_18 (a := 18) (by decide)
       have z_19 := lv_neT w_19 (a := 19) (by decide)
       have z_20 := lv_neT w_20 (a := 20) (by decide)
       have z_21 := lv_neT w_21 (a := 21) (by decide)
       have z_22 := lv_neT w_22 (a := 22) (by decide)
       have z_23 := lv_neT w_23 (a := 23) (by decide)
       have z_24 := lv_neT w_24 (a := 24) (by decide)
       have z_25 := lv_neT w_25 (a := 25) (by decide)
       have z_26 := lv_neT w_26 (a := 26) (by decide)
       have z_27 := lv_neT w_27 (a := 27) (by decide)
       have z_28 := lv_neT w_28 (a := 28) (by decide)
       have z_29 := lv_neT w_29 (a := 29) (by decide)
       have z_30 := lv_neT w_30 (a := 30) (by decide)
       have z_31 := lv_neT w_31 (a := 31) (by decide)
       have z_32 := lv_neT w_32 (a := 32) (by decide)
       refine lv_tableOut (tgt := 1230) hx hb dL_law_40 (by omega) (by decide) ?_
       refine W.widen (k := cells + 1) (n := slots + 6) (by omega) (by omega) ?_
       exact tl ad fa ja iv nv bv gv g h mb H locs ls hI (by omega) hP hD hS hl
