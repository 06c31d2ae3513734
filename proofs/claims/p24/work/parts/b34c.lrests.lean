noncomputable def wsQL_rests : List Cond := .codeWith yL_rests cL_rests 7 (some .int) [(0, 14, 17, 13)] :: ([.classLink RL 13 "java/util/NoSuchElementException", .methodLink RL 7 yX8_rests, .instanceMethod yX8_rests, .selects RX8 yX8_rests yX8_rests, .initialized RX8, .code yX8_rests cX8_rests 9 (some .int), .classLink RX8 261 "java/util/NoSuchElementException", .initialized "java/util/NoSuchElementException", .methodLink RX8 137 yX8_isWithin, .static yX8_isWithin, .code yX8_isWithin cX8_isWithin 3 (some .boolean), .methodLink RX8 268 yX8_isContent, .static yX8_isContent, .code yX8_isContent cX8_isContent 5 (some .boolean), .methodLink RX8 314 yX8_gain, .static yX8_gain, .code yX8_gain cX8_gain 5 (some .int)] ++ nseW)
theorem dL_rests_0 : decode cL_rests 0 = .ok (.aload 5, 2) := dk_aload (by decide +kernel)
theorem dL_rests_2 : decode cL_rests 2 = .ok (.iconst 0, 1) := dk_iconst_0 (by decide +kernel)
theorem dL_rests_3 : decode cL_rests 3 = .ok (.aload_n 0, 1) := dk_aload_n_0 (by decide +kernel)
theorem dL_rests_4 : decode cL_rests 4 = .ok (.iload_n 1, 1) := dk_iload_n_1 (by decide +kernel)
theorem dL_rests_5 : decode cL_rests 5 = .ok (.iload_n 2, 1) := dk_iload_n_2 (by decide +kernel)
theorem dL_rests_6 : decode cL_rests 6 = .ok (.iload_n 3, 1) := dk_iload_n_3 (by decide +kernel)
theorem dL_rests_7 : decode cL_rests 7 = .ok (.iload 4, 2) := dk_iload (by decide +kernel)
theorem dL_rests_9 : decode cL_rests 9 = .ok (.invokevirtual 7, 3) := dk_invokevirtual (by decide +kernel)
theorem dL_rests_12 : decode cL_rests 12 = .ok (.i2l, 1) := dk_i2l (by decide +kernel)
theorem dL_rests_13 : decode cL_rests 13 = .ok (.lastore, 1) := dk_lastore (by decide +kernel)
theorem dL_rests_14 : decode cL_rests 14 = .ok (.goto 7, 3) := dk_goto (by decide +kernel)
theorem dL_rests_17 : decode cL_rests 17 = .ok (.astore 6, 2) := dk_astore (by decide +kernel)
theorem dL_rests_19 : decode cL_rests 19 = .ok (.iconst 1, 1) := dk_iconst_1 (by decide +kernel)
theorem dL_rests_20 : decode cL_rests 20 = .ok (.ireturn, 1) := dk_ireturn (by decide +kernel)
theorem dL_rests_21 : decode cL_rests 21 = .ok (.iconst 0, 1) := dk_iconst_0 (by decide +kernel)
theorem dL_rests_22 : decode cL_rests 22 = .ok (.ireturn, 1) := dk_ireturn (by decide +kernel)
set_option maxRecDepth 20000 in
theorem ggL_rests_X8_rests : GoodIn wsQL_rests wsQ_rests := goodIn_ca (goodIn_r _ [6, 7, 8, 9, 10, 5, 11, 12, 13, 14, 15, 16, 17] rfl (by decide +kernel)) (goodIn_sub (fun _ h => List.mem_cons_of_mem _ (List.mem_append_right _ h)) (by decide +kernel))
set_option maxRecDepth 20000 in
theorem gL_rests_X8_rests : GoodIn wsQL_rests (wsV RL 7 RX8 yX8_rests wsQ_rests) := goodIn_app (goodIn_of _ (by decide +kernel)) ggL_rests_X8_rests
theorem va_A2 {w v sz q : Nat} {e f : va_E} (h : va_A [(w, e), (v, f)] sz q) : q = w ∨ q = v ∨ sz ≤ q := by
  rcases h with ⟨k, e', h⟩ | h
  · rcases k with _ | _ | k
    · simp at h; exact Or.inl h.1.symm
    · simp at h; exact Or.inr (Or.inl h.1.symm)
    · simp at h
  · exact Or.inr (Or.inr h)
def lrP (q1 q2 q3 q4 rr : Int32) (uu : Nat → Int64) : Prop := (rr = 1 ∧ rs q1 q2 q3 q4 = (1, 0)) ∨ (rr = 0 ∧ ∃ v : Int32, rs q1 q2 q3 q4 = (0, v) ∧ uu 0 = v.toInt64)
set_option maxHeartbeats 4000000 in
set_option maxRecDepth 100000 in
theorem mL_rests (l : Launch) (D : va_G) (k : Nat → ClassId) (sz a0 : Nat) (hst : l.stackTraces = false) (q1 q2 q3 q4 : Int32) (x : Nat) (x_tape : Value) (x_told : Value) (x_draft : Value) (x_lines : Value) (x_draftLines : Value) (x_now : Value) (x_trial : Value) (x_sights : Value) (x_past : Value) (x_marks : Value) (x_drawn : Int64) (oa : Nat) (f0 : Nat → Int64) (hge : a0 ≤ x) (hgo : a0 ≤ oa) : Met l yL_rests wsQL_rests ({ frames := 9, cells := 1, slots := 6, locals := 630 }) (va_Pc [.ref x, .int q1, .int q2, .int q3, .int q4, .ref oa] (kz_PreT D k [(x, kO 8 [x_tape, x_told, x_draft, x_lines, x_draftLines, x_now, x_trial, x_sights, x_past, x_marks, .long x_drawn]), (oa, kJ k 1 f0)] a0 sz)) (va_Qi (fun (rr : Int32) (uu : Nat → Int64) => lrP q1 q2 q3 q4 rr uu) (fun uu zt => kz_B D (va_A [(x, kO 8 [x_tape, x_told, x_draft, x_lines, x_draftLines, x_now, x_trial, x_sights, x_past, x_marks, .long x_drawn]), (oa, kJ k 1 f0)] sz) [(x, kO 8 [x_tape, x_told, x_draft, x_lines, x_draftLines, x_now, x_trial, x_sights, x_past, x_marks, .long x_drawn]), (oa, kJ k 1 uu)] zt) (va_A [(x, kO 8 [x_tape, x_told, x_draft, x_lines, x_draftLines, x_now, x_trial, x_sights, x_past, x_marks, .long x_drawn]), (oa, kJ k 1 f0)] sz)) 1 6 (va_A [(x, kO 8 [x_tape, x_told, x_draft, x_lines, x_draftLines, x_now, x_trial, x_sights, x_past, x_marks, .long x_drawn]), (oa, kJ k 1 f0)] sz) := by
  refine va_MetW (cc := cL_rests) (maxL := 7) (ret := (some .int)) (hh := [(0, 14, 17, 13)]) (by decide) rfl ?_
  intro p e s m args below meth c s₁ B hml hv
  obtain ⟨hav, ⟨hsz, hP, hK, hD0, hE⟩, ha0, hT9⟩ := hv
  have hx := B.exec
  have hb := B.bytes
  have hr := B.returns
  have hts := atoms_spec (ws := wsQL_rests) B.pre
  have htab := vx_table (x := yL_rests) B (hts _ List.mem_cons_self)
  have hown : s.vm.findClass RL = some m.cls := findClass_of_methodNamed B.named
  have hlocks := B.notSynchronized
  have lk13 := hts (.classLink RL 13 "java/util/NoSuchElementException") (by decide +kernel)
  subst hsz
  have hD := hD0.self (sz := s.heap.size)
  generalize hAe : va_A [(x, kO 8 [x_tape, x_told, x_draft, x_lines, x_draftLines, x_now, x_trial, x_sights, x_past, x_marks, .long x_drawn]), (oa, kJ k 1 f0)] s.heap.size = A at hD ⊢
  have hA : ∀ q : Nat, s.heap.size ≤ q → A q := fun q h => by rw [← hAe]; exact Or.inr h
  have hAX : ∀ q, A q → a0 ≤ q := fun q h => by rw [← hAe] at h; exact (va_A2 h).elim (fun e => by rw [e]; exact hge) (fun h => h.elim (fun e => by rw [e]; exact hgo) (fun e => Nat.le_trans ha0 e))
  have hS : va_S A s.heap s.heap [] := va_S.rf
  have hl := lv_entry ([.ref x, .int q1, .int q2, .int q3, .int q4, .ref oa]) (n := 7) (Nat.le_of_ble_eq_true rfl)
  rw [show entryFrame m args 7 = entryFrame m ([.ref x, .int q1, .int q2, .int q3, .int q4, .ref oa] : List Value).toArray 7 by rw [hav], lg_entry_eq]
  generalize (lg_sl ([.ref x, .int q1, .int q2, .int q3, .int q4, .ref oa]) ++ List.replicate (7 - (lg_sl ([.ref x, .int q1, .int q2, .int q3, .int q4, .ref oa])).length) Slot.unset).toArray = ls at hl ⊢
  have hl : lv_has ls 7 [(0, .ref x), (1, .int q1), (2, .int q2), (3, .int q3), (4, .int q4), (5, .ref oa)] := hl
  obtain ⟨R, hR⟩ : ∃ R, R = (headSpec wsQL_rests ({ frames := 9, cells := 1, slots := 6, locals := 630 } : Room)).room := ⟨_, rfl⟩
  rw [← hR]
  generalize hQ : MQ below _ args s 1 6 A = Q
  replace hQ := hQ.symm
  obtain ⟨H, hH⟩ : ∃ H, H = s.heap := ⟨_, rfl⟩
  rw [← hH] at hP ⊢
  have hS : va_S A s.heap H [] := by rw [hH]; exact hS
  refine lv_aload hx hb dL_rests_0 (lv_at hl 5 rfl) ?_
  refine lv_iconst (v := 0) hx hb dL_rests_2 (by decide) ?_
  refine lv_aload_n hx hb dL_rests_3 rfl (lv_at hl 0 rfl) ?_
  refine lv_iload_n hx hb dL_rests_4 rfl (lv_at hl 1 rfl) ?_
  refine lv_iload_n hx hb dL_rests_5 rfl (lv_at hl 2 rfl) ?_
  refine lv_iload_n hx hb dL_rests_6 rfl (lv_at hl 3 rfl) ?_
  refine lv_iload hx hb dL_rests_7 (lv_at hl 4 rfl) ?_
  have hFc : ∀ q, va_A [] H.size q → A q := fun q h => h.elim (fun ⟨k, e, h⟩ => by simp at h) (fun h => hA q (Nat.le_trans hS.1 h))
  have hn : ∀ q : Nat, q < H.size → ¬ va_A [] H.size q := fun q hq h => h.elim (fun ⟨k, e, h⟩ => by simp at h) (fun h => by omega)
  refine vx_calli (vx_runV (As := [.int q1, .int q2, .int q3, .int q4]) (rest := [.int 0, .ref oa]) ⟨hx, hb, hml, hown, hts⟩ (mX8_rests l D k H.size x q1 q2 q3 q4 a0 hst) (cwV 4 hts gL_rests_X8_rests rfl rfl rfl (by decide +kernel) (by rw [hR]; exact ⟨Nat.le_of_ble_eq_true rfl, Nat.le_of_ble_eq_true rfl⟩)) ⟨kz_PreTb, va_recv hK hP (ci := 8) (q0 := 0) rfl rfl, fun U hU hW => ⟨rfl, ⟨by rw [hU], fun k q h => by simp at h, va_K.moved hW.alike hK, ⟨fun i j p q h => by simp at h, fun k q h => by simp at h⟩, hE.warm hW⟩, Nat.le_trans ha0 hS.1, hT9.at hS hAX U hU hW⟩⟩ rfl rfl hl.1 rfl (lv_room (Nat.le_of_ble_eq_true rfl)) dL_rests_9 (by rw [hR]; exact ⟨Nat.le_of_ble_eq_true rfl, Nat.le_of_ble_eq_true rfl⟩)) hS (fun q _ h => hFc q h) hFc (fun q _ h => hFc q h) (fun E ce q9 u t H1 locs ht hvm hpx hBX hz hk hS hc1 hc2 hc3 => ?_) (fun r u t H1 locs ht hvm hw hB hz hk hS => ?_)
  · obtain rfl : E = "java/util/NoSuchElementException" := hBX
    have hP := hP.kept (H1 := H1) (fun k9 z9 h9 => hk z9.1 ((hP k9 z9 h9).lt) (hn z9.1 ((hP k9 z9 h9).lt)))
    refine vx_catch (own := RL) (name := "java/util/NoSuchElementException") hown [] { startPc := 0, endPc := 14, handlerPc := 17, catchType := 13 } [] (by rw [htab]; rfl) (fun z h => absurd h List.not_mem_nil) (by decide) (by decide) lk13 (va_Nw.use rfl hT9.2.2.2.2.1) hc1 hc2 hc3 ?_
    refine lv_astore (lv' := [(6, .ref q9), (0, .ref x), (1, .int q1), (2, .int q2), (3, .int q3), (4, .int q4), (5, .ref oa)]) hx hb dL_rests_17 hl (by decide) rfl (fun ls hl => ?_)
    exact by
     refine lv_iconst (v := 1) hx hb dL_rests_19 (by decide) ?_
     rw [hQ]
     exact W.iret (v := 1) hx hb hr (fun zt ht hW => ⟨⟨1, f0, rfl, Or.inl ⟨rfl, hpx⟩, by rw [ht]; exact hP, hD⟩, hS.F ht⟩) hS.2.2 dL_rests_20
  · have hP := hP.kept (H1 := H1) (fun k9 z9 h9 => hk z9.1 ((hP k9 z9 h9).lt) (hn z9.1 ((hP k9 z9 h9).lt)))
    refine lv_i2l hx hb dL_rests_12 rfl ?_
    refine va_last hx hb hK hP hD hS 1 1 rfl rfl (vp_in_iff.mpr (by decide)) dL_rests_13 (fun H locs hP hD hS => ?_)
    exact by
     refine lv_goto (tgt := 21) hx hb dL_rests_14 (by decide) ?_
     refine lv_iconst (v := 0) hx hb dL_rests_21 (by decide) ?_
     rw [hQ]
     exact W.iret (v := 0) hx hb hr (fun zt ht hW => ⟨⟨0, vp_updL f0 (Int32.toNatClampNeg 0) r.toInt64, rfl, Or.inr ⟨rfl, r, hw, rfl⟩, by rw [ht]; exact hP, hD⟩, hS.F ht⟩) hS.2.2 dL_rests_22
