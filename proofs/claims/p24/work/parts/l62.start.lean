set_option maxHeartbeats 40000000 in
set_option maxRecDepth 100000 in
theorem whole_start {p : Program} {e : Env} {s : State} {m : MethodId} {below : List Frame} {meth : Method} {c : Code} (l : Launch) (hflags : l.flags = flags0) {b L : Nat} {xs : Nat → Int32} (hL : L ≤ 3584) (C0 : lw_At p s m meth c b L xs) : W p l e room_1 s m #[Value.ref b] below meth c s.heap [] 0 0 (lw_Z below #[Value.ref b] s) (entryFrame m ([Value.ref b] : List Value).toArray 7) := by
  obtain ⟨hx, hb, hr, hml, hown, hts, hX0, hbl, hlocks, hgv⟩ := id C0
  obtain ⟨D, k, hK⟩ := law_env hts
  have hE := law_E hts
  obtain ⟨sa, sv, hX⟩ := law_X hts hgv
  obtain ⟨ya, yv, hY⟩ := law_Y hts hgv
  have hX : kz_X s.heap.size sa sv txF s := hX
  obtain ⟨f, hf9⟩ : ∃ f, f = txF := ⟨_, rfl⟩
  rw [← hf9] at hX
  have hF : FT (fun j => txS.getD j 0) := FT_S
  generalize (fun j => txS.getD j 0) = yf at hY hF
  have hT9 := law_T9 hts hgv
  have hst : l.stackTraces = false := by unfold Launch.stackTraces; rw [hflags]; decide +kernel
  have htq : ∀ w ∈ wsL_q, w.before #[Value.ref b] s = true := fun w h => hts w ((List.mem_append.mp h).elim (wsL_law_in0 w) (nse_in w))
  have hts : ∀ w ∈ wsL_law0, w.before #[Value.ref b] s = true := fun w h => hts w (wsL_law_in0 w h)
  have hown : s.vm.findClass RL = some m.cls := hown
  obtain ⟨A, hAe⟩ : ∃ A : Nat → Prop, A = fun q => s.heap.size ≤ q := ⟨_, rfl⟩
  have hA : ∀ q : Nat, s.heap.size ≤ q → A q := by rw [hAe]; exact fun _ h => h
  have hAX0 : ∀ q, A q → s.heap.size ≤ q := by rw [hAe]; exact fun _ h => h
  have hbA : ¬ A b := by rw [hAe]; exact Nat.not_le.mpr hbl
  obtain ⟨a0, ha0e⟩ : ∃ a0, a0 = s.heap.size := ⟨_, rfl⟩
  rw [← ha0e] at hX hT9 hY
  have hAX : ∀ q, A q → a0 ≤ q := fun q h => by rw [ha0e]; exact hAX0 q h
  have ha0 : a0 ≤ s.heap.size := Nat.le_of_eq ha0e
  have hS : va_S A s.heap s.heap [] := va_S.rf
  have hP : va_P D vwCl [] s.heap := fun k q h => by simp at h
  have hD : va_D A [] := ⟨fun i j p q h => by simp at h, fun k q h => by simp at h⟩
  have hl := lv_entry ([.ref b]) (n := 7) (Nat.le_of_ble_eq_true rfl)
  rw [lg_entry_eq]
  generalize (lg_sl ([.ref b]) ++ List.replicate (7 - (lg_sl ([.ref b])).length) Slot.unset).toArray = ls at hl ⊢
  have hl : lv_has ls 7 [(0, .ref b)] := hl
  obtain ⟨R, hR⟩ : ∃ R, R = room_1 := ⟨_, rfl⟩
  rw [← hR]
  generalize hQ : lw_Z below #[Value.ref b] s = Q
  replace hQ := hQ.symm
  have hRc : R.cells = 601024 := by rw [hR]; rfl
  have hRs : R.slots = 7293034 := by rw [hR]; rfl
  obtain ⟨H, hH⟩ : ∃ H, H = s.heap := ⟨_, rfl⟩
  rw [← hH] at hP ⊢
  have hS : va_S A s.heap H [] := by rw [hH]; exact hS
  have hi8 : ∀ w ∈ u_ws RX8 TX8 11, w ∈ wsL_law0 := kx8
  have hi9 : ∀ w ∈ u_ws RX9 TX9 58, w ∈ wsL_law0 := kx9
  have lk8 := hts (.classLink RL 8 RX8) (kr_r1 _ (List.mem_of_getElem? (i := 0) rfl))
  have ls8 := hts (.instantiable RX8 11) (kr_r1 _ (List.mem_of_getElem? (i := 1) rfl))
  have lz8 := hts (.initialized RX8) (kr_r1 _ (List.mem_of_getElem? (i := 2) rfl))
  have lni_X8_init := hts (.instanceMethod yX8_init) (kr_r1 _ (List.mem_of_getElem? (i := 9) rfl))
  have lm15 := hts (.methodLink RL 15 yX8_init) (kr_r1 _ (List.mem_of_getElem? (i := 8) rfl))
  have lk16 := hts (.classLink RL 16 RX9) (kr_r1 _ (List.mem_of_getElem? (i := 3) rfl))
  have ls9 := hts (.instantiable RX9 58) (kr_r1 _ (List.mem_of_getElem? (i := 4) rfl))
  have lz9 := hts (.initialized RX9) (kr_r1 _ (List.mem_of_getElem? (i := 5) rfl))
  have lni_X9_init := hts (.instanceMethod yX9_init) (kr_r8 _ (List.mem_of_getElem? (i := 2) rfl))
  have lm18 := hts (.methodLink RL 18 yX9_init) (kr_r8 _ (List.mem_of_getElem? (i := 1) rfl))
  have laJ := hts (.arrayClass .long) (kr_r1 _ (List.mem_of_getElem? (i := 6) rfl))
  refine va_new (ci := 8) (fs := [.null, .null, .null, .null, .null, .null, .null, .null, .null, .null, .long 0]) (C := RX8) (T := TX8) (N := 11) hx hb hts hi8 tyX8 tyX8_ok hown lk8 ls8 lz8 hK hP hD hS hA rfl (by decide +kernel) (by omega) (by omega) dL_law_0 (fun q0_1 H hP hD hS => ?_)
  exact by
   refine W.widen (k := 1) (n := 11) (by first | omega | exact Nat.le_of_ble_eq_true rfl) (by first | omega | exact Nat.le_of_ble_eq_true rfl) ?_
   have hP : va_P D vwCl ([(q0_1, kO 8 [.null, .null, .null, .null, .null, .null, .null, .null, .null, .null, .long 0])]) H := hP
   have hD : va_D A ([(q0_1, kO 8 [.null, .null, .null, .null, .null, .null, .null, .null, .null, .null, .long 0])]) := hD
   refine lv_dup hx hb dL_law_3 rfl ?_
   refine kz_IvX (As := []) (rest := [.ref q0_1]) (wc := [(q0_1, kO 8 [.null, .null, .null, .null, .null, .null, .null, .null, .null, .null, .long 0])]) (wr := []) ⟨hx, hb, hml, hown, hts⟩ hX hAX (Nat.le_trans ha0 hS.1) hS hK hE hP hD hS hA (kX8_init l D k a0 sa sv f H.size q0_1 (hAX _ (hD.2 0 _ rfl)) hf9) (cwI 0 hts kgL_law_X8_init rfl rfl rfl lz8 lm15 lni_X8_init rfl (by decide +kernel) (by rw [hR]; exact ⟨Nat.le_of_ble_eq_true rfl, Nat.le_of_ble_eq_true rfl⟩)) [0] [] rfl rfl (by decide +kernel) (by decide +kernel) (by decide +kernel) rfl hl.1 rfl (Nat.le_of_ble_eq_true rfl) dL_law_4 (by rw [hR]; exact ⟨Nat.le_of_ble_eq_true rfl, Nat.le_of_ble_eq_true rfl⟩) (fun u2 H locs hw2 hP hD hS => ?_)
   exact by
    refine W.widen (k := 253) (n := 5352) (by first | omega | exact Nat.le_of_ble_eq_true rfl) (by first | omega | exact Nat.le_of_ble_eq_true rfl) ?_
    obtain ⟨ua2, kf2, mf2, wf2⟩ := u2
    try dsimp only at hw2
    have hP : va_P D vwCl (apW [] (cookW k q0_1 ua2 kf2 mf2 wf2)) H := hP
    have hD : va_D A (apW [] (cookW k q0_1 ua2 kf2 mf2 wf2)) := hD
    have hwx := hw2
    refine lv_astore_n (lv' := [(1, .ref q0_1), (0, .ref b)]) hx hb dL_law_7 rfl hl (by decide) rfl (fun ls hl => ?_)
    exact by
     refine va_new (ci := 9) (fs := [.int 0, .int 0, .null, .int 0, .int 0, .int 0, .int 0, .long 0, .int 0, .int 0, .null, .null, .null, .null, .null, .null, .null, .null, .null, .null, .int 0, .int 0, .null, .null, .null, .null, .null, .null, .null, .null, .null, .null, .null, .null, .int 0, .null, .null, .null, .null, .null, .null, .null, .null, .null, .null, .null, .null, .null, .null, .int 0, .int 0, .int 0, .int 0, .int 0, .null, .null, .null, .long 0]) (C := RX9) (T := TX9) (N := 58) hx hb hts hi9 tyX9 tyX9_ok hown lk16 ls9 lz9 hK hP hD hS hA rfl (by decide +kernel) (by omega) (by omega) dL_law_8 (fun q8_3 H hP hD hS => ?_)
     exact by
      refine W.widen (k := 254) (n := 5410) (by first | omega | exact Nat.le_of_ble_eq_true rfl) (by first | omega | exact Nat.le_of_ble_eq_true rfl) ?_
      have hP := hP.swap
      have hD := hD.swap
      have hP : va_P D vwCl ([(q8_3, kO 9 [.int 0, .int 0, .null, .int 0, .int 0, .int 0, .int 0, .long 0, .int 0, .int 0, .null, .null, .null, .null, .null, .null, .null, .null, .null, .null, .int 0, .int 0, .null, .null, .null, .null, .null, .null, .null, .null, .null, .null, .null, .null, .int 0, .null, .null, .null, .null, .null, .null, .null, .null, .null, .null, .null, .null, .null, .null, .int 0, .int 0, .int 0, .int 0, .int 0, .null, .null, .null, .long 0])] ++ (cookW k q0_1 ua2 kf2 mf2 wf2)) H := hP
      have hD : va_D A ([(q8_3, kO 9 [.int 0, .int 0, .null, .int 0, .int 0, .int 0, .int 0, .long 0, .int 0, .int 0, .null, .null, .null, .null, .null, .null, .null, .null, .null, .null, .int 0, .int 0, .null, .null, .null, .null, .null, .null, .null, .null, .null, .null, .null, .null, .int 0, .null, .null, .null, .null, .null, .null, .null, .null, .null, .null, .null, .null, .null, .null, .int 0, .int 0, .int 0, .int 0, .int 0, .null, .null, .null, .long 0])] ++ (cookW k q0_1 ua2 kf2 mf2 wf2)) := hD
      refine lv_dup hx hb dL_law_11 rfl ?_
      refine kz_IvQ (As := []) (rest := [.ref q8_3]) (wc := [(q8_3, kO 9 [.int 0, .int 0, .null, .int 0, .int 0, .int 0, .int 0, .long 0, .int 0, .int 0, .null, .null, .null, .null, .null, .null, .null, .null, .null, .null, .int 0, .int 0, .null, .null, .null, .null, .null, .null, .null, .null, .null, .null, .null, .null, .int 0, .null, .null, .null, .null, .null, .null, .null, .null, .null, .null, .null, .null, .null, .null, .int 0, .int 0, .int 0, .int 0, .int 0, .null, .null, .null, .long 0])]) (wr := []) ⟨hx, hb, hml, hown, hts⟩ hK hE hP hD hS hA (kX9_init l D k H.size q8_3) (cwI 0 hts kgL_law_X9_init rfl rfl rfl lz9 lm18 lni_X9_init rfl (by decide +kernel) (by rw [hR]; exact ⟨Nat.le_of_ble_eq_true rfl, Nat.le_of_ble_eq_true rfl⟩)) [0] [] rfl rfl (by decide +kernel) (by decide +kernel) (by decide +kernel) rfl hl.1 rfl (Nat.le_of_ble_eq_true rfl) dL_law_12 (by rw [hR]; exact ⟨Nat.le_of_ble_eq_true rfl, Nat.le_of_ble_eq_true rfl⟩) (fun u4 H locs hw4 hP hD hS => ?_)
      exact by
       refine W.widen (k := 294) (n := 10894) (by first | omega | exact Nat.le_of_ble_eq_true rfl) (by first | omega | exact Nat.le_of_ble_eq_true rfl) ?_
       obtain ⟨b_tape4, b_supper4, b_guestName4, b_kind4, b_offTold4, b_pace4, b_cooks4, b_snow4, b_lineFrom4, b_lineTo4, b_codes4, b_opened4, b_compared4, b_kept4, b_keptBy4, b_ahead4, b_against4, b_sum4, b_sumBy4, b_term4, b_termBy4, b_byNot4, b_valueOf4, b_lines4, b_lineWhat4, b_lineA4, b_lineB4, b_seens4, b_seenIn4, b_seenYards4, b_seenNear4, b_s4, b_aside4, b_before4, b_marked4, b_undone4, b_isLaid4, b_places4, b_comesAt4, b_yardsIn4, us4, ss4⟩ := u4
       try dsimp only at hw4
       have hP : va_P D vwCl (apW [] (apW (modelW k q8_3 b_tape4 b_supper4 b_guestName4 b_kind4 b_offTold4 b_pace4 b_cooks4 b_snow4 b_lineFrom4 b_lineTo4 b_codes4 b_opened4 b_compared4 b_kept4 b_keptBy4 b_ahead4 b_against4 b_sum4 b_sumBy4 b_term4 b_termBy4 b_byNot4 b_valueOf4 b_lines4 b_lineWhat4 b_lineA4 b_lineB4 b_seens4 b_seenIn4 b_seenYards4 b_seenNear4 b_s4 b_aside4 b_before4 b_marked4 b_undone4 b_isLaid4 b_places4 b_comesAt4 b_yardsIn4 us4 ss4) (cookW k q0_1 ua2 kf2 mf2 wf2))) H := hP
       have hD : va_D A (apW [] (apW (modelW k q8_3 b_tape4 b_supper4 b_guestName4 b_kind4 b_offTold4 b_pace4 b_cooks4 b_snow4 b_lineFrom4 b_lineTo4 b_codes4 b_opened4 b_compared4 b_kept4 b_keptBy4 b_ahead4 b_against4 b_sum4 b_sumBy4 b_term4 b_termBy4 b_byNot4 b_valueOf4 b_lines4 b_lineWhat4 b_lineA4 b_lineB4 b_seens4 b_seenIn4 b_seenYards4 b_seenNear4 b_s4 b_aside4 b_before4 b_marked4 b_undone4 b_isLaid4 b_places4 b_comesAt4 b_yardsIn4 us4 ss4) (cookW k q0_1 ua2 kf2 mf2 wf2))) := hD
       have hwy := hw4
       refine lv_astore_n (lv' := [(2, .ref q8_3), (1, .ref q0_1), (0, .ref b)]) hx hb dL_law_15 rfl hl (by decide) rfl (fun ls hl => ?_)
       exact by
        refine lv_iconst (v := 1) hx hb dL_law_16 (by decide) ?_
        refine va_newa (atype := .long) (ty := .long) (N' := 1) (a0 := (1, .inr (.inl (fun _ => 0)))) hx hb laJ rfl hK hP hD hS hA (fun _ => rfl) (by decide) (by decide) (by decide) (by omega) (by omega) dL_law_17 (fun q17_5 cA H hK9 hP hD hS => ?_)
        exact by
         obtain rfl : cA = k 1 := kz_same hK9 1 rfl
         refine W.widen (k := 295) (n := 10895) (by first | omega | exact Nat.le_of_ble_eq_true rfl) (by first | omega | exact Nat.le_of_ble_eq_true rfl) ?_
         have hP := hP.swap
         have hD := hD.swap
         have hP : va_P D vwCl ([(q17_5, kJ k 1 (fun _ => 0))] ++ (apW (modelW k q8_3 b_tape4 b_supper4 b_guestName4 b_kind4 b_offTold4 b_pace4 b_cooks4 b_snow4 b_lineFrom4 b_lineTo4 b_codes4 b_opened4 b_compared4 b_kept4 b_keptBy4 b_ahead4 b_against4 b_sum4 b_sumBy4 b_term4 b_termBy4 b_byNot4 b_valueOf4 b_lines4 b_lineWhat4 b_lineA4 b_lineB4 b_seens4 b_seenIn4 b_seenYards4 b_seenNear4 b_s4 b_aside4 b_before4 b_marked4 b_undone4 b_isLaid4 b_places4 b_comesAt4 b_yardsIn4 us4 ss4) (cookW k q0_1 ua2 kf2 mf2 wf2))) H := hP
         have hD : va_D A ([(q17_5, kJ k 1 (fun _ => 0))] ++ (apW (modelW k q8_3 b_tape4 b_supper4 b_guestName4 b_kind4 b_offTold4 b_pace4 b_cooks4 b_snow4 b_lineFrom4 b_lineTo4 b_codes4 b_opened4 b_compared4 b_kept4 b_keptBy4 b_ahead4 b_against4 b_sum4 b_sumBy4 b_term4 b_termBy4 b_byNot4 b_valueOf4 b_lines4 b_lineWhat4 b_lineA4 b_lineB4 b_seens4 b_seenIn4 b_seenYards4 b_seenNear4 b_s4 b_aside4 b_before4 b_marked4 b_undone4 b_isLaid4 b_places4 b_comesAt4 b_yardsIn4 us4 ss4) (cookW k q0_1 ua2 kf2 mf2 wf2))) := hD
         refine lv_astore_n (lv' := [(3, .ref q17_5), (2, .ref q8_3), (1, .ref q0_1), (0, .ref b)]) hx hb dL_law_19 rfl hl (by decide) rfl (fun ls hl => ?_)
         exact by
          refine lv_iconst (v := 0) hx hb dL_law_20 (by decide) ?_
          refine lv_istore (lv' := [(4, .int 0), (3, .ref q17_5), (2, .ref q8_3), (1, .ref q0_1), (0, .ref b)]) hx hb dL_law_21 hl (by decide) rfl (fun ls hl => ?_)
          exact by
           have hP : va_P D vwCl (apW [(q17_5, kJ k 1 (fun _ => 0))] (apW (modelW k q8_3 b_tape4 b_supper4 b_guestName4 b_kind4 b_offTold4 b_pace4 b_cooks4 b_snow4 b_lineFrom4 b_lineTo4 b_codes4 b_opened4 b_compared4 b_kept4 b_keptBy4 b_ahead4 b_against4 b_sum4 b_sumBy4 b_term4 b_termBy4 b_byNot4 b_valueOf4 b_lines4 b_lineWhat4 b_lineA4 b_lineB4 b_seens4 b_seenIn4 b_seenYards4 b_seenNear4 b_s4 b_aside4 b_before4 b_marked4 b_undone4 b_isLaid4 b_places4 b_comesAt4 b_yardsIn4 us4 ss4) (cookW k q0_1 ua2 kf2 mf2 wf2))) H := hP
           have hD : va_D A (apW [(q17_5, kJ k 1 (fun _ => 0))] (apW (modelW k q8_3 b_tape4 b_supper4 b_guestName4 b_kind4 b_offTold4 b_pace4 b_cooks4 b_snow4 b_lineFrom4 b_lineTo4 b_codes4 b_opened4 b_compared4 b_kept4 b_keptBy4 b_ahead4 b_against4 b_sum4 b_sumBy4 b_term4 b_termBy4 b_byNot4 b_valueOf4 b_lines4 b_lineWhat4 b_lineA4 b_lineB4 b_seens4 b_seenIn4 b_seenYards4 b_seenNear4 b_s4 b_aside4 b_before4 b_marked4 b_undone4 b_isLaid4 b_places4 b_comesAt4 b_yardsIn4 us4 ss4) (cookW k q0_1 ua2 kf2 mf2 wf2))) := hD
           rw [hR, hQ]
           refine W.widen (k := 295) (n := 10895) (by first | omega | exact Nat.le_of_ble_eq_true rfl) (by first | omega | exact Nat.le_of_ble_eq_true rfl) ?_
           exact law_loop hx hb hr hlocks hml hown hts htq hX0 hbl hbA hA D k hK hE a0 ya yv yf hY hF hAX ha0 hT9 hst hAX0 hL q17_5 q0_1 q8_3 (s_mA q0_1 q8_3 q17_5 ua2 kf2 mf2 wf2 b_tape4 b_supper4 b_guestName4 b_kind4 b_offTold4 b_pace4 b_cooks4 b_snow4 b_lineFrom4 b_lineTo4 b_codes4 b_opened4 b_compared4 b_kept4 b_keptBy4 b_ahead4 b_against4 b_sum4 b_sumBy4 b_term4 b_termBy4 b_byNot4 b_valueOf4 b_lines4 b_lineWhat4 b_lineA4 b_lineB4 b_seens4 b_seenIn4 b_seenYards4 b_seenNear4 b_s4 b_aside4 b_before4 b_marked4 b_undone4 b_isLaid4 b_places4 b_comesAt4 b_yardsIn4 us4 ss4) (s_rA q0_1 q8_3 q17_5 ua2 kf2 mf2 wf2 b_tape4 b_supper4 b_guestName4 b_kind4 b_offTold4 b_pace4 b_cooks4 b_snow4 b_lineFrom4 b_lineTo4 b_codes4 b_opened4 b_compared4 b_kept4 b_keptBy4 b_ahead4 b_against4 b_sum4 b_sumBy4 b_term4 b_termBy4 b_byNot4 b_valueOf4 b_lines4 b_lineWhat4 b_lineA4 b_lineB4 b_seens4 b_seenIn4 b_seenYards4 b_seenNear4 b_s4 b_aside4 b_before4 b_marked4 b_undone4 b_isLaid4 b_places4 b_comesAt4 b_yardsIn4 us4 ss4) (s_qa q0_1 q8_3 q17_5 ua2 kf2 mf2 wf2 b_tape4 b_supper4 b_guestName4 b_kind4 b_offTold4 b_pace4 b_cooks4 b_snow4 b_lineFrom4 b_lineTo4 b_codes4 b_opened4 b_compared4 b_kept4 b_keptBy4 b_ahead4 b_against4 b_sum4 b_sumBy4 b_term4 b_termBy4 b_byNot4 b_valueOf4 b_lines4 b_lineWhat4 b_lineA4 b_lineB4 b_seens4 b_seenIn4 b_seenYards4 b_seenNear4 b_s4 b_aside4 b_before4 b_marked4 b_undone4 b_isLaid4 b_places4 b_comesAt4 b_yardsIn4 us4 ss4) (s_kf q0_1 q8_3 q17_5 ua2 kf2 mf2 wf2 b_tape4 b_supper4 b_guestName4 b_kind4 b_offTold4 b_pace4 b_cooks4 b_snow4 b_lineFrom4 b_lineTo4 b_codes4 b_opened4 b_compared4 b_kept4 b_keptBy4 b_ahead4 b_against4 b_sum4 b_sumBy4 b_term4 b_termBy4 b_byNot4 b_valueOf4 b_lines4 b_lineWhat4 b_lineA4 b_lineB4 b_seens4 b_seenIn4 b_seenYards4 b_seenNear4 b_s4 b_aside4 b_before4 b_marked4 b_undone4 b_isLaid4 b_places4 b_comesAt4 b_yardsIn4 us4 ss4 hwx) (s_mf q0_1 q8_3 q17_5 ua2 kf2 mf2 wf2 b_tape4 b_supper4 b_guestName4 b_kind4 b_offTold4 b_pace4 b_cooks4 b_snow4 b_lineFrom4 b_lineTo4 b_codes4 b_opened4 b_compared4 b_kept4 b_keptBy4 b_ahead4 b_against4 b_sum4 b_sumBy4 b_term4 b_termBy4 b_byNot4 b_valueOf4 b_lines4 b_lineWhat4 b_lineA4 b_lineB4 b_seens4 b_seenIn4 b_seenYards4 b_seenNear4 b_s4 b_aside4 b_before4 b_marked4 b_undone4 b_isLaid4 b_places4 b_comesAt4 b_yardsIn4 us4 ss4 hwx) (L + 1) 0 295 10895 0 (s_ad q0_1 q8_3 q17_5 ua2 kf2 mf2 wf2 b_tape4 b_supper4 b_guestName4 b_kind4 b_offTold4 b_pace4 b_cooks4 b_snow4 b_lineFrom4 b_lineTo4 b_codes4 b_opened4 b_compared4 b_kept4 b_keptBy4 b_ahead4 b_against4 b_sum4 b_sumBy4 b_term4 b_termBy4 b_byNot4 b_valueOf4 b_lines4 b_lineWhat4 b_lineA4 b_lineB4 b_seens4 b_seenIn4 b_seenYards4 b_seenNear4 b_s4 b_aside4 b_before4 b_marked4 b_undone4 b_isLaid4 b_places4 b_comesAt4 b_yardsIn4 us4 ss4) (s_fa q0_1 q8_3 q17_5 ua2 kf2 mf2 wf2 b_tape4 b_supper4 b_guestName4 b_kind4 b_offTold4 b_pace4 b_cooks4 b_snow4 b_lineFrom4 b_lineTo4 b_codes4 b_opened4 b_compared4 b_kept4 b_keptBy4 b_ahead4 b_against4 b_sum4 b_sumBy4 b_term4 b_termBy4 b_byNot4 b_valueOf4 b_lines4 b_lineWhat4 b_lineA4 b_lineB4 b_seens4 b_seenIn4 b_seenYards4 b_seenNear4 b_s4 b_aside4 b_before4 b_marked4 b_undone4 b_isLaid4 b_places4 b_comesAt4 b_yardsIn4 us4 ss4) (s_ja q0_1 q8_3 q17_5 ua2 kf2 mf2 wf2 b_tape4 b_supper4 b_guestName4 b_kind4 b_offTold4 b_pace4 b_cooks4 b_snow4 b_lineFrom4 b_lineTo4 b_codes4 b_opened4 b_compared4 b_kept4 b_keptBy4 b_ahead4 b_against4 b_sum4 b_sumBy4 b_term4 b_termBy4 b_byNot4 b_valueOf4 b_lines4 b_lineWhat4 b_lineA4 b_lineB4 b_seens4 b_seenIn4 b_seenYards4 b_seenNear4 b_s4 b_aside4 b_before4 b_marked4 b_undone4 b_isLaid4 b_places4 b_comesAt4 b_yardsIn4 us4 ss4) (s_iv q0_1 q8_3 q17_5 ua2 kf2 mf2 wf2 b_tape4 b_supper4 b_guestName4 b_kind4 b_offTold4 b_pace4 b_cooks4 b_snow4 b_lineFrom4 b_lineTo4 b_codes4 b_opened4 b_compared4 b_kept4 b_keptBy4 b_ahead4 b_against4 b_sum4 b_sumBy4 b_term4 b_termBy4 b_byNot4 b_valueOf4 b_lines4 b_lineWhat4 b_lineA4 b_lineB4 b_seens4 b_seenIn4 b_seenYards4 b_seenNear4 b_s4 b_aside4 b_before4 b_marked4 b_undone4 b_isLaid4 b_places4 b_comesAt4 b_yardsIn4 us4 ss4) (s_nv q0_1 q8_3 q17_5 ua2 kf2 mf2 wf2 b_tape4 b_supper4 b_guestName4 b_kind4 b_offTold4 b_pace4 b_cooks4 b_snow4 b_lineFrom4 b_lineTo4 b_codes4 b_opened4 b_compared4 b_kept4 b_keptBy4 b_ahead4 b_against4 b_sum4 b_sumBy4 b_term4 b_termBy4 b_byNot4 b_valueOf4 b_lines4 b_lineWhat4 b_lineA4 b_lineB4 b_seens4 b_seenIn4 b_seenYards4 b_seenNear4 b_s4 b_aside4 b_before4 b_marked4 b_undone4 b_isLaid4 b_places4 b_comesAt4 b_yardsIn4 us4 ss4) (s_bv q0_1 q8_3 q17_5 ua2 kf2 mf2 wf2 b_tape4 b_supper4 b_guestName4 b_kind4 b_offTold4 b_pace4 b_cooks4 b_snow4 b_lineFrom4 b_lineTo4 b_codes4 b_opened4 b_compared4 b_kept4 b_keptBy4 b_ahead4 b_against4 b_sum4 b_sumBy4 b_term4 b_termBy4 b_byNot4 b_valueOf4 b_lines4 b_lineWhat4 b_lineA4 b_lineB4 b_seens4 b_seenIn4 b_seenYards4 b_seenNear4 b_s4 b_aside4 b_before4 b_marked4 b_undone4 b_isLaid4 b_places4 b_comesAt4 b_yardsIn4 us4 ss4) (s_gv q0_1 q8_3 q17_5 ua2 kf2 mf2 wf2 b_tape4 b_supper4 b_guestName4 b_kind4 b_offTold4 b_pace4 b_cooks4 b_snow4 b_lineFrom4 b_lineTo4 b_codes4 b_opened4 b_compared4 b_kept4 b_keptBy4 b_ahead4 b_against4 b_sum4 b_sumBy4 b_term4 b_termBy4 b_byNot4 b_valueOf4 b_lines4 b_lineWhat4 b_lineA4 b_lineB4 b_seens4 b_seenIn4 b_seenYards4 b_seenNear4 b_s4 b_aside4 b_before4 b_marked4 b_undone4 b_isLaid4 b_places4 b_comesAt4 b_yardsIn4 us4 ss4) (s_g k q0_1 q8_3 q17_5 ua2 kf2 mf2 wf2 b_tape4 b_supper4 b_guestName4 b_kind4 b_offTold4 b_pace4 b_cooks4 b_snow4 b_lineFrom4 b_lineTo4 b_codes4 b_opened4 b_compared4 b_kept4 b_keptBy4 b_ahead4 b_against4 b_sum4 b_sumBy4 b_term4 b_termBy4 b_byNot4 b_valueOf4 b_lines4 b_lineWhat4 b_lineA4 b_lineB4 b_seens4 b_seenIn4 b_seenYards4 b_seenNear4 b_s4 b_aside4 b_before4 b_marked4 b_undone4 b_isLaid4 b_places4 b_comesAt4 b_yardsIn4 us4 ss4) (s_h k q0_1 q8_3 q17_5 ua2 kf2 mf2 wf2 b_tape4 b_supper4 b_guestName4 b_kind4 b_offTold4 b_pace4 b_cooks4 b_snow4 b_lineFrom4 b_lineTo4 b_codes4 b_opened4 b_compared4 b_kept4 b_keptBy4 b_ahead4 b_against4 b_sum4 b_sumBy4 b_term4 b_termBy4 b_byNot4 b_valueOf4 b_lines4 b_lineWhat4 b_lineA4 b_lineB4 b_seens4 b_seenIn4 b_seenYards4 b_seenNear4 b_s4 b_aside4 b_before4 b_marked4 b_undone4 b_isLaid4 b_places4 b_comesAt4 b_yardsIn4 us4 ss4) _ _ _ (by omega) (by omega) (by omega) (by omega) (by omega) (s_I k q0_1 q8_3 q17_5 ua2 kf2 mf2 wf2 b_tape4 b_supper4 b_guestName4 b_kind4 b_offTold4 b_pace4 b_cooks4 b_snow4 b_lineFrom4 b_lineTo4 b_codes4 b_opened4 b_compared4 b_kept4 b_keptBy4 b_ahead4 b_against4 b_sum4 b_sumBy4 b_term4 b_termBy4 b_byNot4 b_valueOf4 b_lines4 b_lineWhat4 b_lineA4 b_lineB4 b_seens4 b_seenIn4 b_seenYards4 b_seenNear4 b_s4 b_aside4 b_before4 b_marked4 b_undone4 b_isLaid4 b_places4 b_comesAt4 b_yardsIn4 us4 ss4 hwy.1 hwy.2.1 hwx.2.2.2.2.2.2.2.2.2.2.2.2.2.2.2.2.2.2.2.2 hwy.2.2.1 hwy.2.2.2) (s_P q0_1 q8_3 q17_5 ua2 kf2 mf2 wf2 b_tape4 b_supper4 b_guestName4 b_kind4 b_offTold4 b_pace4 b_cooks4 b_snow4 b_lineFrom4 b_lineTo4 b_codes4 b_opened4 b_compared4 b_kept4 b_keptBy4 b_ahead4 b_against4 b_sum4 b_sumBy4 b_term4 b_termBy4 b_byNot4 b_valueOf4 b_lines4 b_lineWhat4 b_lineA4 b_lineB4 b_seens4 b_seenIn4 b_seenYards4 b_seenNear4 b_s4 b_aside4 b_before4 b_marked4 b_undone4 b_isLaid4 b_places4 b_comesAt4 b_yardsIn4 us4 ss4 hP) (s_D q0_1 q8_3 q17_5 ua2 kf2 mf2 wf2 b_tape4 b_supper4 b_guestName4 b_kind4 b_offTold4 b_pace4 b_cooks4 b_snow4 b_lineFrom4 b_lineTo4 b_codes4 b_opened4 b_compared4 b_kept4 b_keptBy4 b_ahead4 b_against4 b_sum4 b_sumBy4 b_term4 b_termBy4 b_byNot4 b_valueOf4 b_lines4 b_lineWhat4 b_lineA4 b_lineB4 b_seens4 b_seenIn4 b_seenYards4 b_seenNear4 b_s4 b_aside4 b_before4 b_marked4 b_undone4 b_isLaid4 b_places4 b_comesAt4 b_yardsIn4 us4 ss4 hD) hS (lv_sub hl [0, 1, 2, 3, 4] rfl)
