/-! marks; told anew: by both -/
set_option maxHeartbeats 4000000 in
theorem op_mark {ba9 : Bool} {mk : Int32} {ba : Bool} {ma_laid : Bool} {mar_inside : Int32} {mar_night : Int32} {mar_minute : Int32} {mar_tasted : Int32} {mar_lastCook : Int32} {mar_yardsF : Nat → Int32} {mar_pacesF : Nat → Int32} {mar_stuckF : Nat → Int32} {mar_hirersF : Nat → Int32} {mar_placesF : Nat → Int32} {mar_cameAtF : Nat → Int32} {mar_cookedF : Nat → Int32} {mal_size : Nat} {mal_deedsF : Nat → Int32} {mal_guestsF : Nat → Int32} {mal_wholesF : Nat → Int32} {maz_size : Nat} {maz_minutesF : Nat → Int32} {maz_yardsF : Nat → Int32} {maz_nearF : Nat → Int32} {d_inside : Int32} {d_night : Int32} {d_minute : Int32} {d_tasted : Int32} {d_lastCook : Int32} {d_yardsF : Nat → Int32} {d_pacesF : Nat → Int32} {d_stuckF : Nat → Int32} {d_hirersF : Nat → Int32} {d_placesF : Nat → Int32} {d_cameAtF : Nat → Int32} {d_cookedF : Nat → Int32} {n_size : Nat} {n_deedsF : Nat → Int32} {n_guestsF : Nat → Int32} {n_wholesF : Nat → Int32} {z_size : Nat} {z_minutesF : Nat → Int32} {z_yardsF : Nat → Int32} {z_nearF : Nat → Int32} {pa_size : Nat} {y_done : Nat} {y_linesF : Nat → Int32} {y_lineWhatF : Nat → Int32} {y_lineAF : Nat → Int32} {y_lineBF : Nat → Int32} {y_seensF : Nat → Int32} {y_seenInF : Nat → Int32} {y_seenYardsF : Nat → Int32} {y_seenNearF : Nat → Int32} {y_sF : Nat → Int32} {y_markedF : Nat → Int32} {y_isLaidF : Nat → Int32} {u_ma_3x : Bool} {u_mar_7x : Int32} {u_mar_8x : Int32} {u_mar_9x : Int32} {u_mar_10x : Int32} {u_mar_11x : Int32} {u_mar_yardsx : Nat → Int32} {u_mar_pacesx : Nat → Int32} {u_mar_stuckx : Nat → Int32} {u_mar_hirersx : Nat → Int32} {u_mar_placesx : Nat → Int32} {u_mar_cameAtx : Nat → Int32} {u_mar_cookedx : Nat → Int32} {u_mal_3x : Nat} {u_mal_deedsx : Nat → Int32} {u_mal_guestsx : Nat → Int32} {u_mal_wholesx : Nat → Int32} {u_maz_3x : Nat} {u_maz_minutesx : Nat → Int32} {u_maz_yardsx : Nat → Int32} {u_maz_nearx : Nat → Int32} {u_d_7x : Int32} {u_d_8x : Int32} {u_d_9x : Int32} {u_d_10x : Int32} {u_d_11x : Int32} {u_d_yardsx : Nat → Int32} {u_d_pacesx : Nat → Int32} {u_d_stuckx : Nat → Int32} {u_d_hirersx : Nat → Int32} {u_d_placesx : Nat → Int32} {u_d_cameAtx : Nat → Int32} {u_d_cookedx : Nat → Int32} {u_n_3x : Nat} {u_n_deedsx : Nat → Int32} {u_n_guestsx : Nat → Int32} {u_n_wholesx : Nat → Int32} {u_z_3x : Nat} {u_z_minutesx : Nat → Int32} {u_z_yardsx : Nat → Int32} {u_z_nearx : Nat → Int32} {u_pa_2x : Nat} {ubx : Bool} {u_y_0y : Int32} {u_y_49y : Nat} {u_y_linesy : Nat → Int32} {u_y_lineWhaty : Nat → Int32} {u_y_lineAy : Nat → Int32} {u_y_lineBy : Nat → Int32} {u_y_seensy : Nat → Int32} {u_y_seenIny : Nat → Int32} {u_y_seenYardsy : Nat → Int32} {u_y_seenNeary : Nat → Int32} {u_y_sy : Nat → Int32} {u_y_markedy : Nat → Int32} {u_y_isLaidy : Nat → Int32} {uby : Bool} {t_guests : Nat} {mb : Nat} {y_paceF : Nat → Int32} (hb : ba = ba9) (hg : t_guests ≤ 6) (hl : 0 ≤ Int32.toInt mk → Int32.toInt mk ≤ 3 → y_isLaidF (Int32.toNatClampNeg mk) = bB ma_laid) (hR : RE t_guests mb y_paceF d_inside d_night d_minute d_yardsF d_pacesF d_stuckF d_hirersF d_placesF d_cameAtF d_cookedF y_sF) (hd : pa_size = y_done) (hm : 0 ≤ Int32.toInt mk → Int32.toInt mk ≤ 3 → ¬ y_isLaidF (Int32.toNatClampNeg mk) = 0 → RE t_guests mb y_paceF mar_inside mar_night mar_minute mar_yardsF mar_pacesF mar_stuckF mar_hirersF mar_placesF mar_cameAtF mar_cookedF (fun c => y_markedF (46 * (Int32.toNatClampNeg mk) + c))) (h1 : (u_ma_3x, u_mar_7x, u_mar_8x, u_mar_9x, u_mar_10x, u_mar_11x, u_mar_yardsx, u_mar_pacesx, u_mar_stuckx, u_mar_hirersx, u_mar_placesx, u_mar_cameAtx, u_mar_cookedx, u_mal_3x, u_mal_deedsx, u_mal_guestsx, u_mal_wholesx, u_maz_3x, u_maz_minutesx, u_maz_yardsx, u_maz_nearx, u_d_7x, u_d_8x, u_d_9x, u_d_10x, u_d_11x, u_d_yardsx, u_d_pacesx, u_d_stuckx, u_d_hirersx, u_d_placesx, u_d_cameAtx, u_d_cookedx, u_n_3x, u_n_deedsx, u_n_guestsx, u_n_wholesx, u_z_3x, u_z_minutesx, u_z_yardsx, u_z_nearx, u_pa_2x, ubx) = fX8_mark mk ba ma_laid mar_inside mar_night mar_minute mar_tasted mar_lastCook mar_yardsF mar_pacesF mar_stuckF mar_hirersF mar_placesF mar_cameAtF mar_cookedF mal_size mal_deedsF mal_guestsF mal_wholesF maz_size maz_minutesF maz_yardsF maz_nearF d_inside d_night d_minute d_tasted d_lastCook d_yardsF d_pacesF d_stuckF d_hirersF d_placesF d_cameAtF d_cookedF n_size n_deedsF n_guestsF n_wholesF z_size z_minutesF z_yardsF z_nearF pa_size) (h2 : (u_y_0y, u_y_49y, u_y_linesy, u_y_lineWhaty, u_y_lineAy, u_y_lineBy, u_y_seensy, u_y_seenIny, u_y_seenYardsy, u_y_seenNeary, u_y_sy, u_y_markedy, u_y_isLaidy, uby) = fX9_mark mk ba9 y_done y_linesF y_lineWhatF y_lineAF y_lineBF y_seensF y_seenInF y_seenYardsF y_seenNearF y_sF y_markedF y_isLaidF) : RE t_guests mb y_paceF u_d_7x u_d_8x u_d_9x u_d_yardsx u_d_pacesx u_d_stuckx u_d_hirersx u_d_placesx u_d_cameAtx u_d_cookedx u_y_sy ∧ u_pa_2x = u_y_49y ∧ (u_pa_2x = pa_size ∨ u_pa_2x = 0) ∧ (0 ≤ Int32.toInt mk → Int32.toInt mk ≤ 3 → ¬ u_y_isLaidy (Int32.toNatClampNeg mk) = 0 → RE t_guests mb y_paceF u_mar_7x u_mar_8x u_mar_9x u_mar_yardsx u_mar_pacesx u_mar_stuckx u_mar_hirersx u_mar_placesx u_mar_cameAtx u_mar_cookedx (fun c => u_y_markedy (46 * (Int32.toNatClampNeg mk) + c))) ∧ (∀ q, ¬ q = (Int32.toNatClampNeg mk) → ∀ c, c < 46 → u_y_markedy (46 * q + c) = y_markedF (46 * q + c)) ∧ (¬ (0 ≤ Int32.toInt mk ∧ Int32.toInt mk ≤ 3) → u_y_markedy = y_markedF ∧ u_y_isLaidy = y_isLaidF ∧ u_mar_7x = mar_inside ∧ u_mar_8x = mar_night ∧ u_mar_9x = mar_minute ∧ u_mar_yardsx = mar_yardsF ∧ u_mar_pacesx = mar_pacesF ∧ u_mar_stuckx = mar_stuckF ∧ u_mar_hirersx = mar_hirersF ∧ u_mar_placesx = mar_placesF ∧ u_mar_cameAtx = mar_cameAtF ∧ u_mar_cookedx = mar_cookedF) := by
  subst hb
  unfold fX8_mark at h1
  unfold fX9_mark fX9_mark_J29a fX9_mark_J27a fX9_mark_J119a fX9_mark_J119b at h2
  rw [bn1_] at h1 h2
  rw [wi_] at h1
  by_cases hw : fX9_within mk 0 3 = true
  · have hr := wi_t.mp hw
    rw [show Int32.toInt 0 = 0 by decide, show Int32.toInt 3 = 3 by decide] at hr
    have hl := hl hr.1 hr.2
    obtain ⟨N, hN, hNe⟩ : ∃ N : Nat, N ≤ 3 ∧ mk = nI N := ⟨(Int32.toInt mk).toNat, by omega, Int32.toInt_inj.mp (by rw [nI_toInt (by omega)]; omega)⟩
    have ec : Int32.toNatClampNeg mk = N := by rw [hNe, nI_clamp (by omega)]
    rw [ec] at hl hm h2 ⊢
    rw [if_pos hw] at h1 h2
    cases ba with
    | true =>
      rw [if_pos rfl] at h1 h2
      cases hm9 : ma_laid with
      | true =>
        rw [hm9] at h1 hl
        have hm := hm hr.1 hr.2 (by rw [hl]; decide)
        rw [if_pos rfl] at h1
        rw [if_neg (by rw [hl]; decide), bn1_, if_pos rfl, if_pos rfl] at h2
        have k0 : u_d_7x = mar_inside := (congrArg (fun z => z.2.2.2.2.2.2.2.2.2.2.2.2.2.2.2.2.2.2.2.2.2.1) h1).trans rfl
        have k1 : u_d_8x = mar_night := (congrArg (fun z => z.2.2.2.2.2.2.2.2.2.2.2.2.2.2.2.2.2.2.2.2.2.2.1) h1).trans rfl
        have k2 : u_d_9x = mar_minute := (congrArg (fun z => z.2.2.2.2.2.2.2.2.2.2.2.2.2.2.2.2.2.2.2.2.2.2.2.1) h1).trans rfl
        have k3 : u_d_yardsx = va_cpy mar_yardsF d_yardsF 0 0 6 := (congrArg (fun z => z.2.2.2.2.2.2.2.2.2.2.2.2.2.2.2.2.2.2.2.2.2.2.2.2.2.2.1) h1).trans rfl
        have k4 : u_d_pacesx = va_cpy mar_pacesF d_pacesF 0 0 6 := (congrArg (fun z => z.2.2.2.2.2.2.2.2.2.2.2.2.2.2.2.2.2.2.2.2.2.2.2.2.2.2.2.1) h1).trans rfl
        have k5 : u_d_stuckx = va_cpy mar_stuckF d_stuckF 0 0 6 := (congrArg (fun z => z.2.2.2.2.2.2.2.2.2.2.2.2.2.2.2.2.2.2.2.2.2.2.2.2.2.2.2.2.1) h1).trans rfl
        have k6 : u_d_hirersx = va_cpy mar_hirersF d_hirersF 0 0 6 := (congrArg (fun z => z.2.2.2.2.2.2.2.2.2.2.2.2.2.2.2.2.2.2.2.2.2.2.2.2.2.2.2.2.2.1) h1).trans rfl
        have k7 : u_d_placesx = va_cpy mar_placesF d_placesF 0 0 6 := (congrArg (fun z => z.2.2.2.2.2.2.2.2.2.2.2.2.2.2.2.2.2.2.2.2.2.2.2.2.2.2.2.2.2.2.1) h1).trans rfl
        have k8 : u_d_cameAtx = va_cpy mar_cameAtF d_cameAtF 0 0 6 := (congrArg (fun z => z.2.2.2.2.2.2.2.2.2.2.2.2.2.2.2.2.2.2.2.2.2.2.2.2.2.2.2.2.2.2.2.1) h1).trans rfl
        have k9 : u_d_cookedx = va_cpy mar_cookedF d_cookedF 0 0 6 := (congrArg (fun z => z.2.2.2.2.2.2.2.2.2.2.2.2.2.2.2.2.2.2.2.2.2.2.2.2.2.2.2.2.2.2.2.2.1) h1).trans rfl
        have k10 : u_mar_7x = mar_inside := (congrArg (fun z => z.2.1) h1).trans rfl
        have k11 : u_mar_8x = mar_night := (congrArg (fun z => z.2.2.1) h1).trans rfl
        have k12 : u_mar_9x = mar_minute := (congrArg (fun z => z.2.2.2.1) h1).trans rfl
        have k13 : u_mar_yardsx = mar_yardsF := (congrArg (fun z => z.2.2.2.2.2.2.1) h1).trans rfl
        have k14 : u_mar_pacesx = mar_pacesF := (congrArg (fun z => z.2.2.2.2.2.2.2.1) h1).trans rfl
        have k15 : u_mar_stuckx = mar_stuckF := (congrArg (fun z => z.2.2.2.2.2.2.2.2.1) h1).trans rfl
        have k16 : u_mar_hirersx = mar_hirersF := (congrArg (fun z => z.2.2.2.2.2.2.2.2.2.1) h1).trans rfl
        have k17 : u_mar_placesx = mar_placesF := (congrArg (fun z => z.2.2.2.2.2.2.2.2.2.2.1) h1).trans rfl
        have k18 : u_mar_cameAtx = mar_cameAtF := (congrArg (fun z => z.2.2.2.2.2.2.2.2.2.2.2.1) h1).trans rfl
        have k19 : u_mar_cookedx = mar_cookedF := (congrArg (fun z => z.2.2.2.2.2.2.2.2.2.2.2.2.1) h1).trans rfl
        have k20 : u_pa_2x = 0 := (congrArg (fun z => z.2.2.2.2.2.2.2.2.2.2.2.2.2.2.2.2.2.2.2.2.2.2.2.2.2.2.2.2.2.2.2.2.2.2.2.2.2.2.2.2.2.1) h1).trans rfl
        have k21 : u_y_49y = 0 := (congrArg (fun z => z.2.1) h2).trans rfl
        have k22 : u_y_sy = va_cpy y_markedF y_sF (46 * N) 0 46 := (congrArg (fun z => z.2.2.2.2.2.2.2.2.2.2.1) h2).trans rfl
        have k23 : u_y_markedy = y_markedF := (congrArg (fun z => z.2.2.2.2.2.2.2.2.2.2.2.1) h2).trans rfl
        have k24 : u_y_isLaidy = upd y_isLaidF (Int32.toNatClampNeg (nI N)) (vp_nar .boolean 1) := (congrArg (fun z => z.2.2.2.2.2.2.2.2.2.2.2.2.1) h2).trans rfl
        rw [k0, k1, k2, k3, k4, k5, k6, k7, k8, k9, k10, k11, k12, k13, k14, k15, k16, k17, k18, k19, k20, k21, k22, k23, k24]
        exact ⟨RE_cpy hg (fun j hj => (cpf_at hj).symm) hm, rfl, Or.inr rfl, fun _ _ _ => hm, fun q _ c _ => rfl, fun z => absurd hr z⟩
      | false =>
        rw [hm9] at h1 hl
        rw [if_neg (by decide)] at h1
        rw [if_pos (by rw [hl]; rfl)] at h2
        have k0 : u_d_7x = d_inside := (congrArg (fun z => z.2.2.2.2.2.2.2.2.2.2.2.2.2.2.2.2.2.2.2.2.2.1) h1).trans rfl
        have k1 : u_d_8x = d_night := (congrArg (fun z => z.2.2.2.2.2.2.2.2.2.2.2.2.2.2.2.2.2.2.2.2.2.2.1) h1).trans rfl
        have k2 : u_d_9x = d_minute := (congrArg (fun z => z.2.2.2.2.2.2.2.2.2.2.2.2.2.2.2.2.2.2.2.2.2.2.2.1) h1).trans rfl
        have k3 : u_d_yardsx = d_yardsF := (congrArg (fun z => z.2.2.2.2.2.2.2.2.2.2.2.2.2.2.2.2.2.2.2.2.2.2.2.2.2.2.1) h1).trans rfl
        have k4 : u_d_pacesx = d_pacesF := (congrArg (fun z => z.2.2.2.2.2.2.2.2.2.2.2.2.2.2.2.2.2.2.2.2.2.2.2.2.2.2.2.1) h1).trans rfl
        have k5 : u_d_stuckx = d_stuckF := (congrArg (fun z => z.2.2.2.2.2.2.2.2.2.2.2.2.2.2.2.2.2.2.2.2.2.2.2.2.2.2.2.2.1) h1).trans rfl
        have k6 : u_d_hirersx = d_hirersF := (congrArg (fun z => z.2.2.2.2.2.2.2.2.2.2.2.2.2.2.2.2.2.2.2.2.2.2.2.2.2.2.2.2.2.1) h1).trans rfl
        have k7 : u_d_placesx = d_placesF := (congrArg (fun z => z.2.2.2.2.2.2.2.2.2.2.2.2.2.2.2.2.2.2.2.2.2.2.2.2.2.2.2.2.2.2.1) h1).trans rfl
        have k8 : u_d_cameAtx = d_cameAtF := (congrArg (fun z => z.2.2.2.2.2.2.2.2.2.2.2.2.2.2.2.2.2.2.2.2.2.2.2.2.2.2.2.2.2.2.2.1) h1).trans rfl
        have k9 : u_d_cookedx = d_cookedF := (congrArg (fun z => z.2.2.2.2.2.2.2.2.2.2.2.2.2.2.2.2.2.2.2.2.2.2.2.2.2.2.2.2.2.2.2.2.1) h1).trans rfl
        have k10 : u_mar_7x = mar_inside := (congrArg (fun z => z.2.1) h1).trans rfl
        have k11 : u_mar_8x = mar_night := (congrArg (fun z => z.2.2.1) h1).trans rfl
        have k12 : u_mar_9x = mar_minute := (congrArg (fun z => z.2.2.2.1) h1).trans rfl
        have k13 : u_mar_yardsx = mar_yardsF := (congrArg (fun z => z.2.2.2.2.2.2.1) h1).trans rfl
        have k14 : u_mar_pacesx = mar_pacesF := (congrArg (fun z => z.2.2.2.2.2.2.2.1) h1).trans rfl
        have k15 : u_mar_stuckx = mar_stuckF := (congrArg (fun z => z.2.2.2.2.2.2.2.2.1) h1).trans rfl
        have k16 : u_mar_hirersx = mar_hirersF := (congrArg (fun z => z.2.2.2.2.2.2.2.2.2.1) h1).trans rfl
        have k17 : u_mar_placesx = mar_placesF := (congrArg (fun z => z.2.2.2.2.2.2.2.2.2.2.1) h1).trans rfl
        have k18 : u_mar_cameAtx = mar_cameAtF := (congrArg (fun z => z.2.2.2.2.2.2.2.2.2.2.2.1) h1).trans rfl
        have k19 : u_mar_cookedx = mar_cookedF := (congrArg (fun z => z.2.2.2.2.2.2.2.2.2.2.2.2.1) h1).trans rfl
        have k20 : u_pa_2x = pa_size := (congrArg (fun z => z.2.2.2.2.2.2.2.2.2.2.2.2.2.2.2.2.2.2.2.2.2.2.2.2.2.2.2.2.2.2.2.2.2.2.2.2.2.2.2.2.2.1) h1).trans rfl
        have k21 : u_y_49y = y_done := (congrArg (fun z => z.2.1) h2).trans rfl
        have k22 : u_y_sy = y_sF := (congrArg (fun z => z.2.2.2.2.2.2.2.2.2.2.1) h2).trans rfl
        have k23 : u_y_markedy = y_markedF := (congrArg (fun z => z.2.2.2.2.2.2.2.2.2.2.2.1) h2).trans rfl
        have k24 : u_y_isLaidy = y_isLaidF := (congrArg (fun z => z.2.2.2.2.2.2.2.2.2.2.2.2.1) h2).trans rfl
        rw [k0, k1, k2, k3, k4, k5, k6, k7, k8, k9, k10, k11, k12, k13, k14, k15, k16, k17, k18, k19, k20, k21, k22, k23, k24]
        exact ⟨hR, hd, Or.inl rfl, hm, fun q _ c _ => rfl, fun z => absurd hr z⟩
    | false =>
      rw [if_neg (by decide)] at h1 h2
      rw [bn1_, if_neg (by decide), if_neg (by decide)] at h2
      have k0 : u_d_7x = d_inside := (congrArg (fun z => z.2.2.2.2.2.2.2.2.2.2.2.2.2.2.2.2.2.2.2.2.2.1) h1).trans rfl
      have k1 : u_d_8x = d_night := (congrArg (fun z => z.2.2.2.2.2.2.2.2.2.2.2.2.2.2.2.2.2.2.2.2.2.2.1) h1).trans rfl
      have k2 : u_d_9x = d_minute := (congrArg (fun z => z.2.2.2.2.2.2.2.2.2.2.2.2.2.2.2.2.2.2.2.2.2.2.2.1) h1).trans rfl
      have k3 : u_d_yardsx = d_yardsF := (congrArg (fun z => z.2.2.2.2.2.2.2.2.2.2.2.2.2.2.2.2.2.2.2.2.2.2.2.2.2.2.1) h1).trans rfl
      have k4 : u_d_pacesx = d_pacesF := (congrArg (fun z => z.2.2.2.2.2.2.2.2.2.2.2.2.2.2.2.2.2.2.2.2.2.2.2.2.2.2.2.1) h1).trans rfl
      have k5 : u_d_stuckx = d_stuckF := (congrArg (fun z => z.2.2.2.2.2.2.2.2.2.2.2.2.2.2.2.2.2.2.2.2.2.2.2.2.2.2.2.2.1) h1).trans rfl
      have k6 : u_d_hirersx = d_hirersF := (congrArg (fun z => z.2.2.2.2.2.2.2.2.2.2.2.2.2.2.2.2.2.2.2.2.2.2.2.2.2.2.2.2.2.1) h1).trans rfl
      have k7 : u_d_placesx = d_placesF := (congrArg (fun z => z.2.2.2.2.2.2.2.2.2.2.2.2.2.2.2.2.2.2.2.2.2.2.2.2.2.2.2.2.2.2.1) h1).trans rfl
      have k8 : u_d_cameAtx = d_cameAtF := (congrArg (fun z => z.2.2.2.2.2.2.2.2.2.2.2.2.2.2.2.2.2.2.2.2.2.2.2.2.2.2.2.2.2.2.2.1) h1).trans rfl
      have k9 : u_d_cookedx = d_cookedF := (congrArg (fun z => z.2.2.2.2.2.2.2.2.2.2.2.2.2.2.2.2.2.2.2.2.2.2.2.2.2.2.2.2.2.2.2.2.1) h1).trans rfl
      have k10 : u_mar_7x = d_inside := (congrArg (fun z => z.2.1) h1).trans rfl
      have k11 : u_mar_8x = d_night := (congrArg (fun z => z.2.2.1) h1).trans rfl
      have k12 : u_mar_9x = d_minute := (congrArg (fun z => z.2.2.2.1) h1).trans rfl
      have k13 : u_mar_yardsx = va_cpy d_yardsF mar_yardsF 0 0 6 := (congrArg (fun z => z.2.2.2.2.2.2.1) h1).trans rfl
      have k14 : u_mar_pacesx = va_cpy d_pacesF mar_pacesF 0 0 6 := (congrArg (fun z => z.2.2.2.2.2.2.2.1) h1).trans rfl
      have k15 : u_mar_stuckx = va_cpy d_stuckF mar_stuckF 0 0 6 := (congrArg (fun z => z.2.2.2.2.2.2.2.2.1) h1).trans rfl
      have k16 : u_mar_hirersx = va_cpy d_hirersF mar_hirersF 0 0 6 := (congrArg (fun z => z.2.2.2.2.2.2.2.2.2.1) h1).trans rfl
      have k17 : u_mar_placesx = va_cpy d_placesF mar_placesF 0 0 6 := (congrArg (fun z => z.2.2.2.2.2.2.2.2.2.2.1) h1).trans rfl
      have k18 : u_mar_cameAtx = va_cpy d_cameAtF mar_cameAtF 0 0 6 := (congrArg (fun z => z.2.2.2.2.2.2.2.2.2.2.2.1) h1).trans rfl
      have k19 : u_mar_cookedx = va_cpy d_cookedF mar_cookedF 0 0 6 := (congrArg (fun z => z.2.2.2.2.2.2.2.2.2.2.2.2.1) h1).trans rfl
      have k20 : u_pa_2x = pa_size := (congrArg (fun z => z.2.2.2.2.2.2.2.2.2.2.2.2.2.2.2.2.2.2.2.2.2.2.2.2.2.2.2.2.2.2.2.2.2.2.2.2.2.2.2.2.2.1) h1).trans rfl
      have k21 : u_y_49y = y_done := (congrArg (fun z => z.2.1) h2).trans rfl
      have k22 : u_y_sy = y_sF := (congrArg (fun z => z.2.2.2.2.2.2.2.2.2.2.1) h2).trans rfl
      have k23 : u_y_markedy = va_cpy y_sF y_markedF 0 (46 * N) 46 := (congrArg (fun z => z.2.2.2.2.2.2.2.2.2.2.2.1) h2).trans rfl
      have k24 : u_y_isLaidy = upd y_isLaidF (Int32.toNatClampNeg (nI N)) (vp_nar .boolean 1) := (congrArg (fun z => z.2.2.2.2.2.2.2.2.2.2.2.2.1) h2).trans rfl
      rw [k0, k1, k2, k3, k4, k5, k6, k7, k8, k9, k10, k11, k12, k13, k14, k15, k16, k17, k18, k19, k20, k21, k22, k23, k24]
      exact ⟨hR, hd, Or.inl rfl, fun _ _ _ => RE_cpy hg (fun j hj => (cpo_at hj).symm) hR, fun q hq c hc => cpo_n (by omega), fun z => absurd hr z⟩
  · have hr : ¬ (0 ≤ Int32.toInt mk ∧ Int32.toInt mk ≤ 3) := fun z => hw (wi_t.mpr z)
    rw [if_neg hw] at h1 h2
    have k0 : u_d_7x = d_inside := (congrArg (fun z => z.2.2.2.2.2.2.2.2.2.2.2.2.2.2.2.2.2.2.2.2.2.1) h1).trans rfl
    have k1 : u_d_8x = d_night := (congrArg (fun z => z.2.2.2.2.2.2.2.2.2.2.2.2.2.2.2.2.2.2.2.2.2.2.1) h1).trans rfl
    have k2 : u_d_9x = d_minute := (congrArg (fun z => z.2.2.2.2.2.2.2.2.2.2.2.2.2.2.2.2.2.2.2.2.2.2.2.1) h1).trans rfl
    have k3 : u_d_yardsx = d_yardsF := (congrArg (fun z => z.2.2.2.2.2.2.2.2.2.2.2.2.2.2.2.2.2.2.2.2.2.2.2.2.2.2.1) h1).trans rfl
    have k4 : u_d_pacesx = d_pacesF := (congrArg (fun z => z.2.2.2.2.2.2.2.2.2.2.2.2.2.2.2.2.2.2.2.2.2.2.2.2.2.2.2.1) h1).trans rfl
    have k5 : u_d_stuckx = d_stuckF := (congrArg (fun z => z.2.2.2.2.2.2.2.2.2.2.2.2.2.2.2.2.2.2.2.2.2.2.2.2.2.2.2.2.1) h1).trans rfl
    have k6 : u_d_hirersx = d_hirersF := (congrArg (fun z => z.2.2.2.2.2.2.2.2.2.2.2.2.2.2.2.2.2.2.2.2.2.2.2.2.2.2.2.2.2.1) h1).trans rfl
    have k7 : u_d_placesx = d_placesF := (congrArg (fun z => z.2.2.2.2.2.2.2.2.2.2.2.2.2.2.2.2.2.2.2.2.2.2.2.2.2.2.2.2.2.2.1) h1).trans rfl
    have k8 : u_d_cameAtx = d_cameAtF := (congrArg (fun z => z.2.2.2.2.2.2.2.2.2.2.2.2.2.2.2.2.2.2.2.2.2.2.2.2.2.2.2.2.2.2.2.1) h1).trans rfl
    have k9 : u_d_cookedx = d_cookedF := (congrArg (fun z => z.2.2.2.2.2.2.2.2.2.2.2.2.2.2.2.2.2.2.2.2.2.2.2.2.2.2.2.2.2.2.2.2.1) h1).trans rfl
    have k10 : u_mar_7x = mar_inside := (congrArg (fun z => z.2.1) h1).trans rfl
    have k11 : u_mar_8x = mar_night := (congrArg (fun z => z.2.2.1) h1).trans rfl
    have k12 : u_mar_9x = mar_minute := (congrArg (fun z => z.2.2.2.1) h1).trans rfl
    have k13 : u_mar_yardsx = mar_yardsF := (congrArg (fun z => z.2.2.2.2.2.2.1) h1).trans rfl
    have k14 : u_mar_pacesx = mar_pacesF := (congrArg (fun z => z.2.2.2.2.2.2.2.1) h1).trans rfl
    have k15 : u_mar_stuckx = mar_stuckF := (congrArg (fun z => z.2.2.2.2.2.2.2.2.1) h1).trans rfl
    have k16 : u_mar_hirersx = mar_hirersF := (congrArg (fun z => z.2.2.2.2.2.2.2.2.2.1) h1).trans rfl
    have k17 : u_mar_placesx = mar_placesF := (congrArg (fun z => z.2.2.2.2.2.2.2.2.2.2.1) h1).trans rfl
    have k18 : u_mar_cameAtx = mar_cameAtF := (congrArg (fun z => z.2.2.2.2.2.2.2.2.2.2.2.1) h1).trans rfl
    have k19 : u_mar_cookedx = mar_cookedF := (congrArg (fun z => z.2.2.2.2.2.2.2.2.2.2.2.2.1) h1).trans rfl
    have k20 : u_pa_2x = pa_size := (congrArg (fun z => z.2.2.2.2.2.2.2.2.2.2.2.2.2.2.2.2.2.2.2.2.2.2.2.2.2.2.2.2.2.2.2.2.2.2.2.2.2.2.2.2.2.1) h1).trans rfl
    have k21 : u_y_49y = y_done := (congrArg (fun z => z.2.1) h2).trans rfl
    have k22 : u_y_sy = y_sF := (congrArg (fun z => z.2.2.2.2.2.2.2.2.2.2.1) h2).trans rfl
    have k23 : u_y_markedy = y_markedF := (congrArg (fun z => z.2.2.2.2.2.2.2.2.2.2.2.1) h2).trans rfl
    have k24 : u_y_isLaidy = y_isLaidF := (congrArg (fun z => z.2.2.2.2.2.2.2.2.2.2.2.2.1) h2).trans rfl
    rw [k0, k1, k2, k3, k4, k5, k6, k7, k8, k9, k10, k11, k12, k13, k14, k15, k16, k17, k18, k19, k20, k21, k22, k23, k24]
    exact ⟨hR, hd, Or.inl rfl, fun a b => absurd ⟨a, b⟩ hr, fun q _ c _ => rfl, fun _ => ⟨rfl, rfl, rfl, rfl, rfl, rfl, rfl, rfl, rfl, rfl, rfl, rfl⟩⟩
theorem begin_lp {g : Nat} {ty tp y p st hi pl ca : Nat → Int32} {z : Nat → (Nat → Int32) → Int32 × Int32 × Int32 × Int32 × Int32 × (Nat → Int32) × (Nat → Int32) × (Nat → Int32) × (Nat → Int32) × (Nat → Int32) × (Nat → Int32) × (Nat → Int32)} : ∀ k q ck, q ≤ 6 → 7 - q < k → (∀ i, i < q → ck i = 0) → ∃ ck', lp z (fX4_begin_B17a y p st hi pl ca g ty tp) k q ck = (0, 0, 0, 0, -1, SEQ (ifg g ty) y 6, SEQ (ifg g tp) p 6, SEQ (fun _ => 0) st 6, SEQ (fun _ => -1) hi 6, SEQ (fun _ => -1) pl 6, SEQ (fun _ => -1) ca 6, ck') ∧ (∀ i, i < 6 → ck' i = 0) := by
  intro k
  induction k with
  | zero => intro q ck _ h; exact absurd h (Nat.not_lt_zero _)
  | succ k ih =>
    intro q ck hq hk h1
    show ∃ ck', fX4_begin_B17a y p st hi pl ca g ty tp (lp z (fX4_begin_B17a y p st hi pl ca g ty tp) k) q ck = _ ∧ _
    have ih := ih (q + 1)
    generalize lp z (fX4_begin_B17a y p st hi pl ca g ty tp) k = rc at ih ⊢
    unfold fX4_begin_B17a
    by_cases c : 6 ≤ q
    · rw [if_pos c, bg_, bn8_]
      exact ⟨ck, rfl, fun i hi => h1 i (by omega)⟩
    · rw [if_neg c, nI_clamp (by omega)]
      refine ih _ (by omega) (by omega) (fun i hi => ?_)
      by_cases e : i = q
      · rw [e, upd_e]
      · rw [upd_n e]; exact h1 i (by omega)
theorem begin_ {g : Nat} {ty tp y p st hi pl ca ck : Nat → Int32} : ∃ ck', fX4_begin y p st hi pl ca ck g ty tp = (0, 0, 0, 0, -1, SEQ (ifg g ty) y 6, SEQ (ifg g tp) p 6, SEQ (fun _ => 0) st 6, SEQ (fun _ => -1) hi 6, SEQ (fun _ => -1) pl 6, SEQ (fun _ => -1) ca 6, ck') ∧ (∀ i, i < 6 → ck' i = 0) := by
  unfold fX4_begin
  exact begin_lp _ 0 ck (by omega) (by omega) (fun i hi => absurd hi (Nat.not_lt_zero _))
theorem sft_lt {f : Nat → Int32} {n q : Nat} (h : q < n) : sft f n n q = f (n + q) := by
  unfold sft
  rw [if_pos h]
set_option maxHeartbeats 8000000 in
theorem op_sup {t : Nat} {dr : Nat} {ta_length : Nat} {ta_letters : Int64} {ta_signsF : Nat → Int32} {ta_wordsF : Nat → Int64} {dr_namesF : Nat → Int64} {dr_kindsF : Nat → Int32} {dr_yardsF : Nat → Int32} {dr_pacesF : Nat → Int32} {dr_skillsF : Nat → Int32} {dr_snowF : Nat → Int32} {drw_codeF : Nat → Int32} {d_inside : Int32} {d_night : Int32} {d_minute : Int32} {d_tasted : Int32} {d_lastCook : Int32} {d_yardsF : Nat → Int32} {d_pacesF : Nat → Int32} {d_stuckF : Nat → Int32} {d_hirersF : Nat → Int32} {d_placesF : Nat → Int32} {d_cameAtF : Nat → Int32} {d_cookedF : Nat → Int32} {n_size : Nat} {z_size : Nat} {pa_size : Nat} {m0_laid : Bool} {m1_laid : Bool} {m2_laid : Bool} {m3_laid : Bool} {f : Nat → Int32} {y_taped : Nat} {y_wrong : Int32} {y_given : Int32} {y_done : Nat} {y_tapeF : Nat → Int32} {y_supperF : Nat → Int32} {y_guestNameF : Nat → Int64} {y_kindF : Nat → Int32} {y_offToldF : Nat → Int32} {y_paceF : Nat → Int32} {y_cooksF : Nat → Int32} {y_snowF : Nat → Int32} {y_lineFromF : Nat → Int32} {y_lineToF : Nat → Int32} {y_codesF : Nat → Int32} {y_openedF : Nat → Int32} {y_comparedF : Nat → Int32} {y_linesF : Nat → Int32} {y_seensF : Nat → Int32} {y_sF : Nat → Int32} {y_isLaidF : Nat → Int32} {u_x_1x : Nat} {u_x_2x : Nat} {u_ta_2x : Nat} {u_ta_3x : Nat} {u_ta_4x : Int32} {u_ta_5x : Int32} {u_ta_6x : Int32} {u_ta_7x : Int64} {u_ta_8x : Int32} {u_dr_7x : Nat} {u_dr_8x : Nat} {u_dr_9x : Int32} {u_dr_10x : Int32} {u_dr_11x : Bool} {u_dr_12x : Bool} {u_dr_namesx : Nat → Int64} {u_dr_kindsx : Nat → Int32} {u_dr_yardsx : Nat → Int32} {u_dr_pacesx : Nat → Int32} {u_dr_skillsx : Nat → Int32} {u_dr_snowx : Nat → Int32} {u_drw_3x : Nat} {u_drw_codex : Nat → Int32} {u_d_7x : Int32} {u_d_8x : Int32} {u_d_9x : Int32} {u_d_10x : Int32} {u_d_11x : Int32} {u_d_yardsx : Nat → Int32} {u_d_pacesx : Nat → Int32} {u_d_stuckx : Nat → Int32} {u_d_hirersx : Nat → Int32} {u_d_placesx : Nat → Int32} {u_d_cameAtx : Nat → Int32} {u_d_cookedx : Nat → Int32} {u_n_3x : Nat} {u_z_3x : Nat} {u_pa_2x : Nat} {u_m0_3x : Bool} {u_m1_3x : Bool} {u_m2_3x : Bool} {u_m3_3x : Bool} {rrx : Int32} {u_y_0y : Int32} {u_y_1y : Nat} {u_y_3y : Nat} {u_y_4y : Nat} {u_y_5y : Nat} {u_y_6y : Nat} {u_y_7y : Int64} {u_y_8y : Int32} {u_y_9y : Int32} {u_y_20y : Nat} {u_y_21y : Int32} {u_y_34y : Int32} {u_y_49y : Nat} {u_y_suppery : Nat → Int32} {u_y_guestNamey : Nat → Int64} {u_y_kindy : Nat → Int32} {u_y_offToldy : Nat → Int32} {u_y_pacey : Nat → Int32} {u_y_cooksy : Nat → Int32} {u_y_snowy : Nat → Int32} {u_y_lineFromy : Nat → Int32} {u_y_lineToy : Nat → Int32} {u_y_codesy : Nat → Int32} {u_y_openedy : Nat → Int32} {u_y_comparedy : Nat → Int32} {u_y_linesy : Nat → Int32} {u_y_seensy : Nat → Int32} {u_y_sy : Nat → Int32} {u_y_isLaidy : Nat → Int32} {rry : Int32} (hn : ta_length ≤ 1000) (e1 : ta_length = y_taped) (e2 : ta_signsF = y_tapeF) (hs : SR ta_signsF) (hw : WT ta_wordsF) (hF : FT f) (h1 : (u_x_1x, u_x_2x, u_ta_2x, u_ta_3x, u_ta_4x, u_ta_5x, u_ta_6x, u_ta_7x, u_ta_8x, u_dr_7x, u_dr_8x, u_dr_9x, u_dr_10x, u_dr_11x, u_dr_12x, u_dr_namesx, u_dr_kindsx, u_dr_yardsx, u_dr_pacesx, u_dr_skillsx, u_dr_snowx, u_drw_3x, u_drw_codex, u_d_7x, u_d_8x, u_d_9x, u_d_10x, u_d_11x, u_d_yardsx, u_d_pacesx, u_d_stuckx, u_d_hirersx, u_d_placesx, u_d_cameAtx, u_d_cookedx, u_n_3x, u_z_3x, u_pa_2x, u_m0_3x, u_m1_3x, u_m2_3x, u_m3_3x, rrx) = fX8_supper t dr ta_length ta_letters ta_signsF ta_wordsF dr_namesF dr_kindsF dr_yardsF dr_pacesF dr_skillsF dr_snowF drw_codeF d_inside d_night d_minute d_tasted d_lastCook d_yardsF d_pacesF d_stuckF d_hirersF d_placesF d_cameAtF d_cookedF n_size z_size pa_size m0_laid m1_laid m2_laid m3_laid f) (h2 : (u_y_0y, u_y_1y, u_y_3y, u_y_4y, u_y_5y, u_y_6y, u_y_7y, u_y_8y, u_y_9y, u_y_20y, u_y_21y, u_y_34y, u_y_49y, u_y_suppery, u_y_guestNamey, u_y_kindy, u_y_offToldy, u_y_pacey, u_y_cooksy, u_y_snowy, u_y_lineFromy, u_y_lineToy, u_y_codesy, u_y_openedy, u_y_comparedy, u_y_linesy, u_y_seensy, u_y_sy, u_y_isLaidy, rry) = fX9_supper y_taped y_wrong y_given y_done y_tapeF y_supperF y_guestNameF y_kindF y_offToldF y_paceF y_cooksF y_snowF y_lineFromF y_lineToF y_codesF y_openedF y_comparedF y_linesF y_seensF y_sF y_isLaidF) : (u_x_1x = t ∧ u_x_2x = dr ∧ Fr u_y_suppery u_y_guestNamey u_y_kindy u_y_offToldy u_y_pacey u_y_cooksy u_y_snowy y_supperF y_guestNameF y_kindF y_offToldF y_paceF y_cooksF y_snowF ∧ u_d_7x = d_inside ∧ u_d_8x = d_night ∧ u_d_9x = d_minute ∧ u_d_yardsx = d_yardsF ∧ u_d_pacesx = d_pacesF ∧ u_d_stuckx = d_stuckF ∧ u_d_hirersx = d_hirersF ∧ u_d_placesx = d_placesF ∧ u_d_cameAtx = d_cameAtF ∧ u_d_cookedx = d_cookedF ∧ u_pa_2x = pa_size ∧ u_y_49y = y_done ∧ u_y_sy = y_sF ∧ u_y_isLaidy = y_isLaidF) ∨ (u_x_1x = dr ∧ u_x_2x = t ∧ TQ2 u_dr_7x u_dr_8x u_dr_9x u_dr_10x u_dr_kindsx u_dr_yardsx u_dr_pacesx u_dr_skillsx u_dr_snowx u_y_suppery u_y_kindy u_y_offToldy u_y_pacey u_y_cooksy u_y_snowy ∧ (∀ B, RE u_dr_7x B u_y_pacey u_d_7x u_d_8x u_d_9x u_d_yardsx u_d_pacesx u_d_stuckx u_d_hirersx u_d_placesx u_d_cameAtx u_d_cookedx u_y_sy) ∧ u_pa_2x = 0 ∧ u_y_49y = 0 ∧ (∀ q, q < 4 → u_y_isLaidy q = 0) ∧ NR u_dr_7x u_dr_namesx u_y_guestNamey 0) := by
  subst e1
  subst e2
  obtain ⟨a1, a2, a3, a4, a5, g, sw, be, ho, bT, hT, na, ki, ya, pa, sk, sn, ll, lc, nx, pl, kd, vl, lt, fa, ok, p, bg, tk, wo, to, wr, code, tl, gi, sup, gn, k9, o9, p9, c9, sn9, lf, lt9, codes, op, cm, r0, r1, r2, x3, x4, x5⟩ := sup_twoF (n := ta_length) (s := ta_signsF) (ta_letters := ta_letters) (ta_wordsF := ta_wordsF) (dr_namesF := dr_namesF) (dr_kindsF := dr_kindsF) (dr_yardsF := dr_yardsF) (dr_pacesF := dr_pacesF) (dr_skillsF := dr_skillsF) (dr_snowF := dr_snowF) (drw_codeF := drw_codeF) (f := f) (y_wrong := y_wrong) (y_given := y_given) (y_supperF := y_supperF) (y_guestNameF := y_guestNameF) (y_kindF := y_kindF) (y_offToldF := y_offToldF) (y_paceF := y_paceF) (y_cooksF := y_cooksF) (y_snowF := y_snowF) (y_lineFromF := y_lineFromF) (y_lineToF := y_lineToF) (y_codesF := y_codesF) (y_openedF := y_openedF) (y_comparedF := y_comparedF) hn hw (SG_of hF hs)
  have hrg := rg_read (na := dr_namesF) (ki := dr_kindsF) (ya := dr_yardsF) (pa := dr_pacesF) (sk := dr_skillsF) (sn := dr_snowF) (lc := drw_codeF) (n := ta_length) (nx := a1) (pl := a2) (kd := a3) (vl := a4) (lt := a5) (fa := 0) (s := ta_signsF) (w := ta_wordsF) (f := f)
  rw [r1] at hrg
  unfold fX8_supper at h1
  unfold fX9_supper at h2
  rw [r0, bn6_, r1, bn21_, bn1_] at h1
  rw [r2, bn24_] at h2
  cases ok with
  | false =>
    rw [if_neg (by decide)] at h1 h2
    have kx0 : u_x_1x = t := (congrArg (fun z => z.1) h1).trans rfl
    have kx1 : u_x_2x = dr := (congrArg (fun z => z.2.1) h1).trans rfl
    have kx2 : u_d_7x = d_inside := (congrArg (fun z => z.2.2.2.2.2.2.2.2.2.2.2.2.2.2.2.2.2.2.2.2.2.2.2.1) h1).trans rfl
    have kx3 : u_d_8x = d_night := (congrArg (fun z => z.2.2.2.2.2.2.2.2.2.2.2.2.2.2.2.2.2.2.2.2.2.2.2.2.1) h1).trans rfl
    have kx4 : u_d_9x = d_minute := (congrArg (fun z => z.2.2.2.2.2.2.2.2.2.2.2.2.2.2.2.2.2.2.2.2.2.2.2.2.2.1) h1).trans rfl
    have kx5 : u_d_yardsx = d_yardsF := (congrArg (fun z => z.2.2.2.2.2.2.2.2.2.2.2.2.2.2.2.2.2.2.2.2.2.2.2.2.2.2.2.2.1) h1).trans rfl
    have kx6 : u_d_pacesx = d_pacesF := (congrArg (fun z => z.2.2.2.2.2.2.2.2.2.2.2.2.2.2.2.2.2.2.2.2.2.2.2.2.2.2.2.2.2.1) h1).trans rfl
    have kx7 : u_d_stuckx = d_stuckF := (congrArg (fun z => z.2.2.2.2.2.2.2.2.2.2.2.2.2.2.2.2.2.2.2.2.2.2.2.2.2.2.2.2.2.2.1) h1).trans rfl
    have kx8 : u_d_hirersx = d_hirersF := (congrArg (fun z => z.2.2.2.2.2.2.2.2.2.2.2.2.2.2.2.2.2.2.2.2.2.2.2.2.2.2.2.2.2.2.2.1) h1).trans rfl
    have kx9 : u_d_placesx = d_placesF := (congrArg (fun z => z.2.2.2.2.2.2.2.2.2.2.2.2.2.2.2.2.2.2.2.2.2.2.2.2.2.2.2.2.2.2.2.2.1) h1).trans rfl
    have kx10 : u_d_cameAtx = d_cameAtF := (congrArg (fun z => z.2.2.2.2.2.2.2.2.2.2.2.2.2.2.2.2.2.2.2.2.2.2.2.2.2.2.2.2.2.2.2.2.2.1) h1).trans rfl
    have kx11 : u_d_cookedx = d_cookedF := (congrArg (fun z => z.2.2.2.2.2.2.2.2.2.2.2.2.2.2.2.2.2.2.2.2.2.2.2.2.2.2.2.2.2.2.2.2.2.2.1) h1).trans rfl
    have kx12 : u_pa_2x = pa_size := (congrArg (fun z => z.2.2.2.2.2.2.2.2.2.2.2.2.2.2.2.2.2.2.2.2.2.2.2.2.2.2.2.2.2.2.2.2.2.2.2.2.2.1) h1).trans rfl
    have j0 : u_y_49y = y_done := (congrArg (fun z => z.2.2.2.2.2.2.2.2.2.2.2.2.1) h2).trans rfl
    have j1 : u_y_sy = y_sF := (congrArg (fun z => z.2.2.2.2.2.2.2.2.2.2.2.2.2.2.2.2.2.2.2.2.2.2.2.2.2.2.2.1) h2).trans rfl
    have j2 : u_y_isLaidy = y_isLaidF := (congrArg (fun z => z.2.2.2.2.2.2.2.2.2.2.2.2.2.2.2.2.2.2.2.2.2.2.2.2.2.2.2.2.1) h2).trans rfl
    have j3 : u_y_suppery = sup := (congrArg (fun z => z.2.2.2.2.2.2.2.2.2.2.2.2.2.1) h2).trans rfl
    have j4 : u_y_guestNamey = gn := (congrArg (fun z => z.2.2.2.2.2.2.2.2.2.2.2.2.2.2.1) h2).trans rfl
    have j5 : u_y_kindy = k9 := (congrArg (fun z => z.2.2.2.2.2.2.2.2.2.2.2.2.2.2.2.1) h2).trans rfl
    have j6 : u_y_offToldy = o9 := (congrArg (fun z => z.2.2.2.2.2.2.2.2.2.2.2.2.2.2.2.2.1) h2).trans rfl
    have j7 : u_y_pacey = p9 := (congrArg (fun z => z.2.2.2.2.2.2.2.2.2.2.2.2.2.2.2.2.2.1) h2).trans rfl
    have j8 : u_y_cooksy = c9 := (congrArg (fun z => z.2.2.2.2.2.2.2.2.2.2.2.2.2.2.2.2.2.2.1) h2).trans rfl
    have j9 : u_y_snowy = sn9 := (congrArg (fun z => z.2.2.2.2.2.2.2.2.2.2.2.2.2.2.2.2.2.2.2.1) h2).trans rfl
    refine Or.inl ⟨kx0, kx1, ?_, kx2, kx3, kx4, kx5, kx6, kx7, kx8, kx9, kx10, kx11, kx12, j0, j1, j2⟩
    rw [j3, j4, j5, j6, j7, j8, j9]; exact x5
  | true =>
    obtain ⟨g2, l1, l2⟩ := lays_ (sup := sup) (kk := k9) (oo := o9) (p := p9) (c := c9) (sn := sn9) (lf := lf) (lt := lt9) (codes := codes) (gn := gn)
    obtain ⟨ck9, b1, b2⟩ := begin_ (g := g) (ty := ya) (tp := pa) (y := d_yardsF) (p := d_pacesF) (st := d_stuckF) (hi := d_hirersF) (pl := d_placesF) (ca := d_cameAtF) (ck := d_cookedF)
    have hD := x4 rfl
    have hG : RG g be ya pa := hrg rfl
    obtain ⟨⟨d1, d2, d3, d4⟩, d5, d6, d7, d8, d9, _⟩ := hD
    have s0 : sft sup 4 4 0 = nI g := by rw [sft_lt (by decide)]; exact d2
    obtain ⟨s9, f1, f2, f3⟩ := fresh_ (off := sft o9 6 6) (s := y_sF) d1 s0
    rw [if_pos rfl] at h1 h2
    unfold fX8_beginAnew at h1
    rw [b1, bn12_, bn1_, bn1_, bn1_, bn19_] at h1
    rw [l1, bn10_, f1, bn1_] at h2
    have kx0 : u_x_1x = dr := (congrArg (fun z => z.1) h1).trans rfl
    have kx1 : u_x_2x = t := (congrArg (fun z => z.2.1) h1).trans rfl
    have kx2 : u_dr_7x = g := (congrArg (fun z => z.2.2.2.2.2.2.2.2.2.1) h1).trans rfl
    have kx3 : u_dr_8x = sw := (congrArg (fun z => z.2.2.2.2.2.2.2.2.2.2.1) h1).trans rfl
    have kx4 : u_dr_9x = be := (congrArg (fun z => z.2.2.2.2.2.2.2.2.2.2.2.1) h1).trans rfl
    have kx5 : u_dr_10x = ho := (congrArg (fun z => z.2.2.2.2.2.2.2.2.2.2.2.2.1) h1).trans rfl
    have kx6 : u_dr_kindsx = ki := (congrArg (fun z => z.2.2.2.2.2.2.2.2.2.2.2.2.2.2.2.2.1) h1).trans rfl
    have kx7 : u_dr_yardsx = ya := (congrArg (fun z => z.2.2.2.2.2.2.2.2.2.2.2.2.2.2.2.2.2.1) h1).trans rfl
    have kx8 : u_dr_pacesx = pa := (congrArg (fun z => z.2.2.2.2.2.2.2.2.2.2.2.2.2.2.2.2.2.2.1) h1).trans rfl
    have kx9 : u_dr_skillsx = sk := (congrArg (fun z => z.2.2.2.2.2.2.2.2.2.2.2.2.2.2.2.2.2.2.2.1) h1).trans rfl
    have kx10 : u_dr_snowx = sn := (congrArg (fun z => z.2.2.2.2.2.2.2.2.2.2.2.2.2.2.2.2.2.2.2.2.1) h1).trans rfl
    have kx11 : u_dr_namesx = na := (congrArg (fun z => z.2.2.2.2.2.2.2.2.2.2.2.2.2.2.2.1) h1).trans rfl
    have kx12 : u_d_7x = 0 := (congrArg (fun z => z.2.2.2.2.2.2.2.2.2.2.2.2.2.2.2.2.2.2.2.2.2.2.2.1) h1).trans rfl
    have kx13 : u_d_8x = 0 := (congrArg (fun z => z.2.2.2.2.2.2.2.2.2.2.2.2.2.2.2.2.2.2.2.2.2.2.2.2.1) h1).trans rfl
    have kx14 : u_d_9x = 0 := (congrArg (fun z => z.2.2.2.2.2.2.2.2.2.2.2.2.2.2.2.2.2.2.2.2.2.2.2.2.2.1) h1).trans rfl
    have kx15 : u_d_yardsx = SEQ (ifg g ya) d_yardsF 6 := (congrArg (fun z => z.2.2.2.2.2.2.2.2.2.2.2.2.2.2.2.2.2.2.2.2.2.2.2.2.2.2.2.2.1) h1).trans rfl
    have kx16 : u_d_pacesx = SEQ (ifg g pa) d_pacesF 6 := (congrArg (fun z => z.2.2.2.2.2.2.2.2.2.2.2.2.2.2.2.2.2.2.2.2.2.2.2.2.2.2.2.2.2.1) h1).trans rfl
    have kx17 : u_d_stuckx = SEQ (fun _ => 0) d_stuckF 6 := (congrArg (fun z => z.2.2.2.2.2.2.2.2.2.2.2.2.2.2.2.2.2.2.2.2.2.2.2.2.2.2.2.2.2.2.1) h1).trans rfl
    have kx18 : u_d_hirersx = SEQ (fun _ => -1) d_hirersF 6 := (congrArg (fun z => z.2.2.2.2.2.2.2.2.2.2.2.2.2.2.2.2.2.2.2.2.2.2.2.2.2.2.2.2.2.2.2.1) h1).trans rfl
    have kx19 : u_d_placesx = SEQ (fun _ => -1) d_placesF 6 := (congrArg (fun z => z.2.2.2.2.2.2.2.2.2.2.2.2.2.2.2.2.2.2.2.2.2.2.2.2.2.2.2.2.2.2.2.2.1) h1).trans rfl
    have kx20 : u_d_cameAtx = SEQ (fun _ => -1) d_cameAtF 6 := (congrArg (fun z => z.2.2.2.2.2.2.2.2.2.2.2.2.2.2.2.2.2.2.2.2.2.2.2.2.2.2.2.2.2.2.2.2.2.1) h1).trans rfl
    have kx21 : u_d_cookedx = ck9 := (congrArg (fun z => z.2.2.2.2.2.2.2.2.2.2.2.2.2.2.2.2.2.2.2.2.2.2.2.2.2.2.2.2.2.2.2.2.2.2.1) h1).trans rfl
    have kx22 : u_pa_2x = 0 := (congrArg (fun z => z.2.2.2.2.2.2.2.2.2.2.2.2.2.2.2.2.2.2.2.2.2.2.2.2.2.2.2.2.2.2.2.2.2.2.2.2.2.1) h1).trans rfl
    have j0 : u_y_49y = 0 := (congrArg (fun z => z.2.2.2.2.2.2.2.2.2.2.2.2.1) h2).trans rfl
    have j1 : u_y_sy = s9 := (congrArg (fun z => z.2.2.2.2.2.2.2.2.2.2.2.2.2.2.2.2.2.2.2.2.2.2.2.2.2.2.2.1) h2).trans rfl
    have j2 : u_y_isLaidy = upd (upd (upd (upd y_isLaidF (Int32.toNatClampNeg (nI 0)) (vp_nar .boolean 0)) (Int32.toNatClampNeg (nI 1)) (vp_nar .boolean 0)) (Int32.toNatClampNeg (nI 2)) (vp_nar .boolean 0)) (Int32.toNatClampNeg (nI 3)) (vp_nar .boolean 0) := (congrArg (fun z => z.2.2.2.2.2.2.2.2.2.2.2.2.2.2.2.2.2.2.2.2.2.2.2.2.2.2.2.2.1) h2).trans rfl
    have j3 : u_y_suppery = sft sup 4 4 := (congrArg (fun z => z.2.2.2.2.2.2.2.2.2.2.2.2.2.1) h2).trans rfl
    have j4 : u_y_guestNamey = g2 := (congrArg (fun z => z.2.2.2.2.2.2.2.2.2.2.2.2.2.2.1) h2).trans rfl
    have j5 : u_y_kindy = sft k9 6 6 := (congrArg (fun z => z.2.2.2.2.2.2.2.2.2.2.2.2.2.2.2.1) h2).trans rfl
    have j6 : u_y_offToldy = sft o9 6 6 := (congrArg (fun z => z.2.2.2.2.2.2.2.2.2.2.2.2.2.2.2.2.1) h2).trans rfl
    have j7 : u_y_pacey = sft p9 6 6 := (congrArg (fun z => z.2.2.2.2.2.2.2.2.2.2.2.2.2.2.2.2.2.1) h2).trans rfl
    have j8 : u_y_cooksy = sft c9 6 6 := (congrArg (fun z => z.2.2.2.2.2.2.2.2.2.2.2.2.2.2.2.2.2.2.1) h2).trans rfl
    have j9 : u_y_snowy = sft sn9 12 12 := (congrArg (fun z => z.2.2.2.2.2.2.2.2.2.2.2.2.2.2.2.2.2.2.2.1) h2).trans rfl
    rw [kx2, kx3, kx4, kx5, kx6, kx7, kx8, kx9, kx10, kx11, kx12, kx13, kx14, kx15, kx16, kx17, kx18, kx19, kx20, kx21, kx22, j0, j1, j2, j3, j4, j5, j6, j7, j8, j9]
    have hT1 : TQ g be ki ya pa (sft sup 4 4) (sft k9 6 6) (sft o9 6 6) (sft p9 6 6) := by
      refine ⟨d1, s0, by rw [sft_lt (by decide)]; exact d8, by have := hG.2.1; omega, fun i hi => ?_⟩
      obtain ⟨m1, m2, m3, m4⟩ := d4 i hi
      obtain ⟨n1, n2, n3, n4⟩ := hG.1 i hi
      exact ⟨by rw [sft_lt (by omega)]; exact m1, by rw [sft_lt (by omega)]; exact m2, by rw [sft_lt (by omega)]; exact m3, n1, by omega, n4⟩
    refine Or.inr ⟨kx0, kx1, ⟨hT1, fun i hi => ⟨by rw [sft_lt (by omega)]; exact (d4 i hi).2.2.2, (hG.1 i hi).2.1, (hG.1 i hi).2.2.1⟩, by rw [sft_lt (by decide)]; exact d9, by rw [sft_lt (by decide)]; exact d6, d5, fun i hi => by rw [sft_lt (by omega)]; exact d7 i hi, hG.2.2⟩, fun B => ⟨?_, fun i hi => ?_, fun q hq => ⟨fun z => ?_, fun _ => SEQ_lt (by omega)⟩, ⟨by decide, by rw [show Int32.toInt 0 = 0 by decide]; omega⟩⟩, rfl, rfl, fun q hq => ?_, fun k hk => ?_⟩
    · refine RD_new hT1 f2 (f3 1 (by decide)) (f3 0 (by decide)).symm (f3 3 (by decide)).symm (fun i hi => ?_) (fun q _ b => b2 q b) (fun i hi => ?_)
      · rw [b2 i (by omega), f3 (40 + i) (by omega)]
      · rw [b2 i (by omega), show Int32.toInt 0 = 0 by decide]; omega
    · rw [SEQ_lt hi]
      unfold ifg
      by_cases c : i < g
      · rw [if_pos c]; exact (hG.1 i c).2.1
      · rw [if_neg c]; decide
    · exfalso
      rw [SEQ_lt (by omega)] at z
      unfold ifg at z
      rw [if_pos hq] at z
      have n1 := (hG.1 q hq).1
      rw [z, show Int32.toInt 0 = 0 by decide] at n1
      omega
    · rw [nI_clamp (by decide), nI_clamp (by decide), nI_clamp (by decide), nI_clamp (by decide), show vp_nar .boolean 0 = 0 by decide]
      rcases (show q = 0 ∨ q = 1 ∨ q = 2 ∨ q = 3 by omega) with e | e | e | e <;> subst e
      · rw [upd_n (by decide), upd_n (by decide), upd_n (by decide), upd_e]
      · rw [upd_n (by decide), upd_n (by decide), upd_e]
      · rw [upd_n (by decide), upd_e]
      · rw [upd_e]
    · rw [Nat.zero_add, l2 k (by omega)]
      exact d3 k hk
