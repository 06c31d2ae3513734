/-! how many sights there are -/
set_option maxHeartbeats 4000000 in
theorem see_sz {nf9 : Bool} {mi : Int32} {ya : Int32} {nf : Bool} {z_size : Nat} {z_minutesF : Nat → Int32} {z_yardsF : Nat → Int32} {z_nearF : Nat → Int32} {y_seensF : Nat → Int32} {y_seenInF : Nat → Int32} {y_seenYardsF : Nat → Int32} {y_seenNearF : Nat → Int32} {u_z_3x : Nat} {u_z_minutesx : Nat → Int32} {u_z_yardsx : Nat → Int32} {u_z_nearx : Nat → Int32} {ubx : Bool} {u_y_0y : Int32} {u_y_seensy : Nat → Int32} {u_y_seenIny : Nat → Int32} {u_y_seenYardsy : Nat → Int32} {u_y_seenNeary : Nat → Int32} {uby : Bool} (hz : y_seensF 0 = nI z_size) (h8 : z_size ≤ 8) (h1 : (u_z_3x, u_z_minutesx, u_z_yardsx, u_z_nearx, ubx) = fX8_see mi ya nf z_size z_minutesF z_yardsF z_nearF) (h2 : (u_y_0y, u_y_seensy, u_y_seenIny, u_y_seenYardsy, u_y_seenNeary, uby) = fX9_see mi ya nf9 y_seensF y_seenInF y_seenYardsF y_seenNearF) : ubx = uby ∧ u_y_seensy 0 = nI u_z_3x ∧ ∀ q, ¬ q = 0 → u_y_seensy q = y_seensF q := by
  have e0 : Int32.toNatClampNeg 0 = 0 := by decide
  unfold fX8_see fX5_add fX8_see_J21a at h1
  unfold fX9_see fX9_see_J37a at h2
  rw [bn1_, wi_] at h1
  rw [bn1_, e0] at h2
  by_cases w1 : fX9_within mi 0 60 = true
  · rw [if_pos w1, bn1_, wi_] at h1
    rw [if_pos w1, bn1_] at h2
    by_cases w2 : fX9_within ya 0 300 = true
    · rw [if_pos w2] at h1 h2
      have e8 : (nI z_size = 8) ↔ z_size = 8 := nIk (j := 8) (by omega) (by decide)
      by_cases c8 : z_size = 8
      · rw [if_neg (by omega), bn5_] at h1
        rw [if_pos (by rw [hz]; exact e8.mpr c8)] at h2
        have k1 : ubx = false := congrArg (fun z => z.2.2.2.2) h1
        have k2 : u_z_3x = z_size := congrArg (fun z => z.1) h1
        have k3 : uby = false := congrArg (fun z => z.2.2.2.2.2) h2
        have k4 : u_y_seensy = y_seensF := congrArg (fun z => z.2.1) h2
        exact ⟨k1.trans k3.symm, by rw [k4, k2]; exact hz, fun q _ => by rw [k4]⟩
      · rw [if_pos (by omega), bn5_] at h1
        rw [if_neg (by rw [hz]; exact fun y => c8 (e8.mp y))] at h2
        have k1 : ubx = true := congrArg (fun z => z.2.2.2.2) h1
        have k2 : u_z_3x = z_size + 1 := congrArg (fun z => z.1) h1
        have k3 : uby = true := congrArg (fun z => z.2.2.2.2.2) h2
        have k4 : u_y_seensy = upd y_seensF 0 (y_seensF 0 + 1) := congrArg (fun z => z.2.1) h2
        exact ⟨k1.trans k3.symm, by rw [k4, k2, upd_e, hz]; exact nI_add z_size 1, fun q hq => by rw [k4, upd_n hq]⟩
    · rw [if_neg w2] at h1 h2
      have k1 : ubx = false := congrArg (fun z => z.2.2.2.2) h1
      have k2 : u_z_3x = z_size := congrArg (fun z => z.1) h1
      have k3 : uby = false := congrArg (fun z => z.2.2.2.2.2) h2
      have k4 : u_y_seensy = y_seensF := congrArg (fun z => z.2.1) h2
      exact ⟨k1.trans k3.symm, by rw [k4, k2]; exact hz, fun q _ => by rw [k4]⟩
  · rw [if_neg w1] at h1 h2
    have k1 : ubx = false := congrArg (fun z => z.2.2.2.2) h1
    have k2 : u_z_3x = z_size := congrArg (fun z => z.1) h1
    have k3 : uby = false := congrArg (fun z => z.2.2.2.2.2) h2
    have k4 : u_y_seensy = y_seensF := congrArg (fun z => z.2.1) h2
    exact ⟨k1.trans k3.symm, by rw [k4, k2]; exact hz, fun q _ => by rw [k4]⟩
set_option maxHeartbeats 4000000 in
theorem sup_sz {t : Nat} {dr : Nat} {ta_length : Nat} {ta_letters : Int64} {ta_signsF : Nat → Int32} {ta_wordsF : Nat → Int64} {dr_namesF : Nat → Int64} {dr_kindsF : Nat → Int32} {dr_yardsF : Nat → Int32} {dr_pacesF : Nat → Int32} {dr_skillsF : Nat → Int32} {dr_snowF : Nat → Int32} {drw_codeF : Nat → Int32} {d_inside : Int32} {d_night : Int32} {d_minute : Int32} {d_tasted : Int32} {d_lastCook : Int32} {d_yardsF : Nat → Int32} {d_pacesF : Nat → Int32} {d_stuckF : Nat → Int32} {d_hirersF : Nat → Int32} {d_placesF : Nat → Int32} {d_cameAtF : Nat → Int32} {d_cookedF : Nat → Int32} {n_size : Nat} {z_size : Nat} {pa_size : Nat} {m0_laid : Bool} {m1_laid : Bool} {m2_laid : Bool} {m3_laid : Bool} {f : Nat → Int32} {y_taped : Nat} {y_wrong : Int32} {y_given : Int32} {y_done : Nat} {y_tapeF : Nat → Int32} {y_supperF : Nat → Int32} {y_guestNameF : Nat → Int64} {y_kindF : Nat → Int32} {y_offToldF : Nat → Int32} {y_paceF : Nat → Int32} {y_cooksF : Nat → Int32} {y_snowF : Nat → Int32} {y_lineFromF : Nat → Int32} {y_lineToF : Nat → Int32} {y_codesF : Nat → Int32} {y_openedF : Nat → Int32} {y_comparedF : Nat → Int32} {y_linesF : Nat → Int32} {y_seensF : Nat → Int32} {y_sF : Nat → Int32} {y_isLaidF : Nat → Int32} {u_x_1x : Nat} {u_x_2x : Nat} {u_ta_2x : Nat} {u_ta_3x : Nat} {u_ta_4x : Int32} {u_ta_5x : Int32} {u_ta_6x : Int32} {u_ta_7x : Int64} {u_ta_8x : Int32} {u_dr_7x : Nat} {u_dr_8x : Nat} {u_dr_9x : Int32} {u_dr_10x : Int32} {u_dr_11x : Bool} {u_dr_12x : Bool} {u_dr_namesx : Nat → Int64} {u_dr_kindsx : Nat → Int32} {u_dr_yardsx : Nat → Int32} {u_dr_pacesx : Nat → Int32} {u_dr_skillsx : Nat → Int32} {u_dr_snowx : Nat → Int32} {u_drw_3x : Nat} {u_drw_codex : Nat → Int32} {u_d_7x : Int32} {u_d_8x : Int32} {u_d_9x : Int32} {u_d_10x : Int32} {u_d_11x : Int32} {u_d_yardsx : Nat → Int32} {u_d_pacesx : Nat → Int32} {u_d_stuckx : Nat → Int32} {u_d_hirersx : Nat → Int32} {u_d_placesx : Nat → Int32} {u_d_cameAtx : Nat → Int32} {u_d_cookedx : Nat → Int32} {u_n_3x : Nat} {u_z_3x : Nat} {u_pa_2x : Nat} {u_m0_3x : Bool} {u_m1_3x : Bool} {u_m2_3x : Bool} {u_m3_3x : Bool} {rrx : Int32} {u_y_0y : Int32} {u_y_1y : Nat} {u_y_3y : Nat} {u_y_4y : Nat} {u_y_5y : Nat} {u_y_6y : Nat} {u_y_7y : Int64} {u_y_8y : Int32} {u_y_9y : Int32} {u_y_20y : Nat} {u_y_21y : Int32} {u_y_34y : Int32} {u_y_49y : Nat} {u_y_suppery : Nat → Int32} {u_y_guestNamey : Nat → Int64} {u_y_kindy : Nat → Int32} {u_y_offToldy : Nat → Int32} {u_y_pacey : Nat → Int32} {u_y_cooksy : Nat → Int32} {u_y_snowy : Nat → Int32} {u_y_lineFromy : Nat → Int32} {u_y_lineToy : Nat → Int32} {u_y_codesy : Nat → Int32} {u_y_openedy : Nat → Int32} {u_y_comparedy : Nat → Int32} {u_y_linesy : Nat → Int32} {u_y_seensy : Nat → Int32} {u_y_sy : Nat → Int32} {u_y_isLaidy : Nat → Int32} {rry : Int32} (hn : ta_length ≤ 1000) (e1 : ta_length = y_taped) (e2 : ta_signsF = y_tapeF) (hs : SR ta_signsF) (hw : WT ta_wordsF) (hF : FT f) (h1 : (u_x_1x, u_x_2x, u_ta_2x, u_ta_3x, u_ta_4x, u_ta_5x, u_ta_6x, u_ta_7x, u_ta_8x, u_dr_7x, u_dr_8x, u_dr_9x, u_dr_10x, u_dr_11x, u_dr_12x, u_dr_namesx, u_dr_kindsx, u_dr_yardsx, u_dr_pacesx, u_dr_skillsx, u_dr_snowx, u_drw_3x, u_drw_codex, u_d_7x, u_d_8x, u_d_9x, u_d_10x, u_d_11x, u_d_yardsx, u_d_pacesx, u_d_stuckx, u_d_hirersx, u_d_placesx, u_d_cameAtx, u_d_cookedx, u_n_3x, u_z_3x, u_pa_2x, u_m0_3x, u_m1_3x, u_m2_3x, u_m3_3x, rrx) = fX8_supper t dr ta_length ta_letters ta_signsF ta_wordsF dr_namesF dr_kindsF dr_yardsF dr_pacesF dr_skillsF dr_snowF drw_codeF d_inside d_night d_minute d_tasted d_lastCook d_yardsF d_pacesF d_stuckF d_hirersF d_placesF d_cameAtF d_cookedF n_size z_size pa_size m0_laid m1_laid m2_laid m3_laid f) (h2 : (u_y_0y, u_y_1y, u_y_3y, u_y_4y, u_y_5y, u_y_6y, u_y_7y, u_y_8y, u_y_9y, u_y_20y, u_y_21y, u_y_34y, u_y_49y, u_y_suppery, u_y_guestNamey, u_y_kindy, u_y_offToldy, u_y_pacey, u_y_cooksy, u_y_snowy, u_y_lineFromy, u_y_lineToy, u_y_codesy, u_y_openedy, u_y_comparedy, u_y_linesy, u_y_seensy, u_y_sy, u_y_isLaidy, rry) = fX9_supper y_taped y_wrong y_given y_done y_tapeF y_supperF y_guestNameF y_kindF y_offToldF y_paceF y_cooksF y_snowF y_lineFromF y_lineToF y_codesF y_openedF y_comparedF y_linesF y_seensF y_sF y_isLaidF) (hz : y_seensF 0 = nI z_size) : u_y_seensy 0 = nI u_z_3x ∧ ∀ q, ¬ q = 0 → u_y_seensy q = y_seensF q := by
  subst e1
  subst e2
  obtain ⟨a1, a2, a3, a4, a5, g, sw, be, ho, bT, hT, na, ki, ya, pa, sk, sn, ll, lc, nx, pl, kd, vl, lt, fa, ok, p, bg, tk, wo, to, wr, code, tl, gi, sup, gn, k9, o9, p9, c9, sn9, lf, lt9, codes, op, cm, r0, r1, r2, x3, x4⟩ := sup_two (n := ta_length) (s := ta_signsF) (ta_letters := ta_letters) (ta_wordsF := ta_wordsF) (dr_namesF := dr_namesF) (dr_kindsF := dr_kindsF) (dr_yardsF := dr_yardsF) (dr_pacesF := dr_pacesF) (dr_skillsF := dr_skillsF) (dr_snowF := dr_snowF) (drw_codeF := drw_codeF) (f := f) (y_wrong := y_wrong) (y_given := y_given) (y_supperF := y_supperF) (y_guestNameF := y_guestNameF) (y_kindF := y_kindF) (y_offToldF := y_offToldF) (y_paceF := y_paceF) (y_cooksF := y_cooksF) (y_snowF := y_snowF) (y_lineFromF := y_lineFromF) (y_lineToF := y_lineToF) (y_codesF := y_codesF) (y_openedF := y_openedF) (y_comparedF := y_comparedF) hn hw (SG_of hF hs)
  unfold fX8_supper at h1
  unfold fX9_supper at h2
  rw [r0, bn6_, r1, bn21_, bn1_] at h1
  rw [r2, bn24_] at h2
  have e0 : Int32.toNatClampNeg 0 = 0 := by decide
  cases ok with
  | false =>
    rw [if_neg (by decide)] at h1 h2
    have k0 : u_z_3x = z_size := congrArg (fun z => z.2.2.2.2.2.2.2.2.2.2.2.2.2.2.2.2.2.2.2.2.2.2.2.2.2.2.2.2.2.2.2.2.2.2.2.2.1) h1
    have k4 : u_y_seensy = y_seensF := congrArg (fun z => z.2.2.2.2.2.2.2.2.2.2.2.2.2.2.2.2.2.2.2.2.2.2.2.2.2.2.1) h2
    rw [k0, k4]; exact ⟨hz, fun _ _ => rfl⟩
  | true =>
    rw [if_pos rfl] at h1 h2
    have k0 : u_z_3x = 0 := (congrArg (fun z => z.2.2.2.2.2.2.2.2.2.2.2.2.2.2.2.2.2.2.2.2.2.2.2.2.2.2.2.2.2.2.2.2.2.2.2.2.1) h1).trans rfl
    have k4 : u_y_seensy = upd y_seensF (Int32.toNatClampNeg 0) 0 := (congrArg (fun z => z.2.2.2.2.2.2.2.2.2.2.2.2.2.2.2.2.2.2.2.2.2.2.2.2.2.2.1) h2).trans rfl
    rw [k0, k4, e0]
    exact ⟨by rw [upd_e]; decide, fun q hq => upd_n hq⟩
theorem seen_1 {a b : Nat} {f g h i : Nat → Int32} : (fX9_laysSeen a b f g h i).1 = upd f (Int32.toNatClampNeg (nI b)) (f (Int32.toNatClampNeg (nI a))) := rfl
set_option maxHeartbeats 4000000 in
theorem mk_sz {ba9 : Bool} {mk : Int32} {ba : Bool} {ma_laid : Bool} {mar_inside : Int32} {mar_night : Int32} {mar_minute : Int32} {mar_tasted : Int32} {mar_lastCook : Int32} {mar_yardsF : Nat → Int32} {mar_pacesF : Nat → Int32} {mar_stuckF : Nat → Int32} {mar_hirersF : Nat → Int32} {mar_placesF : Nat → Int32} {mar_cameAtF : Nat → Int32} {mar_cookedF : Nat → Int32} {mal_size : Nat} {mal_deedsF : Nat → Int32} {mal_guestsF : Nat → Int32} {mal_wholesF : Nat → Int32} {maz_size : Nat} {maz_minutesF : Nat → Int32} {maz_yardsF : Nat → Int32} {maz_nearF : Nat → Int32} {d_inside : Int32} {d_night : Int32} {d_minute : Int32} {d_tasted : Int32} {d_lastCook : Int32} {d_yardsF : Nat → Int32} {d_pacesF : Nat → Int32} {d_stuckF : Nat → Int32} {d_hirersF : Nat → Int32} {d_placesF : Nat → Int32} {d_cameAtF : Nat → Int32} {d_cookedF : Nat → Int32} {n_size : Nat} {n_deedsF : Nat → Int32} {n_guestsF : Nat → Int32} {n_wholesF : Nat → Int32} {z_size : Nat} {z_minutesF : Nat → Int32} {z_yardsF : Nat → Int32} {z_nearF : Nat → Int32} {pa_size : Nat} {y_done : Nat} {y_linesF : Nat → Int32} {y_lineWhatF : Nat → Int32} {y_lineAF : Nat → Int32} {y_lineBF : Nat → Int32} {y_seensF : Nat → Int32} {y_seenInF : Nat → Int32} {y_seenYardsF : Nat → Int32} {y_seenNearF : Nat → Int32} {y_sF : Nat → Int32} {y_markedF : Nat → Int32} {y_isLaidF : Nat → Int32} {u_ma_3x : Bool} {u_mar_7x : Int32} {u_mar_8x : Int32} {u_mar_9x : Int32} {u_mar_10x : Int32} {u_mar_11x : Int32} {u_mar_yardsx : Nat → Int32} {u_mar_pacesx : Nat → Int32} {u_mar_stuckx : Nat → Int32} {u_mar_hirersx : Nat → Int32} {u_mar_placesx : Nat → Int32} {u_mar_cameAtx : Nat → Int32} {u_mar_cookedx : Nat → Int32} {u_mal_3x : Nat} {u_mal_deedsx : Nat → Int32} {u_mal_guestsx : Nat → Int32} {u_mal_wholesx : Nat → Int32} {u_maz_3x : Nat} {u_maz_minutesx : Nat → Int32} {u_maz_yardsx : Nat → Int32} {u_maz_nearx : Nat → Int32} {u_d_7x : Int32} {u_d_8x : Int32} {u_d_9x : Int32} {u_d_10x : Int32} {u_d_11x : Int32} {u_d_yardsx : Nat → Int32} {u_d_pacesx : Nat → Int32} {u_d_stuckx : Nat → Int32} {u_d_hirersx : Nat → Int32} {u_d_placesx : Nat → Int32} {u_d_cameAtx : Nat → Int32} {u_d_cookedx : Nat → Int32} {u_n_3x : Nat} {u_n_deedsx : Nat → Int32} {u_n_guestsx : Nat → Int32} {u_n_wholesx : Nat → Int32} {u_z_3x : Nat} {u_z_minutesx : Nat → Int32} {u_z_yardsx : Nat → Int32} {u_z_nearx : Nat → Int32} {u_pa_2x : Nat} {ubx : Bool} {u_y_0y : Int32} {u_y_49y : Nat} {u_y_linesy : Nat → Int32} {u_y_lineWhaty : Nat → Int32} {u_y_lineAy : Nat → Int32} {u_y_lineBy : Nat → Int32} {u_y_seensy : Nat → Int32} {u_y_seenIny : Nat → Int32} {u_y_seenYardsy : Nat → Int32} {u_y_seenNeary : Nat → Int32} {u_y_sy : Nat → Int32} {u_y_markedy : Nat → Int32} {u_y_isLaidy : Nat → Int32} {uby : Bool} (hb : ba = ba9) (hl : 0 ≤ Int32.toInt mk → Int32.toInt mk ≤ 3 → y_isLaidF (Int32.toNatClampNeg mk) = bB ma_laid) (hz : y_seensF 0 = nI z_size) (hm : 0 ≤ Int32.toInt mk → Int32.toInt mk ≤ 3 → y_seensF (1 + Int32.toNatClampNeg mk) = nI maz_size) (h1 : (u_ma_3x, u_mar_7x, u_mar_8x, u_mar_9x, u_mar_10x, u_mar_11x, u_mar_yardsx, u_mar_pacesx, u_mar_stuckx, u_mar_hirersx, u_mar_placesx, u_mar_cameAtx, u_mar_cookedx, u_mal_3x, u_mal_deedsx, u_mal_guestsx, u_mal_wholesx, u_maz_3x, u_maz_minutesx, u_maz_yardsx, u_maz_nearx, u_d_7x, u_d_8x, u_d_9x, u_d_10x, u_d_11x, u_d_yardsx, u_d_pacesx, u_d_stuckx, u_d_hirersx, u_d_placesx, u_d_cameAtx, u_d_cookedx, u_n_3x, u_n_deedsx, u_n_guestsx, u_n_wholesx, u_z_3x, u_z_minutesx, u_z_yardsx, u_z_nearx, u_pa_2x, ubx) = fX8_mark mk ba ma_laid mar_inside mar_night mar_minute mar_tasted mar_lastCook mar_yardsF mar_pacesF mar_stuckF mar_hirersF mar_placesF mar_cameAtF mar_cookedF mal_size mal_deedsF mal_guestsF mal_wholesF maz_size maz_minutesF maz_yardsF maz_nearF d_inside d_night d_minute d_tasted d_lastCook d_yardsF d_pacesF d_stuckF d_hirersF d_placesF d_cameAtF d_cookedF n_size n_deedsF n_guestsF n_wholesF z_size z_minutesF z_yardsF z_nearF pa_size) (h2 : (u_y_0y, u_y_49y, u_y_linesy, u_y_lineWhaty, u_y_lineAy, u_y_lineBy, u_y_seensy, u_y_seenIny, u_y_seenYardsy, u_y_seenNeary, u_y_sy, u_y_markedy, u_y_isLaidy, uby) = fX9_mark mk ba9 y_done y_linesF y_lineWhatF y_lineAF y_lineBF y_seensF y_seenInF y_seenYardsF y_seenNearF y_sF y_markedF y_isLaidF) : u_y_seensy 0 = nI u_z_3x ∧ (0 ≤ Int32.toInt mk → Int32.toInt mk ≤ 3 → u_y_seensy (1 + Int32.toNatClampNeg mk) = nI u_maz_3x) ∧ (∀ q, ¬ q = 0 → ¬ q = 1 + Int32.toNatClampNeg mk → u_y_seensy q = y_seensF q) ∧ (¬ (0 ≤ Int32.toInt mk ∧ Int32.toInt mk ≤ 3) → u_y_seensy = y_seensF ∧ u_maz_3x = maz_size) := by
  subst hb
  unfold fX8_mark at h1
  unfold fX9_mark fX9_mark_J29a fX9_mark_J27a fX9_mark_J119a fX9_mark_J119b at h2
  rw [bn1_] at h1 h2
  rw [wi_] at h1
  by_cases hw : fX9_within mk 0 3 = true
  · have hr := wi_t.mp hw
    have e0 : Int32.toInt 0 = 0 := by decide
    have e3 : Int32.toInt 3 = 3 := by decide
    rw [e0, e3] at hr
    have hl := hl hr.1 hr.2
    have hm := hm hr.1 hr.2
    obtain ⟨N, hN, hNe⟩ : ∃ N : Nat, N ≤ 3 ∧ mk = nI N := ⟨(Int32.toInt mk).toNat, by omega, Int32.toInt_inj.mp (by rw [nI_toInt (by omega)]; omega)⟩
    have ec : Int32.toNatClampNeg mk = N := by rw [hNe, nI_clamp (by omega)]
    have f0 : Int32.toNatClampNeg (nI 0) = 0 := by decide
    have f1 : Int32.toNatClampNeg (nI (1 + N)) = 1 + N := nI_clamp (by omega)
    rw [ec] at hm h2 ⊢
    rw [if_pos hw] at h1 h2
    cases ba with
    | true =>
      rw [if_pos rfl] at h1 h2
      cases hm9 : ma_laid with
      | true =>
        rw [hm9] at h1 hl
        rw [ec] at hl
        rw [if_pos rfl] at h1
        rw [if_neg (by rw [hl]; decide), bn1_, if_pos rfl, if_pos rfl] at h2
        have k1 : u_z_3x = maz_size := congrArg (fun z => z.2.2.2.2.2.2.2.2.2.2.2.2.2.2.2.2.2.2.2.2.2.2.2.2.2.2.2.2.2.2.2.2.2.2.2.2.2.1) h1
        have k2 : u_maz_3x = maz_size := congrArg (fun z => z.2.2.2.2.2.2.2.2.2.2.2.2.2.2.2.2.2.1) h1
        have k4 : u_y_seensy = upd y_seensF (Int32.toNatClampNeg (nI 0)) (y_seensF (Int32.toNatClampNeg (nI (1 + N)))) := (congrArg (fun z => z.2.2.2.2.2.2.1) h2).trans (seen_1 (g := y_seenInF) (h := y_seenYardsF) (i := y_seenNearF))
        rw [k1, k2, k4, f0, f1]
        exact ⟨by rw [upd_e]; exact hm, fun _ _ => by rw [upd_n (by omega)]; exact hm, fun q hq _ => upd_n hq, fun z => absurd hr z⟩
      | false =>
        rw [hm9] at h1 hl
        rw [ec] at hl
        rw [if_neg (by decide)] at h1
        rw [if_pos (by rw [hl]; rfl)] at h2
        have k1 : u_z_3x = z_size := congrArg (fun z => z.2.2.2.2.2.2.2.2.2.2.2.2.2.2.2.2.2.2.2.2.2.2.2.2.2.2.2.2.2.2.2.2.2.2.2.2.2.1) h1
        have k2 : u_maz_3x = maz_size := congrArg (fun z => z.2.2.2.2.2.2.2.2.2.2.2.2.2.2.2.2.2.1) h1
        have k4 : u_y_seensy = y_seensF := (congrArg (fun z => z.2.2.2.2.2.2.1) h2).trans rfl
        rw [k1, k2, k4]
        exact ⟨hz, fun _ _ => hm, fun q _ _ => rfl, fun z => absurd hr z⟩
    | false =>
      rw [if_neg (by decide)] at h1 h2
      rw [bn1_, if_neg (by decide), if_neg (by decide)] at h2
      have k1 : u_z_3x = z_size := congrArg (fun z => z.2.2.2.2.2.2.2.2.2.2.2.2.2.2.2.2.2.2.2.2.2.2.2.2.2.2.2.2.2.2.2.2.2.2.2.2.2.1) h1
      have k2 : u_maz_3x = z_size := congrArg (fun z => z.2.2.2.2.2.2.2.2.2.2.2.2.2.2.2.2.2.1) h1
      have k4 : u_y_seensy = upd y_seensF (Int32.toNatClampNeg (nI (1 + N))) (y_seensF (Int32.toNatClampNeg (nI 0))) := (congrArg (fun z => z.2.2.2.2.2.2.1) h2).trans (seen_1 (g := y_seenInF) (h := y_seenYardsF) (i := y_seenNearF))
      rw [k1, k2, k4, f0, f1]
      exact ⟨by rw [upd_n (by omega)]; exact hz, fun _ _ => by rw [upd_e]; exact hz, fun q _ hq => upd_n hq, fun z => absurd hr z⟩
  · have hr : ¬ (0 ≤ Int32.toInt mk ∧ Int32.toInt mk ≤ 3) := fun z => hw (wi_t.mpr z)
    rw [if_neg hw] at h1 h2
    have k1 : u_z_3x = z_size := congrArg (fun z => z.2.2.2.2.2.2.2.2.2.2.2.2.2.2.2.2.2.2.2.2.2.2.2.2.2.2.2.2.2.2.2.2.2.2.2.2.2.1) h1
    have k2 : u_maz_3x = maz_size := congrArg (fun z => z.2.2.2.2.2.2.2.2.2.2.2.2.2.2.2.2.2.1) h1
    have k4 : u_y_seensy = y_seensF := (congrArg (fun z => z.2.2.2.2.2.2.1) h2).trans rfl
    rw [k1, k2, k4]
    exact ⟨hz, fun a b => absurd ⟨a, b⟩ hr, fun q _ _ => rfl, fun _ => ⟨rfl, rfl⟩⟩
