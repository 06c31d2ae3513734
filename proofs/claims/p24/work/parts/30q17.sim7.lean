/-! supper: what the reading gives in both -/
set_option maxHeartbeats 4000000 in
theorem sup_two {n : Nat} {s : Nat → Int32} {ta_letters : Int64} {ta_wordsF : Nat → Int64} {dr_namesF : Nat → Int64} {dr_kindsF : Nat → Int32} {dr_yardsF : Nat → Int32} {dr_pacesF : Nat → Int32} {dr_skillsF : Nat → Int32} {dr_snowF : Nat → Int32} {drw_codeF : Nat → Int32} {f : Nat → Int32} {y_wrong : Int32} {y_given : Int32} {y_supperF : Nat → Int32} {y_guestNameF : Nat → Int64} {y_kindF : Nat → Int32} {y_offToldF : Nat → Int32} {y_paceF : Nat → Int32} {y_cooksF : Nat → Int32} {y_snowF : Nat → Int32} {y_lineFromF : Nat → Int32} {y_lineToF : Nat → Int32} {y_codesF : Nat → Int32} {y_openedF : Nat → Int32} {y_comparedF : Nat → Int32} (hn : n ≤ 1000) (hw : WT ta_wordsF) (hf : SG f s) : ∃ a1 a2 a3 a4 a5 g sw be ho bT hT na ki ya pa sk sn ll lc nx pl kd vl lt fa ok p bg tk wo to wr code tl gi sup gn k9 o9 p9 c9 sn9 lf lt9 codes op cm, fX6_rewind n ta_letters s ta_wordsF f = (a1, a2, a3, a4, a5, 0) ∧ fX7_read dr_namesF dr_kindsF dr_yardsF dr_pacesF dr_skillsF dr_snowF drw_codeF n a1 a2 a3 a4 a5 0 s ta_wordsF f = (g, sw, be, ho, bT, hT, na, ki, ya, pa, sk, sn, ll, lc, nx, pl, kd, vl, lt, fa, ok) ∧ fX9_readsAll n y_wrong y_given s y_supperF y_guestNameF y_kindF y_offToldF y_paceF y_cooksF y_snowF y_lineFromF y_lineToF y_codesF y_openedF y_comparedF = (0, n, p, bg, tk, wo, to, wr, code, tl, gi, sup, gn, k9, o9, p9, c9, sn9, lf, lt9, codes, op, cm, ok) ∧ (ok = false → fa = wr) ∧ (ok = true → DR g na ki ya pa sk sw sn be ho bT hT ll sup gn k9 o9 p9 c9 sn9 lf lt9 tl) := by
  obtain ⟨a1, a2, a3, a4, a5, e1, h1⟩ := advance_ (L := ta_letters) (s := s) (nx := 0) hn (Nat.zero_le n) hw hf
  obtain ⟨c1, c2, c3, c4, c5, e2, h2⟩ := next_ (s := s) (p := 0) hn (Nat.zero_le n)
  have hT : TT s n (tB s n 0) a1 a2 a3 a4 a5 c1 c2 c3 c4 c5 := ⟨h1, h2⟩
  have e4 : Int32.toNatClampNeg 4 = 4 := by decide
  have e5 : Int32.toNatClampNeg 5 = 5 := by decide
  have e6 : Int32.toNatClampNeg 6 = 6 := by decide
  have e7 : Int32.toNatClampNeg 7 = 7 := by decide
  have e1_ : Int32.toNatClampNeg 1 = 1 := by decide
  have hD : DR 0 dr_namesF dr_kindsF dr_yardsF dr_pacesF dr_skillsF 0 dr_snowF 10 30 false false 0 (upd (upd (upd (upd y_supperF 4 0) 5 10) 6 30) 7 0) y_guestNameF y_kindF y_offToldF y_paceF y_cooksF y_snowF (upd y_lineFromF 1 1000) (upd y_lineToF 1 1000) 0 := by
    refine ⟨⟨by decide, ?_, fun k hk => absurd hk (Nat.not_lt_zero _), fun k hk => absurd hk (Nat.not_lt_zero _)⟩, by decide, ?_, fun k hk => absurd hk (Nat.not_lt_zero _), ?_, ?_, by decide, ?_⟩
    · rw [upd_n (by decide), upd_n (by decide), upd_n (by decide), upd_e]; decide
    · rw [upd_e]; decide
    · rw [upd_n (by decide), upd_n (by decide), upd_e]
    · rw [upd_n (by decide), upd_e]
    · rw [upd_e, upd_e]; exact ⟨fun _ => by decide, fun _ => rfl⟩
  have hbg : c2 = tB s n 0 := h2.2.2.1
  obtain ⟨g, sw, be, ho, bT, hT', na, ki, ya, pa, sk, sn, ll, lc, nx, pl, kd, vl, lt, fa, ok, p, bg, tk, wo, to, wr, code, tl, gi, sup, gn, k9, o9, p9, c9, sn9, lf, lt9, codes, op, cm, x1, x2, x3, x4⟩ := rd_all hn hw hf ((1000 + 1 - 0) + 1) ((n + 1 - c2) + 1) (fun _ _ _ _ _ _ _ _ _ _ _ _ _ _ _ _ _ _ _ _ _ _ => (0, 0, (0 : Int32), (0 : Int32), false, false, (fun _ => 0), (fun _ => 0), (fun _ => 0), (fun _ => 0), (fun _ => 0), (fun _ => 0), 0, (fun _ => 0), 0, (0 : Int32), (0 : Int32), (0 : Int32), (0 : Int64), (0 : Int32), false)) (fun _ _ _ _ _ _ _ _ _ _ _ _ _ _ _ _ _ _ _ _ _ => (0, 0, 0, 0, 0, (0 : Int64), (0 : Int32), (0 : Int32), 0, (0 : Int32), (0 : Int32), (fun _ => 0), (fun _ => 0), (fun _ => 0), (fun _ => 0), (fun _ => 0), (fun _ => 0), (fun _ => 0), (fun _ => 0), (fun _ => 0), (fun _ => 0), (fun _ => 0), (fun _ => 0), false)) 0 (tB s n 0) drw_codeF a1 a2 a3 a4 a5 0 c1 c2 c3 c4 c5 y_wrong 1000 y_given y_codesF y_openedF y_comparedF _ _ _ _ _ _ _ _ _ _ _ _ _ _ _ _ _ _ _ _ _ _ _ (by omega) (by rw [hbg]; omega) (Nat.zero_le _) hT hD (by decide) (by omega)
  have r1 : fX7_read dr_namesF dr_kindsF dr_yardsF dr_pacesF dr_skillsF dr_snowF drw_codeF n a1 a2 a3 a4 a5 0 s ta_wordsF f = (g, sw, be, ho, bT, hT', na, ki, ya, pa, sk, sn, ll, lc, nx, pl, kd, vl, lt, fa, ok) := by
    unfold fX7_read fX7_clear fX0_clear
    rw [bn1_, bn7_]; exact x1
  have r2 : fX9_readsAll n y_wrong y_given s y_supperF y_guestNameF y_kindF y_offToldF y_paceF y_cooksF y_snowF y_lineFromF y_lineToF y_codesF y_openedF y_comparedF = (0, n, p, bg, tk, wo, to, wr, code, tl, gi, sup, gn, k9, o9, p9, c9, sn9, lf, lt9, codes, op, cm, ok) := by
    unfold fX9_readsAll fX9_begins fX9_usual1
    rw [e2, bn1_, bn5_, bn7_, e4, e5, e6, e7, e1_]; exact x2
  refine ⟨a1, a2, a3, a4, a5, g, sw, be, ho, bT, hT', na, ki, ya, pa, sk, sn, ll, lc, nx, pl, kd, vl, lt, fa, ok, p, bg, tk, wo, to, wr, code, tl, gi, sup, gn, k9, o9, p9, c9, sn9, lf, lt9, codes, op, cm, ?_, r1, r2, x3, x4⟩
  unfold fX6_rewind
  rw [e1, bn5_]
def LD (a b c d : Bool) (f : Nat → Int32) : Prop := f 0 = bB a ∧ f 1 = bB b ∧ f 2 = bB c ∧ f 3 = bB d
set_option maxHeartbeats 4000000 in
theorem sup_ld {t : Nat} {dr : Nat} {ta_length : Nat} {ta_letters : Int64} {ta_signsF : Nat → Int32} {ta_wordsF : Nat → Int64} {dr_namesF : Nat → Int64} {dr_kindsF : Nat → Int32} {dr_yardsF : Nat → Int32} {dr_pacesF : Nat → Int32} {dr_skillsF : Nat → Int32} {dr_snowF : Nat → Int32} {drw_codeF : Nat → Int32} {d_inside : Int32} {d_night : Int32} {d_minute : Int32} {d_tasted : Int32} {d_lastCook : Int32} {d_yardsF : Nat → Int32} {d_pacesF : Nat → Int32} {d_stuckF : Nat → Int32} {d_hirersF : Nat → Int32} {d_placesF : Nat → Int32} {d_cameAtF : Nat → Int32} {d_cookedF : Nat → Int32} {n_size : Nat} {z_size : Nat} {pa_size : Nat} {m0_laid : Bool} {m1_laid : Bool} {m2_laid : Bool} {m3_laid : Bool} {f : Nat → Int32} {y_taped : Nat} {y_wrong : Int32} {y_given : Int32} {y_done : Nat} {y_tapeF : Nat → Int32} {y_supperF : Nat → Int32} {y_guestNameF : Nat → Int64} {y_kindF : Nat → Int32} {y_offToldF : Nat → Int32} {y_paceF : Nat → Int32} {y_cooksF : Nat → Int32} {y_snowF : Nat → Int32} {y_lineFromF : Nat → Int32} {y_lineToF : Nat → Int32} {y_codesF : Nat → Int32} {y_openedF : Nat → Int32} {y_comparedF : Nat → Int32} {y_linesF : Nat → Int32} {y_seensF : Nat → Int32} {y_sF : Nat → Int32} {y_isLaidF : Nat → Int32} {u_x_1x : Nat} {u_x_2x : Nat} {u_ta_2x : Nat} {u_ta_3x : Nat} {u_ta_4x : Int32} {u_ta_5x : Int32} {u_ta_6x : Int32} {u_ta_7x : Int64} {u_ta_8x : Int32} {u_dr_7x : Nat} {u_dr_8x : Nat} {u_dr_9x : Int32} {u_dr_10x : Int32} {u_dr_11x : Bool} {u_dr_12x : Bool} {u_dr_namesx : Nat → Int64} {u_dr_kindsx : Nat → Int32} {u_dr_yardsx : Nat → Int32} {u_dr_pacesx : Nat → Int32} {u_dr_skillsx : Nat → Int32} {u_dr_snowx : Nat → Int32} {u_drw_3x : Nat} {u_drw_codex : Nat → Int32} {u_d_7x : Int32} {u_d_8x : Int32} {u_d_9x : Int32} {u_d_10x : Int32} {u_d_11x : Int32} {u_d_yardsx : Nat → Int32} {u_d_pacesx : Nat → Int32} {u_d_stuckx : Nat → Int32} {u_d_hirersx : Nat → Int32} {u_d_placesx : Nat → Int32} {u_d_cameAtx : Nat → Int32} {u_d_cookedx : Nat → Int32} {u_n_3x : Nat} {u_z_3x : Nat} {u_pa_2x : Nat} {u_m0_3x : Bool} {u_m1_3x : Bool} {u_m2_3x : Bool} {u_m3_3x : Bool} {rrx : Int32} {u_y_0y : Int32} {u_y_1y : Nat} {u_y_3y : Nat} {u_y_4y : Nat} {u_y_5y : Nat} {u_y_6y : Nat} {u_y_7y : Int64} {u_y_8y : Int32} {u_y_9y : Int32} {u_y_20y : Nat} {u_y_21y : Int32} {u_y_34y : Int32} {u_y_49y : Nat} {u_y_suppery : Nat → Int32} {u_y_guestNamey : Nat → Int64} {u_y_kindy : Nat → Int32} {u_y_offToldy : Nat → Int32} {u_y_pacey : Nat → Int32} {u_y_cooksy : Nat → Int32} {u_y_snowy : Nat → Int32} {u_y_lineFromy : Nat → Int32} {u_y_lineToy : Nat → Int32} {u_y_codesy : Nat → Int32} {u_y_openedy : Nat → Int32} {u_y_comparedy : Nat → Int32} {u_y_linesy : Nat → Int32} {u_y_seensy : Nat → Int32} {u_y_sy : Nat → Int32} {u_y_isLaidy : Nat → Int32} {rry : Int32} (hn : ta_length ≤ 1000) (e1 : ta_length = y_taped) (e2 : ta_signsF = y_tapeF) (hs : SR ta_signsF) (hw : WT ta_wordsF) (hF : FT f) (h1 : (u_x_1x, u_x_2x, u_ta_2x, u_ta_3x, u_ta_4x, u_ta_5x, u_ta_6x, u_ta_7x, u_ta_8x, u_dr_7x, u_dr_8x, u_dr_9x, u_dr_10x, u_dr_11x, u_dr_12x, u_dr_namesx, u_dr_kindsx, u_dr_yardsx, u_dr_pacesx, u_dr_skillsx, u_dr_snowx, u_drw_3x, u_drw_codex, u_d_7x, u_d_8x, u_d_9x, u_d_10x, u_d_11x, u_d_yardsx, u_d_pacesx, u_d_stuckx, u_d_hirersx, u_d_placesx, u_d_cameAtx, u_d_cookedx, u_n_3x, u_z_3x, u_pa_2x, u_m0_3x, u_m1_3x, u_m2_3x, u_m3_3x, rrx) = fX8_supper t dr ta_length ta_letters ta_signsF ta_wordsF dr_namesF dr_kindsF dr_yardsF dr_pacesF dr_skillsF dr_snowF drw_codeF d_inside d_night d_minute d_tasted d_lastCook d_yardsF d_pacesF d_stuckF d_hirersF d_placesF d_cameAtF d_cookedF n_size z_size pa_size m0_laid m1_laid m2_laid m3_laid f) (h2 : (u_y_0y, u_y_1y, u_y_3y, u_y_4y, u_y_5y, u_y_6y, u_y_7y, u_y_8y, u_y_9y, u_y_20y, u_y_21y, u_y_34y, u_y_49y, u_y_suppery, u_y_guestNamey, u_y_kindy, u_y_offToldy, u_y_pacey, u_y_cooksy, u_y_snowy, u_y_lineFromy, u_y_lineToy, u_y_codesy, u_y_openedy, u_y_comparedy, u_y_linesy, u_y_seensy, u_y_sy, u_y_isLaidy, rry) = fX9_supper y_taped y_wrong y_given y_done y_tapeF y_supperF y_guestNameF y_kindF y_offToldF y_paceF y_cooksF y_snowF y_lineFromF y_lineToF y_codesF y_openedF y_comparedF y_linesF y_seensF y_sF y_isLaidF) (hL : LD m0_laid m1_laid m2_laid m3_laid y_isLaidF) : LD u_m0_3x u_m1_3x u_m2_3x u_m3_3x u_y_isLaidy := by
  subst e1
  subst e2
  obtain ⟨a1, a2, a3, a4, a5, g, sw, be, ho, bT, hT, na, ki, ya, pa, sk, sn, ll, lc, nx, pl, kd, vl, lt, fa, ok, p, bg, tk, wo, to, wr, code, tl, gi, sup, gn, k9, o9, p9, c9, sn9, lf, lt9, codes, op, cm, r0, r1, r2, x3, x4⟩ := sup_two (n := ta_length) (s := ta_signsF) (ta_letters := ta_letters) (ta_wordsF := ta_wordsF) (dr_namesF := dr_namesF) (dr_kindsF := dr_kindsF) (dr_yardsF := dr_yardsF) (dr_pacesF := dr_pacesF) (dr_skillsF := dr_skillsF) (dr_snowF := dr_snowF) (drw_codeF := drw_codeF) (f := f) (y_wrong := y_wrong) (y_given := y_given) (y_supperF := y_supperF) (y_guestNameF := y_guestNameF) (y_kindF := y_kindF) (y_offToldF := y_offToldF) (y_paceF := y_paceF) (y_cooksF := y_cooksF) (y_snowF := y_snowF) (y_lineFromF := y_lineFromF) (y_lineToF := y_lineToF) (y_codesF := y_codesF) (y_openedF := y_openedF) (y_comparedF := y_comparedF) hn hw (SG_of hF hs)
  unfold fX8_supper at h1
  unfold fX9_supper at h2
  rw [r0, bn6_, r1, bn21_, bn1_] at h1
  rw [r2, bn24_] at h2
  cases ok with
  | false =>
    rw [if_neg (by decide)] at h1 h2
    have k0 : u_m0_3x = m0_laid := congrArg (fun z => z.2.2.2.2.2.2.2.2.2.2.2.2.2.2.2.2.2.2.2.2.2.2.2.2.2.2.2.2.2.2.2.2.2.2.2.2.2.2.1) h1
    have k1 : u_m1_3x = m1_laid := congrArg (fun z => z.2.2.2.2.2.2.2.2.2.2.2.2.2.2.2.2.2.2.2.2.2.2.2.2.2.2.2.2.2.2.2.2.2.2.2.2.2.2.2.1) h1
    have k2 : u_m2_3x = m2_laid := congrArg (fun z => z.2.2.2.2.2.2.2.2.2.2.2.2.2.2.2.2.2.2.2.2.2.2.2.2.2.2.2.2.2.2.2.2.2.2.2.2.2.2.2.2.1) h1
    have k3 : u_m3_3x = m3_laid := congrArg (fun z => z.2.2.2.2.2.2.2.2.2.2.2.2.2.2.2.2.2.2.2.2.2.2.2.2.2.2.2.2.2.2.2.2.2.2.2.2.2.2.2.2.2.1) h1
    have k4 : u_y_isLaidy = y_isLaidF := congrArg (fun z => z.2.2.2.2.2.2.2.2.2.2.2.2.2.2.2.2.2.2.2.2.2.2.2.2.2.2.2.2.1) h2
    rw [k0, k1, k2, k3, k4]; exact hL
  | true =>
    rw [if_pos rfl] at h1 h2
    have k0 : u_m0_3x = false := (congrArg (fun z => z.2.2.2.2.2.2.2.2.2.2.2.2.2.2.2.2.2.2.2.2.2.2.2.2.2.2.2.2.2.2.2.2.2.2.2.2.2.2.1) h1).trans rfl
    have k1 : u_m1_3x = false := (congrArg (fun z => z.2.2.2.2.2.2.2.2.2.2.2.2.2.2.2.2.2.2.2.2.2.2.2.2.2.2.2.2.2.2.2.2.2.2.2.2.2.2.2.1) h1).trans rfl
    have k2 : u_m2_3x = false := (congrArg (fun z => z.2.2.2.2.2.2.2.2.2.2.2.2.2.2.2.2.2.2.2.2.2.2.2.2.2.2.2.2.2.2.2.2.2.2.2.2.2.2.2.2.1) h1).trans rfl
    have k3 : u_m3_3x = false := (congrArg (fun z => z.2.2.2.2.2.2.2.2.2.2.2.2.2.2.2.2.2.2.2.2.2.2.2.2.2.2.2.2.2.2.2.2.2.2.2.2.2.2.2.2.2.1) h1).trans rfl
    have k4 : u_y_isLaidy = upd (upd (upd (upd y_isLaidF (Int32.toNatClampNeg (nI 0)) (vp_nar .boolean 0)) (Int32.toNatClampNeg (nI 1)) (vp_nar .boolean 0)) (Int32.toNatClampNeg (nI 2)) (vp_nar .boolean 0)) (Int32.toNatClampNeg (nI 3)) (vp_nar .boolean 0) := (congrArg (fun z => z.2.2.2.2.2.2.2.2.2.2.2.2.2.2.2.2.2.2.2.2.2.2.2.2.2.2.2.2.1) h2).trans rfl
    rw [k0, k1, k2, k3, k4, nI_clamp (by decide), nI_clamp (by decide), nI_clamp (by decide), nI_clamp (by decide), show vp_nar .boolean 0 = 0 by decide]
    refine ⟨?_, ?_, ?_, ?_⟩
    · rw [upd_n (by decide), upd_n (by decide), upd_n (by decide), upd_e]; rfl
    · rw [upd_n (by decide), upd_n (by decide), upd_e]; rfl
    · rw [upd_n (by decide), upd_e]; rfl
    · rw [upd_e]; rfl
set_option maxHeartbeats 4000000 in
theorem mk_eq {ba9 : Bool} {mk : Int32} {ba : Bool} {ma_laid : Bool} {mar_inside : Int32} {mar_night : Int32} {mar_minute : Int32} {mar_tasted : Int32} {mar_lastCook : Int32} {mar_yardsF : Nat → Int32} {mar_pacesF : Nat → Int32} {mar_stuckF : Nat → Int32} {mar_hirersF : Nat → Int32} {mar_placesF : Nat → Int32} {mar_cameAtF : Nat → Int32} {mar_cookedF : Nat → Int32} {mal_size : Nat} {mal_deedsF : Nat → Int32} {mal_guestsF : Nat → Int32} {mal_wholesF : Nat → Int32} {maz_size : Nat} {maz_minutesF : Nat → Int32} {maz_yardsF : Nat → Int32} {maz_nearF : Nat → Int32} {d_inside : Int32} {d_night : Int32} {d_minute : Int32} {d_tasted : Int32} {d_lastCook : Int32} {d_yardsF : Nat → Int32} {d_pacesF : Nat → Int32} {d_stuckF : Nat → Int32} {d_hirersF : Nat → Int32} {d_placesF : Nat → Int32} {d_cameAtF : Nat → Int32} {d_cookedF : Nat → Int32} {n_size : Nat} {n_deedsF : Nat → Int32} {n_guestsF : Nat → Int32} {n_wholesF : Nat → Int32} {z_size : Nat} {z_minutesF : Nat → Int32} {z_yardsF : Nat → Int32} {z_nearF : Nat → Int32} {pa_size : Nat} {y_done : Nat} {y_linesF : Nat → Int32} {y_lineWhatF : Nat → Int32} {y_lineAF : Nat → Int32} {y_lineBF : Nat → Int32} {y_seensF : Nat → Int32} {y_seenInF : Nat → Int32} {y_seenYardsF : Nat → Int32} {y_seenNearF : Nat → Int32} {y_sF : Nat → Int32} {y_markedF : Nat → Int32} {y_isLaidF : Nat → Int32} {u_ma_3x : Bool} {u_mar_7x : Int32} {u_mar_8x : Int32} {u_mar_9x : Int32} {u_mar_10x : Int32} {u_mar_11x : Int32} {u_mar_yardsx : Nat → Int32} {u_mar_pacesx : Nat → Int32} {u_mar_stuckx : Nat → Int32} {u_mar_hirersx : Nat → Int32} {u_mar_placesx : Nat → Int32} {u_mar_cameAtx : Nat → Int32} {u_mar_cookedx : Nat → Int32} {u_mal_3x : Nat} {u_mal_deedsx : Nat → Int32} {u_mal_guestsx : Nat → Int32} {u_mal_wholesx : Nat → Int32} {u_maz_3x : Nat} {u_maz_minutesx : Nat → Int32} {u_maz_yardsx : Nat → Int32} {u_maz_nearx : Nat → Int32} {u_d_7x : Int32} {u_d_8x : Int32} {u_d_9x : Int32} {u_d_10x : Int32} {u_d_11x : Int32} {u_d_yardsx : Nat → Int32} {u_d_pacesx : Nat → Int32} {u_d_stuckx : Nat → Int32} {u_d_hirersx : Nat → Int32} {u_d_placesx : Nat → Int32} {u_d_cameAtx : Nat → Int32} {u_d_cookedx : Nat → Int32} {u_n_3x : Nat} {u_n_deedsx : Nat → Int32} {u_n_guestsx : Nat → Int32} {u_n_wholesx : Nat → Int32} {u_z_3x : Nat} {u_z_minutesx : Nat → Int32} {u_z_yardsx : Nat → Int32} {u_z_nearx : Nat → Int32} {u_pa_2x : Nat} {ubx : Bool} {u_y_0y : Int32} {u_y_49y : Nat} {u_y_linesy : Nat → Int32} {u_y_lineWhaty : Nat → Int32} {u_y_lineAy : Nat → Int32} {u_y_lineBy : Nat → Int32} {u_y_seensy : Nat → Int32} {u_y_seenIny : Nat → Int32} {u_y_seenYardsy : Nat → Int32} {u_y_seenNeary : Nat → Int32} {u_y_sy : Nat → Int32} {u_y_markedy : Nat → Int32} {u_y_isLaidy : Nat → Int32} {uby : Bool} (hb : ba = ba9) (hl : 0 ≤ Int32.toInt mk → Int32.toInt mk ≤ 3 → y_isLaidF (Int32.toNatClampNeg mk) = bB ma_laid) (h1 : (u_ma_3x, u_mar_7x, u_mar_8x, u_mar_9x, u_mar_10x, u_mar_11x, u_mar_yardsx, u_mar_pacesx, u_mar_stuckx, u_mar_hirersx, u_mar_placesx, u_mar_cameAtx, u_mar_cookedx, u_mal_3x, u_mal_deedsx, u_mal_guestsx, u_mal_wholesx, u_maz_3x, u_maz_minutesx, u_maz_yardsx, u_maz_nearx, u_d_7x, u_d_8x, u_d_9x, u_d_10x, u_d_11x, u_d_yardsx, u_d_pacesx, u_d_stuckx, u_d_hirersx, u_d_placesx, u_d_cameAtx, u_d_cookedx, u_n_3x, u_n_deedsx, u_n_guestsx, u_n_wholesx, u_z_3x, u_z_minutesx, u_z_yardsx, u_z_nearx, u_pa_2x, ubx) = fX8_mark mk ba ma_laid mar_inside mar_night mar_minute mar_tasted mar_lastCook mar_yardsF mar_pacesF mar_stuckF mar_hirersF mar_placesF mar_cameAtF mar_cookedF mal_size mal_deedsF mal_guestsF mal_wholesF maz_size maz_minutesF maz_yardsF maz_nearF d_inside d_night d_minute d_tasted d_lastCook d_yardsF d_pacesF d_stuckF d_hirersF d_placesF d_cameAtF d_cookedF n_size n_deedsF n_guestsF n_wholesF z_size z_minutesF z_yardsF z_nearF pa_size) (h2 : (u_y_0y, u_y_49y, u_y_linesy, u_y_lineWhaty, u_y_lineAy, u_y_lineBy, u_y_seensy, u_y_seenIny, u_y_seenYardsy, u_y_seenNeary, u_y_sy, u_y_markedy, u_y_isLaidy, uby) = fX9_mark mk ba9 y_done y_linesF y_lineWhatF y_lineAF y_lineBF y_seensF y_seenInF y_seenYardsF y_seenNearF y_sF y_markedF y_isLaidF) : ubx = uby ∧ (0 ≤ Int32.toInt mk → Int32.toInt mk ≤ 3 → u_y_isLaidy (Int32.toNatClampNeg mk) = bB u_ma_3x) ∧ (∀ q, ¬ q = Int32.toNatClampNeg mk → u_y_isLaidy q = y_isLaidF q) ∧ (¬ (0 ≤ Int32.toInt mk ∧ Int32.toInt mk ≤ 3) → u_y_isLaidy = y_isLaidF ∧ u_ma_3x = ma_laid) := by
  subst hb
  unfold fX8_mark at h1
  unfold fX9_mark fX9_mark_J29a fX9_mark_J27a fX9_mark_J119a fX9_mark_J119b at h2
  rw [bn1_] at h1 h2
  rw [wi_] at h1
  by_cases hw : fX9_within mk 0 3 = true
  · have hr := wi_t.mp hw
    have e0 : Int32.toInt 0 = 0 := by decide
    have e3 : Int32.toInt 3 = 3 := by decide
    rw [e0, e3] at hr
    have hl := hl hr.1 hr.2
    obtain ⟨N, hN, hNe⟩ : ∃ N : Nat, N ≤ 3 ∧ mk = nI N := ⟨(Int32.toInt mk).toNat, by omega, Int32.toInt_inj.mp (by rw [nI_toInt (by omega)]; omega)⟩
    have ec : Int32.toNatClampNeg (nI (Int32.toNatClampNeg mk)) = Int32.toNatClampNeg mk := by rw [hNe, nI_clamp (n := N) (by omega), nI_clamp (n := N) (by omega)]
    rw [if_pos hw] at h1 h2
    have n1 : vp_nar .boolean 1 = 1 := by decide
    cases ba with
    | true =>
      rw [if_pos rfl] at h1 h2
      cases hm : ma_laid with
      | true =>
        rw [hm] at h1 hl
        rw [if_pos rfl] at h1
        rw [if_neg (by rw [hl]; decide), bn1_, if_pos rfl, if_pos rfl] at h2
        have k1 : ubx = true := congrArg (fun z => z.2.2.2.2.2.2.2.2.2.2.2.2.2.2.2.2.2.2.2.2.2.2.2.2.2.2.2.2.2.2.2.2.2.2.2.2.2.2.2.2.2.2) h1
        have k2 : u_ma_3x = true := congrArg (fun z => z.1) h1
        have k3 : uby = true := congrArg (fun z => z.2.2.2.2.2.2.2.2.2.2.2.2.2) h2
        have k4 : u_y_isLaidy = upd y_isLaidF (Int32.toNatClampNeg (nI (Int32.toNatClampNeg mk))) (vp_nar .boolean 1) := congrArg (fun z => z.2.2.2.2.2.2.2.2.2.2.2.2.1) h2
        refine ⟨k1.trans k3.symm, fun _ _ => by rw [k4, ec, n1, upd_e, k2]; rfl, fun q hq => by rw [k4, ec, upd_n hq], fun z => absurd hr z⟩
      | false =>
        rw [hm] at h1 hl
        rw [if_neg (by decide)] at h1
        rw [if_pos (by rw [hl]; rfl)] at h2
        have k1 : ubx = false := congrArg (fun z => z.2.2.2.2.2.2.2.2.2.2.2.2.2.2.2.2.2.2.2.2.2.2.2.2.2.2.2.2.2.2.2.2.2.2.2.2.2.2.2.2.2.2) h1
        have k2 : u_ma_3x = false := congrArg (fun z => z.1) h1
        have k3 : uby = false := congrArg (fun z => z.2.2.2.2.2.2.2.2.2.2.2.2.2) h2
        have k4 : u_y_isLaidy = y_isLaidF := congrArg (fun z => z.2.2.2.2.2.2.2.2.2.2.2.2.1) h2
        exact ⟨k1.trans k3.symm, fun _ _ => by rw [k4, k2]; exact hl, fun q _ => by rw [k4], fun z => absurd hr z⟩
    | false =>
      rw [if_neg (by decide)] at h1 h2
      rw [bn1_, if_neg (by decide), if_neg (by decide)] at h2
      have k1 : ubx = true := congrArg (fun z => z.2.2.2.2.2.2.2.2.2.2.2.2.2.2.2.2.2.2.2.2.2.2.2.2.2.2.2.2.2.2.2.2.2.2.2.2.2.2.2.2.2.2) h1
      have k2 : u_ma_3x = true := congrArg (fun z => z.1) h1
      have k3 : uby = true := congrArg (fun z => z.2.2.2.2.2.2.2.2.2.2.2.2.2) h2
      have k4 : u_y_isLaidy = upd y_isLaidF (Int32.toNatClampNeg (nI (Int32.toNatClampNeg mk))) (vp_nar .boolean 1) := congrArg (fun z => z.2.2.2.2.2.2.2.2.2.2.2.2.1) h2
      exact ⟨k1.trans k3.symm, fun _ _ => by rw [k4, ec, n1, upd_e, k2]; rfl, fun q hq => by rw [k4, ec, upd_n hq], fun z => absurd hr z⟩
  · have hr : ¬ (0 ≤ Int32.toInt mk ∧ Int32.toInt mk ≤ 3) := fun z => hw (wi_t.mpr z)
    rw [if_neg hw] at h1 h2
    have k1 : ubx = false := congrArg (fun z => z.2.2.2.2.2.2.2.2.2.2.2.2.2.2.2.2.2.2.2.2.2.2.2.2.2.2.2.2.2.2.2.2.2.2.2.2.2.2.2.2.2.2) h1
    have k2 : u_ma_3x = ma_laid := congrArg (fun z => z.1) h1
    have k3 : uby = false := congrArg (fun z => z.2.2.2.2.2.2.2.2.2.2.2.2.2) h2
    have k4 : u_y_isLaidy = y_isLaidF := congrArg (fun z => z.2.2.2.2.2.2.2.2.2.2.2.2.1) h2
    exact ⟨k1.trans k3.symm, fun a b => absurd ⟨a, b⟩ hr, fun q _ => by rw [k4], fun _ => ⟨k4, k2⟩⟩
