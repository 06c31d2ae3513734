/-! supper: both answer alike -/
set_option maxHeartbeats 4000000 in
theorem sup_ans {n : Nat} {s : Nat → Int32} (t : Nat) (dr : Nat) (ta_letters : Int64) (ta_wordsF : Nat → Int64) (dr_namesF : Nat → Int64) (dr_kindsF : Nat → Int32) (dr_yardsF : Nat → Int32) (dr_pacesF : Nat → Int32) (dr_skillsF : Nat → Int32) (dr_snowF : Nat → Int32) (drw_codeF : Nat → Int32) (d_inside : Int32) (d_night : Int32) (d_minute : Int32) (d_tasted : Int32) (d_lastCook : Int32) (d_yardsF : Nat → Int32) (d_pacesF : Nat → Int32) (d_stuckF : Nat → Int32) (d_hirersF : Nat → Int32) (d_placesF : Nat → Int32) (d_cameAtF : Nat → Int32) (d_cookedF : Nat → Int32) (n_size : Nat) (z_size : Nat) (pa_size : Nat) (m0_laid : Bool) (m1_laid : Bool) (m2_laid : Bool) (m3_laid : Bool) (f : Nat → Int32) (y_wrong : Int32) (y_given : Int32) (y_done : Nat) (y_supperF : Nat → Int32) (y_guestNameF : Nat → Int64) (y_kindF : Nat → Int32) (y_offToldF : Nat → Int32) (y_paceF : Nat → Int32) (y_cooksF : Nat → Int32) (y_snowF : Nat → Int32) (y_lineFromF : Nat → Int32) (y_lineToF : Nat → Int32) (y_codesF : Nat → Int32) (y_openedF : Nat → Int32) (y_comparedF : Nat → Int32) (y_linesF : Nat → Int32) (y_seensF : Nat → Int32) (y_sF : Nat → Int32) (y_isLaidF : Nat → Int32) (hn : n ≤ 1000) (hw : WT ta_wordsF) (hf : SG f s) : (fX8_supper t dr n ta_letters s ta_wordsF dr_namesF dr_kindsF dr_yardsF dr_pacesF dr_skillsF dr_snowF drw_codeF d_inside d_night d_minute d_tasted d_lastCook d_yardsF d_pacesF d_stuckF d_hirersF d_placesF d_cameAtF d_cookedF n_size z_size pa_size m0_laid m1_laid m2_laid m3_laid f).2.2.2.2.2.2.2.2.2.2.2.2.2.2.2.2.2.2.2.2.2.2.2.2.2.2.2.2.2.2.2.2.2.2.2.2.2.2.2.2.2.2 = (fX9_supper n y_wrong y_given y_done s y_supperF y_guestNameF y_kindF y_offToldF y_paceF y_cooksF y_snowF y_lineFromF y_lineToF y_codesF y_openedF y_comparedF y_linesF y_seensF y_sF y_isLaidF).2.2.2.2.2.2.2.2.2.2.2.2.2.2.2.2.2.2.2.2.2.2.2.2.2.2.2.2.2 := by
  obtain ⟨a1, a2, a3, a4, a5, e1, h1⟩ := advance_ (L := ta_letters) (s := s) (nx := 0) hn (Nat.zero_le n) hw hf
  obtain ⟨c1, c2, c3, c4, c5, e2, h2⟩ := next_ (s := s) (p := 0) hn (Nat.zero_le n)
  have hT : TT s n (tB s n 0) a1 a2 a3 a4 a5 c1 c2 c3 c4 c5 := ⟨h1, h2⟩
  have e4 : Int32.toNatClampNeg 4 = 4 := by decide
  have e5 : Int32.toNatClampNeg 5 = 5 := by decide
  have e6 : Int32.toNatClampNeg 6 = 6 := by decide
  have e7 : Int32.toNatClampNeg 7 = 7 := by decide
  have e1_ : Int32.toNatClampNeg 1 = 1 := by decide
  have hD : DR 0 dr_namesF dr_kindsF dr_yardsF dr_pacesF dr_skillsF 0 dr_snowF 10 30 false false 0 (upd (upd (upd (upd y_supperF 4 0) 5 10) 6 30) 7 0) y_guestNameF y_kindF y_offToldF y_paceF y_cooksF y_snowF (upd y_lineFromF 1 1000) (upd y_lineToF 1 1000) 0 := by
    refine ⟨⟨by decide, ?_, fun k hk => absurd hk (Nat.not_lt_zero _), fun k hk => absurd hk (Nat.not_lt_zero _)⟩, by decide, ?_, fun k hk => absurd hk (Nat.not_lt_zero _), ?_, ?_, by decide, ?_⟩
    · rw [upd_n (by decide), upd_n (by decide), upd_n (by decide), upd_e]; decide
    · rw [upd_e]; decide
    · rw [upd_n (by decide), upd_n (by decide), upd_e]
    · rw [upd_n (by decide), upd_e]
    · rw [upd_e, upd_e]; exact ⟨fun _ => by decide, fun _ => rfl⟩
  have hbg : c2 = tB s n 0 := h2.2.2.1
  obtain ⟨g, sw, be, ho, bT, hT', na, ki, ya, pa, sk, sn, ll, lc, nx, pl, kd, vl, lt, fa, ok, p, bg, tk, wo, to, wr, code, tl, gi, sup, gn, k9, o9, p9, c9, sn9, lf, lt9, codes, op, cm, x1, x2, x3, x4⟩ := rd_all hn hw hf ((1000 + 1 - 0) + 1) ((n + 1 - c2) + 1) (fun _ _ _ _ _ _ _ _ _ _ _ _ _ _ _ _ _ _ _ _ _ _ => (0, 0, (0 : Int32), (0 : Int32), false, false, (fun _ => 0), (fun _ => 0), (fun _ => 0), (fun _ => 0), (fun _ => 0), (fun _ => 0), 0, (fun _ => 0), 0, (0 : Int32), (0 : Int32), (0 : Int32), (0 : Int64), (0 : Int32), false)) (fun _ _ _ _ _ _ _ _ _ _ _ _ _ _ _ _ _ _ _ _ _ => (0, 0, 0, 0, 0, (0 : Int64), (0 : Int32), (0 : Int32), 0, (0 : Int32), (0 : Int32), (fun _ => 0), (fun _ => 0), (fun _ => 0), (fun _ => 0), (fun _ => 0), (fun _ => 0), (fun _ => 0), (fun _ => 0), (fun _ => 0), (fun _ => 0), (fun _ => 0), (fun _ => 0), false)) 0 (tB s n 0) drw_codeF a1 a2 a3 a4 a5 0 c1 c2 c3 c4 c5 y_wrong 1000 y_given y_codesF y_openedF y_comparedF _ _ _ _ _ _ _ _ _ _ _ _ _ _ _ _ _ _ _ _ _ _ _ (by omega) (by rw [hbg]; omega) (Nat.zero_le _) hT hD (by decide) (by omega)
  have r1 : fX7_read dr_namesF dr_kindsF dr_yardsF dr_pacesF dr_skillsF dr_snowF drw_codeF n a1 a2 a3 a4 a5 0 s ta_wordsF f = (g, sw, be, ho, bT, hT', na, ki, ya, pa, sk, sn, ll, lc, nx, pl, kd, vl, lt, fa, ok) := by
    unfold fX7_read fX7_clear fX0_clear
    rw [bn1_, bn7_]; exact x1
  have r2 : fX9_readsAll n y_wrong y_given s y_supperF y_guestNameF y_kindF y_offToldF y_paceF y_cooksF y_snowF y_lineFromF y_lineToF y_codesF y_openedF y_comparedF = (0, n, p, bg, tk, wo, to, wr, code, tl, gi, sup, gn, k9, o9, p9, c9, sn9, lf, lt9, codes, op, cm, ok) := by
    unfold fX9_readsAll fX9_begins fX9_usual1
    rw [e2, bn1_, bn5_, bn7_, e4, e5, e6, e7, e1_]; exact x2
  unfold fX8_supper fX6_rewind fX9_supper
  rw [e1, bn5_, bn6_, r1, bn21_, bn1_, r2, bn24_]
  cases ok with
  | true => rw [if_pos rfl, if_pos rfl]; rfl
  | false => rw [if_neg (by decide), if_neg (by decide)]; exact x3 rfl
