/-! supper: what both have told, laid -/
theorem lays_lp {sup kk oo p c sn lf lt codes : Nat → Int32} {gn : Nat → Int64} {z : Nat → (Nat → Int64) → (Nat → Int32) × (Nat → Int64) × (Nat → Int32) × (Nat → Int32) × (Nat → Int32) × (Nat → Int32) × (Nat → Int32) × (Nat → Int32) × (Nat → Int32) × (Nat → Int32)} : ∀ k j gn', j ≤ 6 → 6 + 1 - j < k → (∀ q, q < j → gn' q = gn (6 + q)) → (∀ q, 6 ≤ q → gn' q = gn q) → ∃ g2, lp z (fX9_lays_B10a sup kk oo p c sn lf lt codes) k j gn' = (sft sup 4 4, g2, sft kk 6 6, sft oo 6 6, sft p 6 6, sft c 6 6, sft sn 12 12, upd lf 0 (lf 1 - 1000), upd lt 0 (lt 1 - 1000), sft codes 1000 1000) ∧ (∀ q, q < 6 → g2 q = gn (6 + q)) := by
  intro k
  induction k with
  | zero => intro j gn' _ q; exact absurd q (Nat.not_lt_zero _)
  | succ k ih =>
    intro j gn' hj hk h1 h2
    show ∃ g2, fX9_lays_B10a sup kk oo p c sn lf lt codes (lp z (fX9_lays_B10a sup kk oo p c sn lf lt codes) k) j gn' = _ ∧ _
    have ih := ih (j + 1)
    generalize lp z (fX9_lays_B10a sup kk oo p c sn lf lt codes) k = rc at ih ⊢
    unfold fX9_lays_B10a
    rw [show Int32.toNatClampNeg 0 = 0 by decide, show Int32.toNatClampNeg 1 = 1 by decide]
    by_cases c6 : 6 ≤ j
    · rw [if_pos c6]
      exact ⟨gn', rfl, fun q hq => h1 q (by omega)⟩
    · rw [if_neg c6, nI_clamp (by omega), nI_clamp (by omega)]
      refine ih _ (by omega) (by omega) (fun q hq => ?_) (fun q hq => ?_)
      · by_cases e : q = j
        · rw [e, updL_e]; exact h2 (6 + j) (by omega)
        · rw [updL_n e]; exact h1 q (by omega)
      · rw [updL_n (by omega)]; exact h2 q hq
theorem lays_ {sup kk oo p c sn lf lt codes : Nat → Int32} {gn : Nat → Int64} : ∃ g2, fX9_lays sup gn kk oo p c sn lf lt codes = (sft sup 4 4, g2, sft kk 6 6, sft oo 6 6, sft p 6 6, sft c 6 6, sft sn 12 12, upd lf 0 (lf 1 - 1000), upd lt 0 (lt 1 - 1000), sft codes 1000 1000) ∧ (∀ q, q < 6 → g2 q = gn (6 + q)) := by
  unfold fX9_lays
  exact lays_lp _ 0 gn (by decide) (by decide) (fun q hq => absurd hq (Nat.not_lt_zero _)) (fun _ _ => rfl)
set_option maxHeartbeats 4000000 in
theorem sup_twoF {n : Nat} {s : Nat → Int32} {ta_letters : Int64} {ta_wordsF : Nat → Int64} {dr_namesF : Nat → Int64} {dr_kindsF : Nat → Int32} {dr_yardsF : Nat → Int32} {dr_pacesF : Nat → Int32} {dr_skillsF : Nat → Int32} {dr_snowF : Nat → Int32} {drw_codeF : Nat → Int32} {f : Nat → Int32} {y_wrong : Int32} {y_given : Int32} {y_supperF : Nat → Int32} {y_guestNameF : Nat → Int64} {y_kindF : Nat → Int32} {y_offToldF : Nat → Int32} {y_paceF : Nat → Int32} {y_cooksF : Nat → Int32} {y_snowF : Nat → Int32} {y_lineFromF : Nat → Int32} {y_lineToF : Nat → Int32} {y_codesF : Nat → Int32} {y_openedF : Nat → Int32} {y_comparedF : Nat → Int32} (hn : n ≤ 1000) (hw : WT ta_wordsF) (hf : SG f s) : ∃ a1 a2 a3 a4 a5 g sw be ho bT hT na ki ya pa sk sn ll lc nx pl kd vl lt fa ok p bg tk wo to wr code tl gi sup gn k9 o9 p9 c9 sn9 lf lt9 codes op cm, fX6_rewind n ta_letters s ta_wordsF f = (a1, a2, a3, a4, a5, 0) ∧ fX7_read dr_namesF dr_kindsF dr_yardsF dr_pacesF dr_skillsF dr_snowF drw_codeF n a1 a2 a3 a4 a5 0 s ta_wordsF f = (g, sw, be, ho, bT, hT, na, ki, ya, pa, sk, sn, ll, lc, nx, pl, kd, vl, lt, fa, ok) ∧ fX9_readsAll n y_wrong y_given s y_supperF y_guestNameF y_kindF y_offToldF y_paceF y_cooksF y_snowF y_lineFromF y_lineToF y_codesF y_openedF y_comparedF = (0, n, p, bg, tk, wo, to, wr, code, tl, gi, sup, gn, k9, o9, p9, c9, sn9, lf, lt9, codes, op, cm, ok) ∧ (ok = false → fa = wr) ∧ (ok = true → DR g na ki ya pa sk sw sn be ho bT hT ll sup gn k9 o9 p9 c9 sn9 lf lt9 tl) ∧ Fr sup gn k9 o9 p9 c9 sn9 y_supperF y_guestNameF y_kindF y_offToldF y_paceF y_cooksF y_snowF := by
  obtain ⟨a1, a2, a3, a4, a5, e1, h1⟩ := advance_ (L := ta_letters) (s := s) (nx := 0) hn (Nat.zero_le n) hw hf
  obtain ⟨c1, c2, c3, c4, c5, e2, h2⟩ := next_ (s := s) (p := 0) hn (Nat.zero_le n)
  have hT : TT s n (tB s n 0) a1 a2 a3 a4 a5 c1 c2 c3 c4 c5 := ⟨h1, h2⟩
  have e4 : Int32.toNatClampNeg 4 = 4 := by decide
  have e5 : Int32.toNatClampNeg 5 = 5 := by decide
  have e6 : Int32.toNatClampNeg 6 = 6 := by decide
  have e7 : Int32.toNatClampNeg 7 = 7 := by decide
  have e1_ : Int32.toNatClampNeg 1 = 1 := by decide
  have hD : DR 0 dr_namesF dr_kindsF dr_yardsF dr_pacesF dr_skillsF 0 dr_snowF 10 30 false false 0 (upd (upd (upd (upd y_supperF 4 0) 5 10) 6 30) 7 0) y_guestNameF y_kindF y_offToldF y_paceF y_cooksF y_snowF (upd y_lineFromF 1 1000) (upd y_lineToF 1 1000) 0 := by
    refine ⟨⟨by decide, ?_, fun k hk => absurd hk (Nat.not_lt_zero _), fun k hk => absurd hk (Nat.not_lt_zero _)⟩, by decide, ?_, fun k hk => absurd hk (Nat.not_lt_zero _), ?_, ?_, by decide, ?_⟩
    · rw [upd_n (by decide), upd_n (by decide), upd_n (by decide), upd_e]; decide
    · rw [upd_e]; decide
    · rw [upd_n (by decide), upd_n (by decide), upd_e]
    · rw [upd_n (by decide), upd_e]
    · rw [upd_e, upd_e]; exact ⟨fun _ => by decide, fun _ => rfl⟩
  have hbg : c2 = tB s n 0 := h2.2.2.1
  obtain ⟨g, sw, be, ho, bT, hT', na, ki, ya, pa, sk, sn, ll, lc, nx, pl, kd, vl, lt, fa, ok, p, bg, tk, wo, to, wr, code, tl, gi, sup, gn, k9, o9, p9, c9, sn9, lf, lt9, codes, op, cm, x1, x2, x3, x4, x5⟩ := rd_allF (sup0 := y_supperF) (gn0 := y_guestNameF) (k0 := y_kindF) (o0 := y_offToldF) (p0 := y_paceF) (c0 := y_cooksF) (sn0 := y_snowF) hn hw hf ((1000 + 1 - 0) + 1) ((n + 1 - c2) + 1) (fun _ _ _ _ _ _ _ _ _ _ _ _ _ _ _ _ _ _ _ _ _ _ => (0, 0, (0 : Int32), (0 : Int32), false, false, (fun _ => 0), (fun _ => 0), (fun _ => 0), (fun _ => 0), (fun _ => 0), (fun _ => 0), 0, (fun _ => 0), 0, (0 : Int32), (0 : Int32), (0 : Int32), (0 : Int64), (0 : Int32), false)) (fun _ _ _ _ _ _ _ _ _ _ _ _ _ _ _ _ _ _ _ _ _ => (0, 0, 0, 0, 0, (0 : Int64), (0 : Int32), (0 : Int32), 0, (0 : Int32), (0 : Int32), (fun _ => 0), (fun _ => 0), (fun _ => 0), (fun _ => 0), (fun _ => 0), (fun _ => 0), (fun _ => 0), (fun _ => 0), (fun _ => 0), (fun _ => 0), (fun _ => 0), (fun _ => 0), false)) 0 (tB s n 0) drw_codeF a1 a2 a3 a4 a5 0 c1 c2 c3 c4 c5 y_wrong 1000 y_given y_codesF y_openedF y_comparedF _ _ _ _ _ _ _ _ _ _ _ _ _ _ _ _ _ _ _ _ _ _ _ (by omega) (by rw [hbg]; omega) (Nat.zero_le _) hT hD (by decide) (by omega) ⟨fun q hq => by rw [upd_n (by omega), upd_n (by omega), upd_n (by omega), upd_n (by omega)], fun _ _ => ⟨rfl, rfl, rfl, rfl, rfl⟩, fun _ _ => rfl⟩
  have r1 : fX7_read dr_namesF dr_kindsF dr_yardsF dr_pacesF dr_skillsF dr_snowF drw_codeF n a1 a2 a3 a4 a5 0 s ta_wordsF f = (g, sw, be, ho, bT, hT', na, ki, ya, pa, sk, sn, ll, lc, nx, pl, kd, vl, lt, fa, ok) := by
    unfold fX7_read fX7_clear fX0_clear
    rw [bn1_, bn7_]; exact x1
  have r2 : fX9_readsAll n y_wrong y_given s y_supperF y_guestNameF y_kindF y_offToldF y_paceF y_cooksF y_snowF y_lineFromF y_lineToF y_codesF y_openedF y_comparedF = (0, n, p, bg, tk, wo, to, wr, code, tl, gi, sup, gn, k9, o9, p9, c9, sn9, lf, lt9, codes, op, cm, ok) := by
    unfold fX9_readsAll fX9_begins fX9_usual1
    rw [e2, bn1_, bn5_, bn7_, e4, e5, e6, e7, e1_]; exact x2
  refine ⟨a1, a2, a3, a4, a5, g, sw, be, ho, bT, hT', na, ki, ya, pa, sk, sn, ll, lc, nx, pl, kd, vl, lt, fa, ok, p, bg, tk, wo, to, wr, code, tl, gi, sup, gn, k9, o9, p9, c9, sn9, lf, lt9, codes, op, cm, ?_, r1, r2, x3, x4, x5⟩
  unfold fX6_rewind
  rw [e1, bn5_]
set_option maxHeartbeats 4000000 in
theorem sup_nm {t : Nat} {dr : Nat} {ta_length : Nat} {ta_letters : Int64} {ta_signsF : Nat → Int32} {ta_wordsF : Nat → Int64} {dr_namesF : Nat → Int64} {dr_kindsF : Nat → Int32} {dr_yardsF : Nat → Int32} {dr_pacesF : Nat → Int32} {dr_skillsF : Nat → Int32} {dr_snowF : Nat → Int32} {drw_codeF : Nat → Int32} {d_inside : Int32} {d_night : Int32} {d_minute : Int32} {d_tasted : Int32} {d_lastCook : Int32} {d_yardsF : Nat → Int32} {d_pacesF : Nat → Int32} {d_stuckF : Nat → Int32} {d_hirersF : Nat → Int32} {d_placesF : Nat → Int32} {d_cameAtF : Nat → Int32} {d_cookedF : Nat → Int32} {n_size : Nat} {z_size : Nat} {pa_size : Nat} {m0_laid : Bool} {m1_laid : Bool} {m2_laid : Bool} {m3_laid : Bool} {f : Nat → Int32} {y_taped : Nat} {y_wrong : Int32} {y_given : Int32} {y_done : Nat} {y_tapeF : Nat → Int32} {y_supperF : Nat → Int32} {y_guestNameF : Nat → Int64} {y_kindF : Nat → Int32} {y_offToldF : Nat → Int32} {y_paceF : Nat → Int32} {y_cooksF : Nat → Int32} {y_snowF : Nat → Int32} {y_lineFromF : Nat → Int32} {y_lineToF : Nat → Int32} {y_codesF : Nat → Int32} {y_openedF : Nat → Int32} {y_comparedF : Nat → Int32} {y_linesF : Nat → Int32} {y_seensF : Nat → Int32} {y_sF : Nat → Int32} {y_isLaidF : Nat → Int32} {u_x_1x : Nat} {u_x_2x : Nat} {u_ta_2x : Nat} {u_ta_3x : Nat} {u_ta_4x : Int32} {u_ta_5x : Int32} {u_ta_6x : Int32} {u_ta_7x : Int64} {u_ta_8x : Int32} {u_dr_7x : Nat} {u_dr_8x : Nat} {u_dr_9x : Int32} {u_dr_10x : Int32} {u_dr_11x : Bool} {u_dr_12x : Bool} {u_dr_namesx : Nat → Int64} {u_dr_kindsx : Nat → Int32} {u_dr_yardsx : Nat → Int32} {u_dr_pacesx : Nat → Int32} {u_dr_skillsx : Nat → Int32} {u_dr_snowx : Nat → Int32} {u_drw_3x : Nat} {u_drw_codex : Nat → Int32} {u_d_7x : Int32} {u_d_8x : Int32} {u_d_9x : Int32} {u_d_10x : Int32} {u_d_11x : Int32} {u_d_yardsx : Nat → Int32} {u_d_pacesx : Nat → Int32} {u_d_stuckx : Nat → Int32} {u_d_hirersx : Nat → Int32} {u_d_placesx : Nat → Int32} {u_d_cameAtx : Nat → Int32} {u_d_cookedx : Nat → Int32} {u_n_3x : Nat} {u_z_3x : Nat} {u_pa_2x : Nat} {u_m0_3x : Bool} {u_m1_3x : Bool} {u_m2_3x : Bool} {u_m3_3x : Bool} {rrx : Int32} {u_y_0y : Int32} {u_y_1y : Nat} {u_y_3y : Nat} {u_y_4y : Nat} {u_y_5y : Nat} {u_y_6y : Nat} {u_y_7y : Int64} {u_y_8y : Int32} {u_y_9y : Int32} {u_y_20y : Nat} {u_y_21y : Int32} {u_y_34y : Int32} {u_y_49y : Nat} {u_y_suppery : Nat → Int32} {u_y_guestNamey : Nat → Int64} {u_y_kindy : Nat → Int32} {u_y_offToldy : Nat → Int32} {u_y_pacey : Nat → Int32} {u_y_cooksy : Nat → Int32} {u_y_snowy : Nat → Int32} {u_y_lineFromy : Nat → Int32} {u_y_lineToy : Nat → Int32} {u_y_codesy : Nat → Int32} {u_y_openedy : Nat → Int32} {u_y_comparedy : Nat → Int32} {u_y_linesy : Nat → Int32} {u_y_seensy : Nat → Int32} {u_y_sy : Nat → Int32} {u_y_isLaidy : Nat → Int32} {rry : Int32} (hn : ta_length ≤ 1000) (e1 : ta_length = y_taped) (e2 : ta_signsF = y_tapeF) (hs : SR ta_signsF) (hw : WT ta_wordsF) (hF : FT f) (h1 : (u_x_1x, u_x_2x, u_ta_2x, u_ta_3x, u_ta_4x, u_ta_5x, u_ta_6x, u_ta_7x, u_ta_8x, u_dr_7x, u_dr_8x, u_dr_9x, u_dr_10x, u_dr_11x, u_dr_12x, u_dr_namesx, u_dr_kindsx, u_dr_yardsx, u_dr_pacesx, u_dr_skillsx, u_dr_snowx, u_drw_3x, u_drw_codex, u_d_7x, u_d_8x, u_d_9x, u_d_10x, u_d_11x, u_d_yardsx, u_d_pacesx, u_d_stuckx, u_d_hirersx, u_d_placesx, u_d_cameAtx, u_d_cookedx, u_n_3x, u_z_3x, u_pa_2x, u_m0_3x, u_m1_3x, u_m2_3x, u_m3_3x, rrx) = fX8_supper t dr ta_length ta_letters ta_signsF ta_wordsF dr_namesF dr_kindsF dr_yardsF dr_pacesF dr_skillsF dr_snowF drw_codeF d_inside d_night d_minute d_tasted d_lastCook d_yardsF d_pacesF d_stuckF d_hirersF d_placesF d_cameAtF d_cookedF n_size z_size pa_size m0_laid m1_laid m2_laid m3_laid f) (h2 : (u_y_0y, u_y_1y, u_y_3y, u_y_4y, u_y_5y, u_y_6y, u_y_7y, u_y_8y, u_y_9y, u_y_20y, u_y_21y, u_y_34y, u_y_49y, u_y_suppery, u_y_guestNamey, u_y_kindy, u_y_offToldy, u_y_pacey, u_y_cooksy, u_y_snowy, u_y_lineFromy, u_y_lineToy, u_y_codesy, u_y_openedy, u_y_comparedy, u_y_linesy, u_y_seensy, u_y_sy, u_y_isLaidy, rry) = fX9_supper y_taped y_wrong y_given y_done y_tapeF y_supperF y_guestNameF y_kindF y_offToldF y_paceF y_cooksF y_snowF y_lineFromF y_lineToF y_codesF y_openedF y_comparedF y_linesF y_seensF y_sF y_isLaidF) : (u_x_1x = t ∧ u_x_2x = dr ∧ (∀ q, q < 4 → u_y_suppery q = y_supperF q) ∧ (∀ q, q < 6 → u_y_guestNamey q = y_guestNameF q)) ∨ (u_x_1x = dr ∧ u_x_2x = t ∧ u_dr_7x ≤ 6 ∧ u_y_suppery 0 = nI u_dr_7x ∧ NR u_dr_7x u_dr_namesx u_y_guestNamey 0) := by
  subst e1
  subst e2
  obtain ⟨a1, a2, a3, a4, a5, g, sw, be, ho, bT, hT, na, ki, ya, pa, sk, sn, ll, lc, nx, pl, kd, vl, lt, fa, ok, p, bg, tk, wo, to, wr, code, tl, gi, sup, gn, k9, o9, p9, c9, sn9, lf, lt9, codes, op, cm, r0, r1, r2, x3, x4, x5⟩ := sup_twoF (n := ta_length) (s := ta_signsF) (ta_letters := ta_letters) (ta_wordsF := ta_wordsF) (dr_namesF := dr_namesF) (dr_kindsF := dr_kindsF) (dr_yardsF := dr_yardsF) (dr_pacesF := dr_pacesF) (dr_skillsF := dr_skillsF) (dr_snowF := dr_snowF) (drw_codeF := drw_codeF) (f := f) (y_wrong := y_wrong) (y_given := y_given) (y_supperF := y_supperF) (y_guestNameF := y_guestNameF) (y_kindF := y_kindF) (y_offToldF := y_offToldF) (y_paceF := y_paceF) (y_cooksF := y_cooksF) (y_snowF := y_snowF) (y_lineFromF := y_lineFromF) (y_lineToF := y_lineToF) (y_codesF := y_codesF) (y_openedF := y_openedF) (y_comparedF := y_comparedF) hn hw (SG_of hF hs)
  unfold fX8_supper at h1
  unfold fX9_supper at h2
  rw [r0, bn6_, r1, bn21_, bn1_] at h1
  rw [r2, bn24_] at h2
  cases ok with
  | false =>
    rw [if_neg (by decide)] at h1 h2
    have k0 : u_x_1x = t := congrArg (fun z => z.1) h1
    have k1 : u_x_2x = dr := congrArg (fun z => z.2.1) h1
    have k2 : u_y_suppery = sup := congrArg (fun z => z.2.2.2.2.2.2.2.2.2.2.2.2.2.1) h2
    have k3 : u_y_guestNamey = gn := congrArg (fun z => z.2.2.2.2.2.2.2.2.2.2.2.2.2.2.1) h2
    rw [k2, k3]
    exact Or.inl ⟨k0, k1, x5.1, fun q hq => (x5.2.1 q hq).1⟩
  | true =>
    obtain ⟨g2, l1, l2⟩ := lays_ (sup := sup) (kk := k9) (oo := o9) (p := p9) (c := c9) (sn := sn9) (lf := lf) (lt := lt9) (codes := codes) (gn := gn)
    rw [if_pos rfl] at h1 h2
    rw [l1, bn10_] at h2
    have k0 : u_x_1x = dr := (congrArg (fun z => z.1) h1).trans rfl
    have k1 : u_x_2x = t := (congrArg (fun z => z.2.1) h1).trans rfl
    have k2 : u_dr_7x = g := (congrArg (fun z => z.2.2.2.2.2.2.2.2.2.1) h1).trans rfl
    have k3 : u_dr_namesx = na := (congrArg (fun z => z.2.2.2.2.2.2.2.2.2.2.2.2.2.2.2.1) h1).trans rfl
    have k4 : u_y_suppery = sft sup 4 4 := (congrArg (fun z => z.2.2.2.2.2.2.2.2.2.2.2.2.2.1) h2).trans rfl
    have k5 : u_y_guestNamey = g2 := (congrArg (fun z => z.2.2.2.2.2.2.2.2.2.2.2.2.2.2.1) h2).trans rfl
    have hD := x4 rfl
    rw [k2, k3, k4, k5]
    refine Or.inr ⟨k0, k1, hD.1.1, ?_, fun k hk => ?_⟩
    · unfold sft; rw [if_pos (by decide)]; exact hD.1.2.1
    · have hk6 : k < 6 := by have := hD.1.1; omega
      rw [Nat.zero_add, l2 k hk6]
      exact hD.1.2.2.1 k hk
