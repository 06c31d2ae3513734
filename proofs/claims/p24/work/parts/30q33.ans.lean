/-! answers -/
theorem an2 {a b u0 x : Int32} {X : Int32 × Int32} (h1 : a = x) (h2 : (u0, b) = X) (h : (0, x) = X) : a = b := h1.trans (congrArg (fun z => z.2) (h.trans h2.symm))
theorem TQ2_0 {us ki ty tp sk snw k9 o9 p9 c9 sn9 : Nat → Int32} (hus : us = fX9_usual0 (fun _ => 0)) : TQ2 0 0 10 30 ki ty tp sk snw us k9 o9 p9 c9 sn9 := by
  subst hus
  exact ⟨⟨by decide, by decide, by decide, by decide, fun i hi => absurd hi (Nat.not_lt_zero _)⟩, fun i hi => absurd hi (Nat.not_lt_zero _), by decide, by decide, by decide, fun i hi => absurd hi (Nat.not_lt_zero _), by decide⟩
theorem RE_0 {B : Nat} {us ss p9 pc st hi pl ca off s0 : Nat → Int32} (hus : us = fX9_usual0 (fun _ => 0)) (hsf : ss = fX9_fresh0 us off s0) : RE 0 B p9 0 0 0 (fun _ => 0) pc st hi pl ca (fun _ => 0) ss := by
  obtain ⟨s', f1, f2, f3⟩ := fresh_ (g := 0) (sup := us) (off := off) (s := s0) (by decide) (by rw [hus]; decide)
  rw [hsf, f1]
  refine ⟨⟨fun i _ => (by decide : 0 ≤ Int32.toInt 0), fun i hi => absurd hi (Nat.not_lt_zero _), fun i hi => absurd hi (Nat.not_lt_zero _), by decide, ⟨fun i hi => absurd hi (by omega), fun q hq => absurd hq (Nat.not_lt_zero _), fun q q' hq => absurd hq (Nat.not_lt_zero _), fun q _ h0 => absurd h0 (Nat.lt_irrefl 0)⟩, fun q _ _ => ⟨rfl, fun h0 => absurd h0 (Nat.lt_irrefl 0), rfl⟩, (f3 0 (by decide)).symm, (f3 3 (by decide)).symm, (f3 1 (by decide)).symm, fun i hi => absurd hi (Nat.not_lt_zero _), fun i hi => absurd hi (Nat.not_lt_zero _), ⟨by decide, by rw [show Int32.toInt 0 = 0 by decide]; omega⟩⟩, fun i _ => (by decide : Int32.toInt 0 ≤ 300), fun q hq => absurd hq (Nat.not_lt_zero _), ⟨by decide, by rw [show Int32.toInt 0 = 0 by decide]; omega⟩⟩
theorem TQ2_fr {g ns : Nat} {be ho : Int32} {ki ty tp sk snw sup k9 o9 p9 c9 sn9 sup' k' o' p' c' sn' : Nat → Int32} {gn gn' : Nat → Int64} (hF : Fr sup' gn' k' o' p' c' sn' sup gn k9 o9 p9 c9 sn9) (h : TQ2 g ns be ho ki ty tp sk snw sup k9 o9 p9 c9 sn9) : TQ2 g ns be ho ki ty tp sk snw sup' k' o' p' c' sn' := by
  obtain ⟨f1, f2, f3⟩ := hF
  obtain ⟨⟨t1, t2, t3, t4, t5⟩, t6, t7, t8, t9, t10, t11⟩ := h
  refine ⟨⟨t1, by rw [f1 0 (by decide)]; exact t2, by rw [f1 1 (by decide)]; exact t3, t4, fun i hi => ?_⟩, fun i hi => ?_, by rw [f1 2 (by decide)]; exact t7, by rw [f1 3 (by decide)]; exact t8, t9, fun i hi => by rw [f3 i (by omega)]; exact t10 i hi, t11⟩
  · obtain ⟨_, q1, q2, q3, _⟩ := f2 i (by omega)
    rw [q1, q2, q3]; exact t5 i hi
  · obtain ⟨_, _, _, _, q4⟩ := f2 i (by omega)
    rw [q4]; exact t6 i hi
theorem RE_p {g B : Nat} {p9 p' : Nat → Int32} {ins ni mi : Int32} {y pc st hi pl ca ck s : Nat → Int32} {sup k9 o9 c9 sn9 sup' k' o' c' sn' : Nat → Int32} {gn gn' : Nat → Int64} (hg : g ≤ 6) (hF : Fr sup' gn' k' o' p' c' sn' sup gn k9 o9 p9 c9 sn9) (h : RE g B p9 ins ni mi y pc st hi pl ca ck s) : RE g B p' ins ni mi y pc st hi pl ca ck s :=
  RE_sp hg (fun i hi => (hF.2.1 i (by omega)).2.2.2.1.symm) (fun _ _ => rfl) h
set_option maxHeartbeats 4000000 in
theorem an_wheelA {g : Int32} {mi : Int32} {t_guests : Nat} {d_inside : Int32} {d_night : Int32} {d_minute : Int32} {d_tasted : Int32} {d_lastCook : Int32} {d_yardsF : Nat → Int32} {d_pacesF : Nat → Int32} {d_stuckF : Nat → Int32} {d_hirersF : Nat → Int32} {d_placesF : Nat → Int32} {d_cameAtF : Nat → Int32} {d_cookedF : Nat → Int32} {pa_size : Nat} {kr_inside : Int32} {kr_night : Int32} {kr_minute : Int32} {kr_tasted : Int32} {kr_lastCook : Int32} {kr_yardsF : Nat → Int32} {kr_pacesF : Nat → Int32} {kr_stuckF : Nat → Int32} {kr_hirersF : Nat → Int32} {kr_placesF : Nat → Int32} {kr_cameAtF : Nat → Int32} {kr_cookedF : Nat → Int32} {y_done : Nat} {y_supperF : Nat → Int32} {y_sF : Nat → Int32} {y_undoneF : Nat → Int32} {u_d_stuckx : Nat → Int32} {u_pa_2x : Nat} {u_kr_7x : Int32} {u_kr_8x : Int32} {u_kr_9x : Int32} {u_kr_10x : Int32} {u_kr_11x : Int32} {u_kr_yardsx : Nat → Int32} {u_kr_pacesx : Nat → Int32} {u_kr_stuckx : Nat → Int32} {u_kr_hirersx : Nat → Int32} {u_kr_placesx : Nat → Int32} {u_kr_cameAtx : Nat → Int32} {u_kr_cookedx : Nat → Int32} {rrx : Int32} {u_y_0y : Int32} {u_y_49y : Nat} {u_y_sy : Nat → Int32} {u_y_undoney : Nat → Int32} {rry : Int32} {t_snows : Nat} {t_bend : Int32} {t_hour : Int32} {t_kindsF : Nat → Int32} {t_yardsF : Nat → Int32} {t_pacesF : Nat → Int32} {t_skillsF : Nat → Int32} {t_snowF : Nat → Int32} {y_kindF : Nat → Int32} {y_offToldF : Nat → Int32} {y_paceF : Nat → Int32} {y_cooksF : Nat → Int32} {y_snowF : Nat → Int32} {mb : Nat} (hT : TQ2 t_guests t_snows t_bend t_hour t_kindsF t_yardsF t_pacesF t_skillsF t_snowF y_supperF y_kindF y_offToldF y_paceF y_cooksF y_snowF) (hR : RE t_guests mb y_paceF d_inside d_night d_minute d_yardsF d_pacesF d_stuckF d_hirersF d_placesF d_cameAtF d_cookedF y_sF) (h1 : (u_d_stuckx, u_pa_2x, u_kr_7x, u_kr_8x, u_kr_9x, u_kr_10x, u_kr_11x, u_kr_yardsx, u_kr_pacesx, u_kr_stuckx, u_kr_hirersx, u_kr_placesx, u_kr_cameAtx, u_kr_cookedx, rrx) = fX8_wheelA g mi t_guests d_inside d_night d_minute d_tasted d_lastCook d_yardsF d_pacesF d_stuckF d_hirersF d_placesF d_cameAtF d_cookedF pa_size kr_inside kr_night kr_minute kr_tasted kr_lastCook kr_yardsF kr_pacesF kr_stuckF kr_hirersF kr_placesF kr_cameAtF kr_cookedF) (h2 : (u_y_0y, u_y_49y, u_y_sy, u_y_undoney, rry) = fX9_wheel g mi y_done y_supperF y_sF y_undoneF) : rrx = rry := by
  obtain ⟨hg, hs, hbe, hb0, hq9⟩ := hT.1
  obtain ⟨o1, o2, o3⟩ := onr_ (q := g) hg hs hR.1.1 (fun i hi => (hR.1.2.1 i hi).1) (fun i a b => (hR.1.2.2.2.2.2.1 i a b).1)
  unfold fX8_wheelA fX8_wheelA_J18a fX4_loseWheel at h1
  unfold fX9_wheel fX9_wheel_J23a fX9_wheels at h2
  simp only [bn1_] at h1 h2
  rw [o1] at h1
  by_cases c1 : fX9_isOnRoad g y_supperF y_sF = true
  · rw [if_pos c1] at h1 h2
    rw [wi_] at h1
    by_cases c2 : fX9_within mi 1 60 = true
    · rw [if_pos c2] at h1 h2
      obtain ⟨i, i1, i2, i3⟩ := o3.mp c1
      rw [o2, if_pos c1] at h1
      subst i2
      rw [nI_clamp (n := i) (by omega)] at h1
      rw [show (22 : Int32) + nI i = nI (22 + i) from nI_add 22 i, nI_clamp (n := 22 + i) (by omega)] at h2
      rw [← (hR.1.2.1 i i1).2.2.2.1] at h2
      have k1 : rrx = upd d_stuckF i (if d_stuckF i + mi < 60 then d_stuckF i + mi else 60) i := (congrArg (fun z => z.2.2.2.2.2.2.2.2.2.2.2.2.2.2) h1).trans rfl
      have k2 : rry = upd y_sF (22 + i) (if d_stuckF i + mi < 60 then d_stuckF i + mi else 60) (22 + i) := (congrArg (fun z => z.2.2.2.2) h2).trans rfl
      rw [k1, k2, upd_e, upd_e]
    · rw [if_neg c2] at h1 h2
      exact (congrArg (fun z => z.2.2.2.2.2.2.2.2.2.2.2.2.2.2) h1).trans (congrArg (fun z => z.2.2.2.2) h2).symm
  · rw [if_neg c1] at h1 h2
    exact (congrArg (fun z => z.2.2.2.2.2.2.2.2.2.2.2.2.2.2) h1).trans (congrArg (fun z => z.2.2.2.2) h2).symm
set_option maxHeartbeats 4000000 in
theorem an_runA {g : Int32} {mi : Int32} {t_guests : Nat} {d_inside : Int32} {d_night : Int32} {d_minute : Int32} {d_tasted : Int32} {d_lastCook : Int32} {d_yardsF : Nat → Int32} {d_pacesF : Nat → Int32} {d_stuckF : Nat → Int32} {d_hirersF : Nat → Int32} {d_placesF : Nat → Int32} {d_cameAtF : Nat → Int32} {d_cookedF : Nat → Int32} {pa_size : Nat} {kr_inside : Int32} {kr_night : Int32} {kr_minute : Int32} {kr_tasted : Int32} {kr_lastCook : Int32} {kr_yardsF : Nat → Int32} {kr_pacesF : Nat → Int32} {kr_stuckF : Nat → Int32} {kr_hirersF : Nat → Int32} {kr_placesF : Nat → Int32} {kr_cameAtF : Nat → Int32} {kr_cookedF : Nat → Int32} {y_done : Nat} {y_supperF : Nat → Int32} {y_paceF : Nat → Int32} {y_sF : Nat → Int32} {y_undoneF : Nat → Int32} {u_d_pacesx : Nat → Int32} {u_pa_2x : Nat} {u_kr_7x : Int32} {u_kr_8x : Int32} {u_kr_9x : Int32} {u_kr_10x : Int32} {u_kr_11x : Int32} {u_kr_yardsx : Nat → Int32} {u_kr_pacesx : Nat → Int32} {u_kr_stuckx : Nat → Int32} {u_kr_hirersx : Nat → Int32} {u_kr_placesx : Nat → Int32} {u_kr_cameAtx : Nat → Int32} {u_kr_cookedx : Nat → Int32} {rrx : Int32} {u_y_0y : Int32} {u_y_49y : Nat} {u_y_sy : Nat → Int32} {u_y_undoney : Nat → Int32} {rry : Int32} {t_snows : Nat} {t_bend : Int32} {t_hour : Int32} {t_kindsF : Nat → Int32} {t_yardsF : Nat → Int32} {t_pacesF : Nat → Int32} {t_skillsF : Nat → Int32} {t_snowF : Nat → Int32} {y_kindF : Nat → Int32} {y_offToldF : Nat → Int32} {y_cooksF : Nat → Int32} {y_snowF : Nat → Int32} {mb : Nat} (hT : TQ2 t_guests t_snows t_bend t_hour t_kindsF t_yardsF t_pacesF t_skillsF t_snowF y_supperF y_kindF y_offToldF y_paceF y_cooksF y_snowF) (hR : RE t_guests mb y_paceF d_inside d_night d_minute d_yardsF d_pacesF d_stuckF d_hirersF d_placesF d_cameAtF d_cookedF y_sF) (h1 : (u_d_pacesx, u_pa_2x, u_kr_7x, u_kr_8x, u_kr_9x, u_kr_10x, u_kr_11x, u_kr_yardsx, u_kr_pacesx, u_kr_stuckx, u_kr_hirersx, u_kr_placesx, u_kr_cameAtx, u_kr_cookedx, rrx) = fX8_runA g mi t_guests d_inside d_night d_minute d_tasted d_lastCook d_yardsF d_pacesF d_stuckF d_hirersF d_placesF d_cameAtF d_cookedF pa_size kr_inside kr_night kr_minute kr_tasted kr_lastCook kr_yardsF kr_pacesF kr_stuckF kr_hirersF kr_placesF kr_cameAtF kr_cookedF) (h2 : (u_y_0y, u_y_49y, u_y_sy, u_y_undoney, rry) = fX9_run g mi y_done y_supperF y_paceF y_sF y_undoneF) : rrx = rry := by
  obtain ⟨hg, hs, hbe, hb0, hq9⟩ := hT.1
  obtain ⟨o1, o2, o3⟩ := onr_ (q := g) hg hs hR.1.1 (fun i hi => (hR.1.2.1 i hi).1) (fun i a b => (hR.1.2.2.2.2.2.1 i a b).1)
  unfold fX8_runA fX8_runA_J18a fX4_quicken at h1
  unfold fX9_run fX9_run_J23a fX9_runs fX9_paceOf at h2
  simp only [bn1_] at h1 h2
  rw [o1] at h1
  by_cases c1 : fX9_isOnRoad g y_supperF y_sF = true
  · rw [if_pos c1] at h1 h2
    rw [wi_] at h1
    by_cases c2 : fX9_within mi 1 9 = true
    · rw [if_pos c2] at h1 h2
      obtain ⟨i, i1, i2, i3⟩ := o3.mp c1
      rw [o2, if_pos c1] at h1
      subst i2
      rw [nI_clamp (n := i) (by omega)] at h1
      rw [show (28 : Int32) + nI i = nI (28 + i) from nI_add 28 i, nI_clamp (n := 28 + i) (by omega)] at h2
      rw [nI_clamp (n := i) (by omega)] at h2
      have hm := wi_t.mp c2
      rw [show Int32.toInt 1 = 1 by decide, show Int32.toInt 9 = 9 by decide] at hm
      have hp := (hq9 i i1).2.2
      rw [hp.1] at hp
      have hN := RD_run i1 hg (show 0 ≤ Int32.toInt mi by omega) hm.2 hp.2.2.1 hp.2.2.2 hR.1
      have k1 : rrx = upd d_pacesF i (if d_pacesF i + mi < 40 then d_pacesF i + mi else 40) i := (congrArg (fun z => z.2.2.2.2.2.2.2.2.2.2.2.2.2.2) h1).trans rfl
      have k2 := congrArg (fun z => z.2.2.2.2) h2
      rw [k1]
      exact (hN.2.1 i i1).2.2.2.2.1.trans (show _ = rry from k2.symm)
    · rw [if_neg c2] at h1 h2
      exact (congrArg (fun z => z.2.2.2.2.2.2.2.2.2.2.2.2.2.2) h1).trans (congrArg (fun z => z.2.2.2.2) h2).symm
  · rw [if_neg c1] at h1 h2
    exact (congrArg (fun z => z.2.2.2.2.2.2.2.2.2.2.2.2.2.2) h1).trans (congrArg (fun z => z.2.2.2.2) h2).symm
set_option maxHeartbeats 4000000 in
theorem an_hireA {g : Int32} {o : Int32} {d_inside : Int32} {d_night : Int32} {d_minute : Int32} {d_tasted : Int32} {d_lastCook : Int32} {d_yardsF : Nat → Int32} {d_pacesF : Nat → Int32} {d_stuckF : Nat → Int32} {d_hirersF : Nat → Int32} {d_placesF : Nat → Int32} {d_cameAtF : Nat → Int32} {d_cookedF : Nat → Int32} {pa_size : Nat} {kr_inside : Int32} {kr_night : Int32} {kr_minute : Int32} {kr_tasted : Int32} {kr_lastCook : Int32} {kr_yardsF : Nat → Int32} {kr_pacesF : Nat → Int32} {kr_stuckF : Nat → Int32} {kr_hirersF : Nat → Int32} {kr_placesF : Nat → Int32} {kr_cameAtF : Nat → Int32} {kr_cookedF : Nat → Int32} {y_done : Nat} {y_supperF : Nat → Int32} {y_sF : Nat → Int32} {y_undoneF : Nat → Int32} {u_d_hirersx : Nat → Int32} {u_pa_2x : Nat} {u_kr_7x : Int32} {u_kr_8x : Int32} {u_kr_9x : Int32} {u_kr_10x : Int32} {u_kr_11x : Int32} {u_kr_yardsx : Nat → Int32} {u_kr_pacesx : Nat → Int32} {u_kr_stuckx : Nat → Int32} {u_kr_hirersx : Nat → Int32} {u_kr_placesx : Nat → Int32} {u_kr_cameAtx : Nat → Int32} {u_kr_cookedx : Nat → Int32} {ubx : Bool} {u_y_0y : Int32} {u_y_49y : Nat} {u_y_sy : Nat → Int32} {u_y_undoney : Nat → Int32} {uby : Bool} {t_guests : Nat} {t_snows : Nat} {t_bend : Int32} {t_hour : Int32} {t_kindsF : Nat → Int32} {t_yardsF : Nat → Int32} {t_pacesF : Nat → Int32} {t_skillsF : Nat → Int32} {t_snowF : Nat → Int32} {y_kindF : Nat → Int32} {y_offToldF : Nat → Int32} {y_paceF : Nat → Int32} {y_cooksF : Nat → Int32} {y_snowF : Nat → Int32} {mb : Nat} (hT : TQ2 t_guests t_snows t_bend t_hour t_kindsF t_yardsF t_pacesF t_skillsF t_snowF y_supperF y_kindF y_offToldF y_paceF y_cooksF y_snowF) (hR : RE t_guests mb y_paceF d_inside d_night d_minute d_yardsF d_pacesF d_stuckF d_hirersF d_placesF d_cameAtF d_cookedF y_sF) (h1 : (u_d_hirersx, u_pa_2x, u_kr_7x, u_kr_8x, u_kr_9x, u_kr_10x, u_kr_11x, u_kr_yardsx, u_kr_pacesx, u_kr_stuckx, u_kr_hirersx, u_kr_placesx, u_kr_cameAtx, u_kr_cookedx, ubx) = fX8_hireA g o d_inside d_night d_minute d_tasted d_lastCook d_yardsF d_pacesF d_stuckF d_hirersF d_placesF d_cameAtF d_cookedF pa_size kr_inside kr_night kr_minute kr_tasted kr_lastCook kr_yardsF kr_pacesF kr_stuckF kr_hirersF kr_placesF kr_cameAtF kr_cookedF) (h2 : (u_y_0y, u_y_49y, u_y_sy, u_y_undoney, uby) = fX9_hire g o y_done y_supperF y_sF y_undoneF) : ubx = uby := by
  obtain ⟨hg, hs, hbe, hb0, hq9⟩ := hT.1
  obtain ⟨o1, o2⟩ := can_ (q := g) (r := o) hg hs hR.1
  unfold fX8_hireA at h1
  unfold fX9_hire at h2
  rw [bn1_, o1] at h1
  rw [bn1_] at h2
  by_cases c1 : fX9_canHire g o y_supperF y_sF = true
  · rw [if_pos c1] at h1 h2
    exact (show ubx = true from (congrArg (fun z => z.2.2.2.2.2.2.2.2.2.2.2.2.2.2) h1).trans rfl).trans (show uby = true from (congrArg (fun z => z.2.2.2.2) h2).trans rfl).symm
  · rw [if_neg c1] at h1 h2
    exact (congrArg (fun z => z.2.2.2.2.2.2.2.2.2.2.2.2.2.2) h1).trans (congrArg (fun z => z.2.2.2.2) h2).symm
set_option maxHeartbeats 4000000 in
theorem an_minuteA {d_inside : Int32} {d_night : Int32} {d_minute : Int32} {d_tasted : Int32} {d_lastCook : Int32} {d_yardsF : Nat → Int32} {d_pacesF : Nat → Int32} {d_stuckF : Nat → Int32} {d_hirersF : Nat → Int32} {d_placesF : Nat → Int32} {d_cameAtF : Nat → Int32} {d_cookedF : Nat → Int32} {t_guests : Nat} {t_snows : Nat} {t_bend : Int32} {t_hour : Int32} {t_kindsF : Nat → Int32} {t_yardsF : Nat → Int32} {t_pacesF : Nat → Int32} {t_skillsF : Nat → Int32} {t_snowF : Nat → Int32} {tw_length : Nat} {tw_top : Nat} {tw_codeF : Nat → Int32} {tw_stackF : Nat → Int32} {tw_factsF : Nat → Int32} {pa_size : Nat} {kr_yardsF : Nat → Int32} {kr_pacesF : Nat → Int32} {kr_stuckF : Nat → Int32} {kr_hirersF : Nat → Int32} {kr_placesF : Nat → Int32} {kr_cameAtF : Nat → Int32} {kr_cookedF : Nat → Int32} {y_done : Nat} {y_snowNow : Int32} {y_supperF : Nat → Int32} {y_kindF : Nat → Int32} {y_offToldF : Nat → Int32} {y_paceF : Nat → Int32} {y_cooksF : Nat → Int32} {y_snowF : Nat → Int32} {y_lineFromF : Nat → Int32} {y_lineToF : Nat → Int32} {y_codesF : Nat → Int32} {y_keptF : Nat → Int32} {y_keptByF : Nat → Int32} {y_aheadF : Nat → Int32} {y_againstF : Nat → Int32} {y_sumF : Nat → Int32} {y_sumByF : Nat → Int32} {y_termF : Nat → Int32} {y_termByF : Nat → Int32} {y_byNotF : Nat → Int32} {y_valueOfF : Nat → Int32} {y_sF : Nat → Int32} {y_undoneF : Nat → Int32} {u_d_7x : Int32} {u_d_8x : Int32} {u_d_9x : Int32} {u_d_10x : Int32} {u_d_11x : Int32} {u_d_12x : Bool} {u_d_yardsx : Nat → Int32} {u_d_pacesx : Nat → Int32} {u_d_stuckx : Nat → Int32} {u_d_hirersx : Nat → Int32} {u_d_placesx : Nat → Int32} {u_d_cameAtx : Nat → Int32} {u_d_cookedx : Nat → Int32} {u_tw_4x : Nat} {u_tw_stackx : Nat → Int32} {u_tw_factsx : Nat → Int32} {u_pa_2x : Nat} {u_kr_7x : Int32} {u_kr_8x : Int32} {u_kr_9x : Int32} {u_kr_10x : Int32} {u_kr_11x : Int32} {u_kr_yardsx : Nat → Int32} {u_kr_pacesx : Nat → Int32} {u_kr_stuckx : Nat → Int32} {u_kr_hirersx : Nat → Int32} {u_kr_placesx : Nat → Int32} {u_kr_cameAtx : Nat → Int32} {u_kr_cookedx : Nat → Int32} {rrx : Int32} {u_y_0y : Int32} {u_y_49y : Nat} {u_y_51y : Int32} {u_y_kepty : Nat → Int32} {u_y_keptByy : Nat → Int32} {u_y_aheady : Nat → Int32} {u_y_againsty : Nat → Int32} {u_y_sumy : Nat → Int32} {u_y_sumByy : Nat → Int32} {u_y_termy : Nat → Int32} {u_y_termByy : Nat → Int32} {u_y_byNoty : Nat → Int32} {u_y_valueOfy : Nat → Int32} {u_y_sy : Nat → Int32} {u_y_undoney : Nat → Int32} {rry : Int32} {mb : Nat} (hT : TQ2 t_guests t_snows t_bend t_hour t_kindsF t_yardsF t_pacesF t_skillsF t_snowF y_supperF y_kindF y_offToldF y_paceF y_cooksF y_snowF) (hR : RE t_guests mb y_paceF d_inside d_night d_minute d_yardsF d_pacesF d_stuckF d_hirersF d_placesF d_cameAtF d_cookedF y_sF) (hsw : y_snowNow = -1) (hmb : mb ≤ 1000000) (h1 : (u_d_7x, u_d_8x, u_d_9x, u_d_10x, u_d_11x, u_d_12x, u_d_yardsx, u_d_pacesx, u_d_stuckx, u_d_hirersx, u_d_placesx, u_d_cameAtx, u_d_cookedx, u_tw_4x, u_tw_stackx, u_tw_factsx, u_pa_2x, u_kr_7x, u_kr_8x, u_kr_9x, u_kr_10x, u_kr_11x, u_kr_yardsx, u_kr_pacesx, u_kr_stuckx, u_kr_hirersx, u_kr_placesx, u_kr_cameAtx, u_kr_cookedx, rrx) = fX8_minuteA d_inside d_night d_minute d_tasted d_lastCook d_yardsF d_pacesF d_stuckF d_hirersF d_placesF d_cameAtF d_cookedF t_guests t_snows t_bend t_hour t_kindsF t_yardsF t_pacesF t_skillsF t_snowF tw_length tw_top tw_codeF tw_stackF tw_factsF pa_size kr_yardsF kr_pacesF kr_stuckF kr_hirersF kr_placesF kr_cameAtF kr_cookedF) (h2 : (u_y_0y, u_y_49y, u_y_51y, u_y_kepty, u_y_keptByy, u_y_aheady, u_y_againsty, u_y_sumy, u_y_sumByy, u_y_termy, u_y_termByy, u_y_byNoty, u_y_valueOfy, u_y_sy, u_y_undoney, rry) = fX9_minute y_done y_snowNow y_supperF y_kindF y_offToldF y_paceF y_cooksF y_snowF y_lineFromF y_lineToF y_codesF y_keptF y_keptByF y_aheadF y_againstF y_sumF y_sumByF y_termF y_termByF y_byNotF y_valueOfF y_sF y_undoneF) : rrx = rry := by
  have hsn := sno_ hT (hR.1.2.2.2.2.2.2.2.2.2.2.2).1 (hR.1.2.2.2.2.2.2.2.2.2.2.2).2 hmb
  obtain ⟨ins9, ni9, mi9, ta9, lc9, y9, pc9, st9, hi9, pl9, ca9, ck9, wt9, ws9, wf9, v1, v2, v3, v4, v5, v6, v7, v8, v9, v10, s9, r, e1, e2, e3, e4⟩ := mnE_ (sNow := y_snowNow) (ta := d_tasted) (lc := d_lastCook) (wl := tw_length) (wt := tw_top) (wc := tw_codeF) (ws := tw_stackF) (wf := tw_factsF) (lf := y_lineFromF) (lt := y_lineToF) (co := y_codesF) (kp := y_keptF) (kb := y_keptByF) (ah := y_aheadF) (ag := y_againstF) (su := y_sumF) (sb := y_sumByF) (te := y_termF) (tb := y_termByF) (bn := y_byNotF) (vo := y_valueOfF) hT hmb hR (show (if (0 : Int32) ≤ y_snowNow then y_snowNow else fX9_snowOf (y_sF 1) y_supperF y_snowF) = fX7_snowAt d_minute t_snows t_snowF by rw [hsw, if_neg (by decide), hsn, (hR.1.2.2.2.2.2.2.2.2.1)])
  unfold fX8_minuteA fX4_pass at h1
  unfold fX9_minute at h2
  rw [bn1_, e1, bn17_] at h1
  rw [e2] at h2
  exact (show rrx = r from (congrArg (fun z => z.2.2.2.2.2.2.2.2.2.2.2.2.2.2.2.2.2.2.2.2.2.2.2.2.2.2.2.2.2) h1).trans rfl).trans (show rry = r from (congrArg (fun z => z.2.2.2.2.2.2.2.2.2.2.2.2.2.2.2) h2).trans rfl).symm
set_option maxHeartbeats 4000000 in
theorem an_wheelB {g : Int32} {mi : Int32} {t_guests : Nat} {d_inside : Int32} {d_night : Int32} {d_minute : Int32} {d_tasted : Int32} {d_lastCook : Int32} {d_yardsF : Nat → Int32} {d_pacesF : Nat → Int32} {d_stuckF : Nat → Int32} {d_hirersF : Nat → Int32} {d_placesF : Nat → Int32} {d_cameAtF : Nat → Int32} {d_cookedF : Nat → Int32} {pa_first : Nat} {kr_inside : Int32} {kr_night : Int32} {kr_minute : Int32} {kr_tasted : Int32} {kr_lastCook : Int32} {kr_yardsF : Nat → Int32} {kr_pacesF : Nat → Int32} {kr_stuckF : Nat → Int32} {kr_hirersF : Nat → Int32} {kr_placesF : Nat → Int32} {kr_cameAtF : Nat → Int32} {kr_cookedF : Nat → Int32} {y_done : Nat} {y_supperF : Nat → Int32} {y_sF : Nat → Int32} {y_undoneF : Nat → Int32} {u_d_stuckx : Nat → Int32} {u_pa_1x : Nat} {u_kr_7x : Int32} {u_kr_8x : Int32} {u_kr_9x : Int32} {u_kr_10x : Int32} {u_kr_11x : Int32} {u_kr_yardsx : Nat → Int32} {u_kr_pacesx : Nat → Int32} {u_kr_stuckx : Nat → Int32} {u_kr_hirersx : Nat → Int32} {u_kr_placesx : Nat → Int32} {u_kr_cameAtx : Nat → Int32} {u_kr_cookedx : Nat → Int32} {rrx : Int32} {u_y_0y : Int32} {u_y_49y : Nat} {u_y_sy : Nat → Int32} {u_y_undoney : Nat → Int32} {rry : Int32} {t_snows : Nat} {t_bend : Int32} {t_hour : Int32} {t_kindsF : Nat → Int32} {t_yardsF : Nat → Int32} {t_pacesF : Nat → Int32} {t_skillsF : Nat → Int32} {t_snowF : Nat → Int32} {y_kindF : Nat → Int32} {y_offToldF : Nat → Int32} {y_paceF : Nat → Int32} {y_cooksF : Nat → Int32} {y_snowF : Nat → Int32} {mb : Nat} (hT : TQ2 t_guests t_snows t_bend t_hour t_kindsF t_yardsF t_pacesF t_skillsF t_snowF y_supperF y_kindF y_offToldF y_paceF y_cooksF y_snowF) (hR : RE t_guests mb y_paceF d_inside d_night d_minute d_yardsF d_pacesF d_stuckF d_hirersF d_placesF d_cameAtF d_cookedF y_sF) (h1 : (u_d_stuckx, u_pa_1x, u_kr_7x, u_kr_8x, u_kr_9x, u_kr_10x, u_kr_11x, u_kr_yardsx, u_kr_pacesx, u_kr_stuckx, u_kr_hirersx, u_kr_placesx, u_kr_cameAtx, u_kr_cookedx, rrx) = fX8_wheelB g mi t_guests d_inside d_night d_minute d_tasted d_lastCook d_yardsF d_pacesF d_stuckF d_hirersF d_placesF d_cameAtF d_cookedF pa_first kr_inside kr_night kr_minute kr_tasted kr_lastCook kr_yardsF kr_pacesF kr_stuckF kr_hirersF kr_placesF kr_cameAtF kr_cookedF) (h2 : (u_y_0y, u_y_49y, u_y_sy, u_y_undoney, rry) = fX9_wheel g mi y_done y_supperF y_sF y_undoneF) : rrx = rry := by
  obtain ⟨hg, hs, hbe, hb0, hq9⟩ := hT.1
  obtain ⟨o1, o2, o3⟩ := onr_ (q := g) hg hs hR.1.1 (fun i hi => (hR.1.2.1 i hi).1) (fun i a b => (hR.1.2.2.2.2.2.1 i a b).1)
  unfold fX8_wheelB fX8_wheelB_J18a fX4_loseWheel at h1
  unfold fX9_wheel fX9_wheel_J23a fX9_wheels at h2
  simp only [bn1_] at h1 h2
  rw [o1] at h1
  by_cases c1 : fX9_isOnRoad g y_supperF y_sF = true
  · rw [if_pos c1] at h1 h2
    rw [wi_] at h1
    by_cases c2 : fX9_within mi 1 60 = true
    · rw [if_pos c2] at h1 h2
      obtain ⟨i, i1, i2, i3⟩ := o3.mp c1
      rw [o2, if_pos c1] at h1
      subst i2
      rw [nI_clamp (n := i) (by omega)] at h1
      rw [show (22 : Int32) + nI i = nI (22 + i) from nI_add 22 i, nI_clamp (n := 22 + i) (by omega)] at h2
      rw [← (hR.1.2.1 i i1).2.2.2.1] at h2
      have k1 : rrx = upd d_stuckF i (if d_stuckF i + mi < 60 then d_stuckF i + mi else 60) i := (congrArg (fun z => z.2.2.2.2.2.2.2.2.2.2.2.2.2.2) h1).trans rfl
      have k2 : rry = upd y_sF (22 + i) (if d_stuckF i + mi < 60 then d_stuckF i + mi else 60) (22 + i) := (congrArg (fun z => z.2.2.2.2) h2).trans rfl
      rw [k1, k2, upd_e, upd_e]
    · rw [if_neg c2] at h1 h2
      exact (congrArg (fun z => z.2.2.2.2.2.2.2.2.2.2.2.2.2.2) h1).trans (congrArg (fun z => z.2.2.2.2) h2).symm
  · rw [if_neg c1] at h1 h2
    exact (congrArg (fun z => z.2.2.2.2.2.2.2.2.2.2.2.2.2.2) h1).trans (congrArg (fun z => z.2.2.2.2) h2).symm
set_option maxHeartbeats 4000000 in
theorem an_runB {g : Int32} {mi : Int32} {t_guests : Nat} {d_inside : Int32} {d_night : Int32} {d_minute : Int32} {d_tasted : Int32} {d_lastCook : Int32} {d_yardsF : Nat → Int32} {d_pacesF : Nat → Int32} {d_stuckF : Nat → Int32} {d_hirersF : Nat → Int32} {d_placesF : Nat → Int32} {d_cameAtF : Nat → Int32} {d_cookedF : Nat → Int32} {pa_first : Nat} {kr_inside : Int32} {kr_night : Int32} {kr_minute : Int32} {kr_tasted : Int32} {kr_lastCook : Int32} {kr_yardsF : Nat → Int32} {kr_pacesF : Nat → Int32} {kr_stuckF : Nat → Int32} {kr_hirersF : Nat → Int32} {kr_placesF : Nat → Int32} {kr_cameAtF : Nat → Int32} {kr_cookedF : Nat → Int32} {y_done : Nat} {y_supperF : Nat → Int32} {y_paceF : Nat → Int32} {y_sF : Nat → Int32} {y_undoneF : Nat → Int32} {u_d_pacesx : Nat → Int32} {u_pa_1x : Nat} {u_kr_7x : Int32} {u_kr_8x : Int32} {u_kr_9x : Int32} {u_kr_10x : Int32} {u_kr_11x : Int32} {u_kr_yardsx : Nat → Int32} {u_kr_pacesx : Nat → Int32} {u_kr_stuckx : Nat → Int32} {u_kr_hirersx : Nat → Int32} {u_kr_placesx : Nat → Int32} {u_kr_cameAtx : Nat → Int32} {u_kr_cookedx : Nat → Int32} {rrx : Int32} {u_y_0y : Int32} {u_y_49y : Nat} {u_y_sy : Nat → Int32} {u_y_undoney : Nat → Int32} {rry : Int32} {t_snows : Nat} {t_bend : Int32} {t_hour : Int32} {t_kindsF : Nat → Int32} {t_yardsF : Nat → Int32} {t_pacesF : Nat → Int32} {t_skillsF : Nat → Int32} {t_snowF : Nat → Int32} {y_kindF : Nat → Int32} {y_offToldF : Nat → Int32} {y_cooksF : Nat → Int32} {y_snowF : Nat → Int32} {mb : Nat} (hT : TQ2 t_guests t_snows t_bend t_hour t_kindsF t_yardsF t_pacesF t_skillsF t_snowF y_supperF y_kindF y_offToldF y_paceF y_cooksF y_snowF) (hR : RE t_guests mb y_paceF d_inside d_night d_minute d_yardsF d_pacesF d_stuckF d_hirersF d_placesF d_cameAtF d_cookedF y_sF) (h1 : (u_d_pacesx, u_pa_1x, u_kr_7x, u_kr_8x, u_kr_9x, u_kr_10x, u_kr_11x, u_kr_yardsx, u_kr_pacesx, u_kr_stuckx, u_kr_hirersx, u_kr_placesx, u_kr_cameAtx, u_kr_cookedx, rrx) = fX8_runB g mi t_guests d_inside d_night d_minute d_tasted d_lastCook d_yardsF d_pacesF d_stuckF d_hirersF d_placesF d_cameAtF d_cookedF pa_first kr_inside kr_night kr_minute kr_tasted kr_lastCook kr_yardsF kr_pacesF kr_stuckF kr_hirersF kr_placesF kr_cameAtF kr_cookedF) (h2 : (u_y_0y, u_y_49y, u_y_sy, u_y_undoney, rry) = fX9_run g mi y_done y_supperF y_paceF y_sF y_undoneF) : rrx = rry := by
  obtain ⟨hg, hs, hbe, hb0, hq9⟩ := hT.1
  obtain ⟨o1, o2, o3⟩ := onr_ (q := g) hg hs hR.1.1 (fun i hi => (hR.1.2.1 i hi).1) (fun i a b => (hR.1.2.2.2.2.2.1 i a b).1)
  unfold fX8_runB fX8_runB_J18a fX4_quicken at h1
  unfold fX9_run fX9_run_J23a fX9_runs fX9_paceOf at h2
  simp only [bn1_] at h1 h2
  rw [o1] at h1
  by_cases c1 : fX9_isOnRoad g y_supperF y_sF = true
  · rw [if_pos c1] at h1 h2
    rw [wi_] at h1
    by_cases c2 : fX9_within mi 1 9 = true
    · rw [if_pos c2] at h1 h2
      obtain ⟨i, i1, i2, i3⟩ := o3.mp c1
      rw [o2, if_pos c1] at h1
      subst i2
      rw [nI_clamp (n := i) (by omega)] at h1
      rw [show (28 : Int32) + nI i = nI (28 + i) from nI_add 28 i, nI_clamp (n := 28 + i) (by omega)] at h2
      rw [nI_clamp (n := i) (by omega)] at h2
      have hm := wi_t.mp c2
      rw [show Int32.toInt 1 = 1 by decide, show Int32.toInt 9 = 9 by decide] at hm
      have hp := (hq9 i i1).2.2
      rw [hp.1] at hp
      have hN := RD_run i1 hg (show 0 ≤ Int32.toInt mi by omega) hm.2 hp.2.2.1 hp.2.2.2 hR.1
      have k1 : rrx = upd d_pacesF i (if d_pacesF i + mi < 40 then d_pacesF i + mi else 40) i := (congrArg (fun z => z.2.2.2.2.2.2.2.2.2.2.2.2.2.2) h1).trans rfl
      have k2 := congrArg (fun z => z.2.2.2.2) h2
      rw [k1]
      exact (hN.2.1 i i1).2.2.2.2.1.trans (show _ = rry from k2.symm)
    · rw [if_neg c2] at h1 h2
      exact (congrArg (fun z => z.2.2.2.2.2.2.2.2.2.2.2.2.2.2) h1).trans (congrArg (fun z => z.2.2.2.2) h2).symm
  · rw [if_neg c1] at h1 h2
    exact (congrArg (fun z => z.2.2.2.2.2.2.2.2.2.2.2.2.2.2) h1).trans (congrArg (fun z => z.2.2.2.2) h2).symm
set_option maxHeartbeats 4000000 in
theorem an_hireB {g : Int32} {o : Int32} {d_inside : Int32} {d_night : Int32} {d_minute : Int32} {d_tasted : Int32} {d_lastCook : Int32} {d_yardsF : Nat → Int32} {d_pacesF : Nat → Int32} {d_stuckF : Nat → Int32} {d_hirersF : Nat → Int32} {d_placesF : Nat → Int32} {d_cameAtF : Nat → Int32} {d_cookedF : Nat → Int32} {pa_first : Nat} {kr_inside : Int32} {kr_night : Int32} {kr_minute : Int32} {kr_tasted : Int32} {kr_lastCook : Int32} {kr_yardsF : Nat → Int32} {kr_pacesF : Nat → Int32} {kr_stuckF : Nat → Int32} {kr_hirersF : Nat → Int32} {kr_placesF : Nat → Int32} {kr_cameAtF : Nat → Int32} {kr_cookedF : Nat → Int32} {y_done : Nat} {y_supperF : Nat → Int32} {y_sF : Nat → Int32} {y_undoneF : Nat → Int32} {u_d_hirersx : Nat → Int32} {u_pa_1x : Nat} {u_kr_7x : Int32} {u_kr_8x : Int32} {u_kr_9x : Int32} {u_kr_10x : Int32} {u_kr_11x : Int32} {u_kr_yardsx : Nat → Int32} {u_kr_pacesx : Nat → Int32} {u_kr_stuckx : Nat → Int32} {u_kr_hirersx : Nat → Int32} {u_kr_placesx : Nat → Int32} {u_kr_cameAtx : Nat → Int32} {u_kr_cookedx : Nat → Int32} {ubx : Bool} {u_y_0y : Int32} {u_y_49y : Nat} {u_y_sy : Nat → Int32} {u_y_undoney : Nat → Int32} {uby : Bool} {t_guests : Nat} {t_snows : Nat} {t_bend : Int32} {t_hour : Int32} {t_kindsF : Nat → Int32} {t_yardsF : Nat → Int32} {t_pacesF : Nat → Int32} {t_skillsF : Nat → Int32} {t_snowF : Nat → Int32} {y_kindF : Nat → Int32} {y_offToldF : Nat → Int32} {y_paceF : Nat → Int32} {y_cooksF : Nat → Int32} {y_snowF : Nat → Int32} {mb : Nat} (hT : TQ2 t_guests t_snows t_bend t_hour t_kindsF t_yardsF t_pacesF t_skillsF t_snowF y_supperF y_kindF y_offToldF y_paceF y_cooksF y_snowF) (hR : RE t_guests mb y_paceF d_inside d_night d_minute d_yardsF d_pacesF d_stuckF d_hirersF d_placesF d_cameAtF d_cookedF y_sF) (h1 : (u_d_hirersx, u_pa_1x, u_kr_7x, u_kr_8x, u_kr_9x, u_kr_10x, u_kr_11x, u_kr_yardsx, u_kr_pacesx, u_kr_stuckx, u_kr_hirersx, u_kr_placesx, u_kr_cameAtx, u_kr_cookedx, ubx) = fX8_hireB g o d_inside d_night d_minute d_tasted d_lastCook d_yardsF d_pacesF d_stuckF d_hirersF d_placesF d_cameAtF d_cookedF pa_first kr_inside kr_night kr_minute kr_tasted kr_lastCook kr_yardsF kr_pacesF kr_stuckF kr_hirersF kr_placesF kr_cameAtF kr_cookedF) (h2 : (u_y_0y, u_y_49y, u_y_sy, u_y_undoney, uby) = fX9_hire g o y_done y_supperF y_sF y_undoneF) : ubx = uby := by
  obtain ⟨hg, hs, hbe, hb0, hq9⟩ := hT.1
  obtain ⟨o1, o2⟩ := can_ (q := g) (r := o) hg hs hR.1
  unfold fX8_hireB at h1
  unfold fX9_hire at h2
  rw [bn1_, o1] at h1
  rw [bn1_] at h2
  by_cases c1 : fX9_canHire g o y_supperF y_sF = true
  · rw [if_pos c1] at h1 h2
    exact (show ubx = true from (congrArg (fun z => z.2.2.2.2.2.2.2.2.2.2.2.2.2.2) h1).trans rfl).trans (show uby = true from (congrArg (fun z => z.2.2.2.2) h2).trans rfl).symm
  · rw [if_neg c1] at h1 h2
    exact (congrArg (fun z => z.2.2.2.2.2.2.2.2.2.2.2.2.2.2) h1).trans (congrArg (fun z => z.2.2.2.2) h2).symm
set_option maxHeartbeats 4000000 in
theorem an_minuteB {d_inside : Int32} {d_night : Int32} {d_minute : Int32} {d_tasted : Int32} {d_lastCook : Int32} {d_yardsF : Nat → Int32} {d_pacesF : Nat → Int32} {d_stuckF : Nat → Int32} {d_hirersF : Nat → Int32} {d_placesF : Nat → Int32} {d_cameAtF : Nat → Int32} {d_cookedF : Nat → Int32} {t_guests : Nat} {t_snows : Nat} {t_bend : Int32} {t_hour : Int32} {t_kindsF : Nat → Int32} {t_yardsF : Nat → Int32} {t_pacesF : Nat → Int32} {t_skillsF : Nat → Int32} {t_snowF : Nat → Int32} {tw_length : Nat} {tw_top : Nat} {tw_codeF : Nat → Int32} {tw_stackF : Nat → Int32} {tw_factsF : Nat → Int32} {pa_first : Nat} {kr_yardsF : Nat → Int32} {kr_pacesF : Nat → Int32} {kr_stuckF : Nat → Int32} {kr_hirersF : Nat → Int32} {kr_placesF : Nat → Int32} {kr_cameAtF : Nat → Int32} {kr_cookedF : Nat → Int32} {y_done : Nat} {y_snowNow : Int32} {y_supperF : Nat → Int32} {y_kindF : Nat → Int32} {y_offToldF : Nat → Int32} {y_paceF : Nat → Int32} {y_cooksF : Nat → Int32} {y_snowF : Nat → Int32} {y_lineFromF : Nat → Int32} {y_lineToF : Nat → Int32} {y_codesF : Nat → Int32} {y_keptF : Nat → Int32} {y_keptByF : Nat → Int32} {y_aheadF : Nat → Int32} {y_againstF : Nat → Int32} {y_sumF : Nat → Int32} {y_sumByF : Nat → Int32} {y_termF : Nat → Int32} {y_termByF : Nat → Int32} {y_byNotF : Nat → Int32} {y_valueOfF : Nat → Int32} {y_sF : Nat → Int32} {y_undoneF : Nat → Int32} {u_d_7x : Int32} {u_d_8x : Int32} {u_d_9x : Int32} {u_d_10x : Int32} {u_d_11x : Int32} {u_d_12x : Bool} {u_d_yardsx : Nat → Int32} {u_d_pacesx : Nat → Int32} {u_d_stuckx : Nat → Int32} {u_d_hirersx : Nat → Int32} {u_d_placesx : Nat → Int32} {u_d_cameAtx : Nat → Int32} {u_d_cookedx : Nat → Int32} {u_tw_4x : Nat} {u_tw_stackx : Nat → Int32} {u_tw_factsx : Nat → Int32} {u_pa_1x : Nat} {u_kr_7x : Int32} {u_kr_8x : Int32} {u_kr_9x : Int32} {u_kr_10x : Int32} {u_kr_11x : Int32} {u_kr_yardsx : Nat → Int32} {u_kr_pacesx : Nat → Int32} {u_kr_stuckx : Nat → Int32} {u_kr_hirersx : Nat → Int32} {u_kr_placesx : Nat → Int32} {u_kr_cameAtx : Nat → Int32} {u_kr_cookedx : Nat → Int32} {rrx : Int32} {u_y_0y : Int32} {u_y_49y : Nat} {u_y_51y : Int32} {u_y_kepty : Nat → Int32} {u_y_keptByy : Nat → Int32} {u_y_aheady : Nat → Int32} {u_y_againsty : Nat → Int32} {u_y_sumy : Nat → Int32} {u_y_sumByy : Nat → Int32} {u_y_termy : Nat → Int32} {u_y_termByy : Nat → Int32} {u_y_byNoty : Nat → Int32} {u_y_valueOfy : Nat → Int32} {u_y_sy : Nat → Int32} {u_y_undoney : Nat → Int32} {rry : Int32} {mb : Nat} (hT : TQ2 t_guests t_snows t_bend t_hour t_kindsF t_yardsF t_pacesF t_skillsF t_snowF y_supperF y_kindF y_offToldF y_paceF y_cooksF y_snowF) (hR : RE t_guests mb y_paceF d_inside d_night d_minute d_yardsF d_pacesF d_stuckF d_hirersF d_placesF d_cameAtF d_cookedF y_sF) (hsw : y_snowNow = -1) (hmb : mb ≤ 1000000) (h1 : (u_d_7x, u_d_8x, u_d_9x, u_d_10x, u_d_11x, u_d_12x, u_d_yardsx, u_d_pacesx, u_d_stuckx, u_d_hirersx, u_d_placesx, u_d_cameAtx, u_d_cookedx, u_tw_4x, u_tw_stackx, u_tw_factsx, u_pa_1x, u_kr_7x, u_kr_8x, u_kr_9x, u_kr_10x, u_kr_11x, u_kr_yardsx, u_kr_pacesx, u_kr_stuckx, u_kr_hirersx, u_kr_placesx, u_kr_cameAtx, u_kr_cookedx, rrx) = fX8_minuteB d_inside d_night d_minute d_tasted d_lastCook d_yardsF d_pacesF d_stuckF d_hirersF d_placesF d_cameAtF d_cookedF t_guests t_snows t_bend t_hour t_kindsF t_yardsF t_pacesF t_skillsF t_snowF tw_length tw_top tw_codeF tw_stackF tw_factsF pa_first kr_yardsF kr_pacesF kr_stuckF kr_hirersF kr_placesF kr_cameAtF kr_cookedF) (h2 : (u_y_0y, u_y_49y, u_y_51y, u_y_kepty, u_y_keptByy, u_y_aheady, u_y_againsty, u_y_sumy, u_y_sumByy, u_y_termy, u_y_termByy, u_y_byNoty, u_y_valueOfy, u_y_sy, u_y_undoney, rry) = fX9_minute y_done y_snowNow y_supperF y_kindF y_offToldF y_paceF y_cooksF y_snowF y_lineFromF y_lineToF y_codesF y_keptF y_keptByF y_aheadF y_againstF y_sumF y_sumByF y_termF y_termByF y_byNotF y_valueOfF y_sF y_undoneF) : rrx = rry := by
  have hsn := sno_ hT (hR.1.2.2.2.2.2.2.2.2.2.2.2).1 (hR.1.2.2.2.2.2.2.2.2.2.2.2).2 hmb
  obtain ⟨ins9, ni9, mi9, ta9, lc9, y9, pc9, st9, hi9, pl9, ca9, ck9, wt9, ws9, wf9, v1, v2, v3, v4, v5, v6, v7, v8, v9, v10, s9, r, e1, e2, e3, e4⟩ := mnE_ (sNow := y_snowNow) (ta := d_tasted) (lc := d_lastCook) (wl := tw_length) (wt := tw_top) (wc := tw_codeF) (ws := tw_stackF) (wf := tw_factsF) (lf := y_lineFromF) (lt := y_lineToF) (co := y_codesF) (kp := y_keptF) (kb := y_keptByF) (ah := y_aheadF) (ag := y_againstF) (su := y_sumF) (sb := y_sumByF) (te := y_termF) (tb := y_termByF) (bn := y_byNotF) (vo := y_valueOfF) hT hmb hR (show (if (0 : Int32) ≤ y_snowNow then y_snowNow else fX9_snowOf (y_sF 1) y_supperF y_snowF) = fX7_snowAt d_minute t_snows t_snowF by rw [hsw, if_neg (by decide), hsn, (hR.1.2.2.2.2.2.2.2.2.1)])
  unfold fX8_minuteB fX4_pass at h1
  unfold fX9_minute at h2
  rw [bn1_, e1, bn17_] at h1
  rw [e2] at h2
  exact (show rrx = r from (congrArg (fun z => z.2.2.2.2.2.2.2.2.2.2.2.2.2.2.2.2.2.2.2.2.2.2.2.2.2.2.2.2.2) h1).trans rfl).trans (show rry = r from (congrArg (fun z => z.2.2.2.2.2.2.2.2.2.2.2.2.2.2.2) h2).trans rfl).symm
set_option maxHeartbeats 4000000 in
theorem an_undoC {d_yardsF : Nat → Int32} {d_pacesF : Nat → Int32} {d_stuckF : Nat → Int32} {d_hirersF : Nat → Int32} {d_placesF : Nat → Int32} {d_cameAtF : Nat → Int32} {d_cookedF : Nat → Int32} {pa_size : Nat} {kr_inside : Int32} {kr_night : Int32} {kr_minute : Int32} {kr_tasted : Int32} {kr_lastCook : Int32} {kr_yardsF : Nat → Int32} {kr_pacesF : Nat → Int32} {kr_stuckF : Nat → Int32} {kr_hirersF : Nat → Int32} {kr_placesF : Nat → Int32} {kr_cameAtF : Nat → Int32} {kr_cookedF : Nat → Int32} {y_done : Nat} {y_sF : Nat → Int32} {y_undoneF : Nat → Int32} {u_d_7x : Int32} {u_d_8x : Int32} {u_d_9x : Int32} {u_d_10x : Int32} {u_d_11x : Int32} {u_d_yardsx : Nat → Int32} {u_d_pacesx : Nat → Int32} {u_d_stuckx : Nat → Int32} {u_d_hirersx : Nat → Int32} {u_d_placesx : Nat → Int32} {u_d_cameAtx : Nat → Int32} {u_d_cookedx : Nat → Int32} {u_pa_2x : Nat} {ubx : Bool} {u_y_0y : Int32} {u_y_49y : Nat} {u_y_sy : Nat → Int32} {uby : Bool}  (hd : pa_size = y_done) (h1s : 1 ≤ pa_size) (h1 : (u_d_7x, u_d_8x, u_d_9x, u_d_10x, u_d_11x, u_d_yardsx, u_d_pacesx, u_d_stuckx, u_d_hirersx, u_d_placesx, u_d_cameAtx, u_d_cookedx, u_pa_2x, ubx) = fX8_undoC d_yardsF d_pacesF d_stuckF d_hirersF d_placesF d_cameAtF d_cookedF pa_size kr_inside kr_night kr_minute kr_tasted kr_lastCook kr_yardsF kr_pacesF kr_stuckF kr_hirersF kr_placesF kr_cameAtF kr_cookedF) (h2 : (u_y_0y, u_y_49y, u_y_sy, uby) = fX9_undo y_done y_sF y_undoneF) : ubx = uby := by
  unfold fX8_undoC fX3_giveBackC at h1
  unfold fX9_undo at h2
  rw [if_neg (by omega)] at h2
  exact (show ubx = true from (congrArg (fun z => z.2.2.2.2.2.2.2.2.2.2.2.2.2) h1).trans rfl).trans (show uby = true from (congrArg (fun z => z.2.2.2) h2).trans rfl).symm
