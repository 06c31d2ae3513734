/-! what can be done, on the whole state: by both -/
theorem nyv_le {nr y p s : Int32} (hy : 0 ≤ Int32.toInt y) (hn : Int32.toInt nr ≤ Int32.toInt y) : Int32.toInt (nyv nr y p s) ≤ Int32.toInt y := by
  unfold nyv
  have hm : 1 ≤ Int32.toInt (if 1 < (p - s) then (p - s) else 1) := by
    by_cases c : (1 : Int32) < (p - s)
    · rw [if_pos c]
      rw [Int32.lt_iff_toInt_lt, show Int32.toInt 1 = 1 by decide] at c
      omega
    · rw [if_neg c]; decide
  have hM := Int32.toInt_lt (if 1 < (p - s) then (p - s) else 1)
  generalize (if 1 < (p - s) then (p - s) else 1) = m at hm hM ⊢
  have hY := Int32.toInt_lt y
  have hs : Int32.toInt (y - m) = Int32.toInt y - Int32.toInt m := tI_sub rfl rfl (by omega) (by omega)
  by_cases c : nr < y - m
  · rw [if_pos c, hs]; omega
  · rw [if_neg c]; exact hn
theorem NY_le {be sn : Int32} {hb : Nat → Bool} {y st pc : Nat → Int32} {q : Nat} (hy : 0 ≤ Int32.toInt (y q)) : Int32.toInt (NY be sn hb y st pc q) ≤ Int32.toInt (y q) := by
  unfold NY
  by_cases c1 : onR y q = true
  · rw [if_pos c1]
    by_cases c2 : st q ≤ 0
    · rw [if_pos c2]
      unfold tgt
      refine nyv_le hy ?_
      cases hb q with
      | true =>
        rw [if_pos rfl]
        by_cases c3 : be < y q
        · rw [if_pos c3]; rw [Int32.lt_iff_toInt_lt] at c3; omega
        · rw [if_neg c3]; exact Int.le_refl _
      | false => rw [if_neg (by decide)]; exact hy
    · rw [if_neg c2]; exact Int.le_refl _
  · rw [if_neg c1]; exact Int.le_refl _
set_option maxHeartbeats 4000000 in
theorem mnE_ {g B wl wt : Nat} {sn sNow be ho ins ni mi ta lc : Int32} {y pc st hi pl ca ck ki ty tp sk wc ws wf sup k9 o9 p9 c9 sn9 lf lt co kp kb ah ag su sb te tb bn vo s : Nat → Int32} {ns : Nat} {snw : Nat → Int32} (hT : TQ2 g ns be ho ki ty tp sk snw sup k9 o9 p9 c9 sn9) (hB : B ≤ 1000000) (hR : RE g B p9 ins ni mi y pc st hi pl ca ck s) (hsn : (if (0 : Int32) ≤ sNow then sNow else fX9_snowOf (s 1) sup sn9) = sn) :
    ∃ ins' ni' mi' ta' lc' y' pc' st' hi' pl' ca' ck' wt' ws' wf' v1 v2 v3 v4 v5 v6 v7 v8 v9 v10 s' r, fX4_passBySnow sn ins ni mi ta lc y pc st hi pl ca ck g be ho ki ty tp sk wl wt wc ws wf = (ins', ni', mi', ta', lc', anyB (MV be sn (hld g y ki hi ins) y st pc) g, y', pc', st', hi', pl', ca', ck', wt', ws', wf', r) ∧ fX9_passes sNow sup k9 o9 p9 c9 sn9 lf lt co kp kb ah ag su sb te tb bn vo s = (nI (BS (CM be sn (hld g y ki hi ins) y st pc) g), v1, v2, v3, v4, v5, v6, v7, v8, v9, v10, s', r) ∧ RE g (B + 1) p9 ins' ni' mi' y' pc' st' hi' pl' ca' ck' s' ∧ ((r = -1 ∧ lc' = lc ∧ ni' = ni ∧ mi' = mi + 1 ∧ ta' = ta ∧ pc' = pc ∧ hi' = hi ∧ ck' = ck ∧ y' = (SEQ (NY be sn (hld g y ki hi ins) y st pc) y g) ∧ st' = (SEQ (NS y st) st g) ∧ pl' = (SEQ (PLf (g - cnt (onR y) g) pl be sn (hld g y ki hi ins) y st pc) pl g) ∧ ca' = (SEQ (CAf mi ca be sn (hld g y ki hi ins) y st pc) ca g) ∧ ins' = nI ((g - cnt (onR y) g) + cnt (CM be sn (hld g y ki hi ins) y st pc) g) ∧ (g = 0 ∨ (g - cnt (onR y) g) + cnt (CM be sn (hld g y ki hi ins) y st pc) g < g)) ∨ ∃ c, c < g ∧ r = nI c ∧ lc' = nI c ∧ ni' = ni + 1 ∧ mi' = 0 ∧ (∀ i, i < 6 → y' i = ifg g ty i) ∧ ¬ g = 0 ∧ (g - cnt (onR y) g) + cnt (CM be sn (hld g y ki hi ins) y st pc) g = g ∧ ∀ i, i < 6 → ca' i = -1) := by
  obtain ⟨ins9, ni9, mi9, ta9, lc9, y9, pc9, st9, hi9, pl9, ca9, ck9, wt9, ws9, wf9, v1, v2, v3, v4, v5, v6, v7, v8, v9, v10, s9, r, e1, e2, e3, e4⟩ := mn_ (ta := ta) (lc := lc) (wl := wl) (wt := wt) (sk := sk) (ho := ho) (wc := wc) (ws := ws) (wf := wf) (c9 := c9) (lf := lf) (lt := lt) (co := co) (kp := kp) (kb := kb) (ah := ah) (ag := ag) (su := su) (sb := sb) (te := te) (tb := tb) (bn := bn) (vo := vo) hT.1 hB hR.1 hsn
  refine ⟨ins9, ni9, mi9, ta9, lc9, y9, pc9, st9, hi9, pl9, ca9, ck9, wt9, ws9, wf9, v1, v2, v3, v4, v5, v6, v7, v8, v9, v10, s9, r, e1, e2, ⟨e3, fun i hi6 => ?_, fun q hq => ?_, ?_⟩, e4⟩
  · rcases e4 with ⟨_, _, _, _, _, _, _, _, ey, _⟩ | ⟨c, _, _, _, _, _, ey, _⟩
    · rw [ey]
      by_cases c : i < g
      · rw [SEQ_lt c]
        have h1 := NY_le (be := be) (sn := sn) (hb := hld g y ki hi ins) (st := st) (pc := pc) (hR.1.1 i (by omega))
        have h2 := hR.2.1 i (by omega)
        omega
      · rw [SEQ_ge (by omega)]; exact hR.2.1 i (by omega)
    · rw [ey i (by omega)]
      unfold ifg
      by_cases c : i < g
      · rw [if_pos c]; exact (hT.2.1 i c).2.1
      · rw [if_neg c]; decide
  · rcases e4 with ⟨_, _, _, em, _, _, _, _, ey, _, _, ec, _⟩ | ⟨c, _, _, _, _, _, ey, _, _, ec⟩
    · have hm := hR.1.2.2.2.2.2.2.2.2.2.2.2
      have h3 := hR.2.2.1 q hq
      have e1m : Int32.toInt (mi + 1) = Int32.toInt mi + 1 := tI_add rfl (show Int32.toInt 1 = 1 by decide) (by omega) (by omega)
      rw [ec, SEQ_lt hq, ey, SEQ_lt hq, em, e1m]
      unfold CAf
      by_cases d : CM be sn (hld g y ki hi ins) y st pc q = true
      · rw [if_pos d]
        exact ⟨fun _ => ⟨hm.1, by omega⟩, fun z => absurd (CM_t d).2 z⟩
      · rw [if_neg d]
        refine ⟨fun z => ?_, fun z => h3.2 (fun z0 => z (NY_in z0).1)⟩
        have h4 := h3.1 ((cm_or z).resolve_right d)
        exact ⟨h4.1, by omega⟩
    · have hg := hT.1.1
      rw [ey q (by omega), ec q (by omega)]
      refine ⟨fun hz => ?_, fun _ => rfl⟩
      exfalso
      unfold ifg at hz
      rw [if_pos hq] at hz
      have h1 := (hT.1.2.2.2.2 q hq).2.2.2.1
      rw [hz, show Int32.toInt 0 = 0 by decide] at h1
      omega
  · have hb := hR.2.2.2
    rcases e4 with ⟨_, _, en, _⟩ | ⟨c, _, _, _, en, _⟩
    · rw [en]; exact ⟨hb.1, by omega⟩
    · rw [en, tI_add rfl (show Int32.toInt 1 = 1 by decide) (by omega) (by omega)]; exact ⟨by omega, by omega⟩
theorem can_ {g B : Nat} {q r : Int32} {p9 : Nat → Int32} {ins ni mi : Int32} {y pc st hi pl ca ck s sup : Nat → Int32} (hg : g ≤ 6) (hs : sup 0 = nI g) (hR : RD g B p9 ins ni mi y pc st hi pl ca ck s) : fX4_canEngage q r y hi = fX9_canHire q r sup s ∧ (fX9_canHire q r sup s = true → ∃ i j, i < g ∧ j < g ∧ q = nI i ∧ r = nI j) := by
  obtain ⟨r1, r2, r3, r4, r5, r6, r7, r8, r9, r10, r11, r12⟩ := hR
  obtain ⟨_, a2, a3⟩ := onr_ (q := q) hg hs r1 (fun i hi => (r2 i hi).1) (fun i a b => (r6 i a b).1)
  obtain ⟨_, b2, b3⟩ := onr_ (q := r) hg hs r1 (fun i hi => (r2 i hi).1) (fun i a b => (r6 i a b).1)
  unfold fX4_canEngage fX4_canEngage_J35a fX9_canHire fX9_canHire_J37a
  simp only [bn1_]
  rw [a2, b2]
  by_cases e : q = r
  · rw [if_pos e, if_pos e]; exact ⟨rfl, fun z => Bool.noConfusion z⟩
  rw [if_neg e, if_neg e]
  by_cases c1 : fX9_isOnRoad q sup s = true
  · rw [if_pos c1, if_pos c1]
    by_cases c2 : fX9_isOnRoad r sup s = true
    · rw [if_pos c2, if_pos c2]
      obtain ⟨i, i1, i2, i3⟩ := a3.mp c1
      obtain ⟨j, j1, j2, j3⟩ := b3.mp c2
      subst i2
      subst j2
      rw [show (34 : Int32) + nI j = nI (34 + j) from nI_add 34 j, nI_clamp (n := 34 + j) (by omega), nI_clamp (n := j) (by omega)]
      rcases r3 j j1 with ⟨d1, d2⟩ | ⟨k, d0, d1, d2⟩
      · rw [if_pos d1, if_pos d2]; exact ⟨rfl, fun _ => ⟨i, j, i1, j1, rfl, rfl⟩⟩
      · rw [d1, d2, if_neg (show ¬ (nI k = -1) from fun z => by
          have := congrArg Int32.toInt z
          rw [nI_toInt (by omega), show Int32.toInt (-1) = -1 by decide] at this; omega), if_neg (show ¬ (nI (k + 1) = 0) from fun z => by have := (nI_eq (a := k + 1) (b := 0) (by omega) (by omega)).mp z; omega)]
        exact ⟨rfl, fun z => Bool.noConfusion z⟩
    · rw [if_neg c2, if_neg c2]; exact ⟨rfl, fun z => Bool.noConfusion z⟩
  · rw [if_neg c1, if_neg c1]; exact ⟨rfl, fun z => Bool.noConfusion z⟩
set_option maxHeartbeats 4000000 in
theorem op_wheelA {g : Int32} {mi : Int32} {t_guests : Nat} {d_inside : Int32} {d_night : Int32} {d_minute : Int32} {d_tasted : Int32} {d_lastCook : Int32} {d_yardsF : Nat → Int32} {d_pacesF : Nat → Int32} {d_stuckF : Nat → Int32} {d_hirersF : Nat → Int32} {d_placesF : Nat → Int32} {d_cameAtF : Nat → Int32} {d_cookedF : Nat → Int32} {pa_size : Nat} {kr_inside : Int32} {kr_night : Int32} {kr_minute : Int32} {kr_tasted : Int32} {kr_lastCook : Int32} {kr_yardsF : Nat → Int32} {kr_pacesF : Nat → Int32} {kr_stuckF : Nat → Int32} {kr_hirersF : Nat → Int32} {kr_placesF : Nat → Int32} {kr_cameAtF : Nat → Int32} {kr_cookedF : Nat → Int32} {y_done : Nat} {y_supperF : Nat → Int32} {y_sF : Nat → Int32} {y_undoneF : Nat → Int32} {u_d_stuckx : Nat → Int32} {u_pa_2x : Nat} {u_kr_7x : Int32} {u_kr_8x : Int32} {u_kr_9x : Int32} {u_kr_10x : Int32} {u_kr_11x : Int32} {u_kr_yardsx : Nat → Int32} {u_kr_pacesx : Nat → Int32} {u_kr_stuckx : Nat → Int32} {u_kr_hirersx : Nat → Int32} {u_kr_placesx : Nat → Int32} {u_kr_cameAtx : Nat → Int32} {u_kr_cookedx : Nat → Int32} {rrx : Int32} {u_y_0y : Int32} {u_y_49y : Nat} {u_y_sy : Nat → Int32} {u_y_undoney : Nat → Int32} {rry : Int32} {t_snows : Nat} {t_bend : Int32} {t_hour : Int32} {t_kindsF : Nat → Int32} {t_yardsF : Nat → Int32} {t_pacesF : Nat → Int32} {t_skillsF : Nat → Int32} {t_snowF : Nat → Int32} {y_kindF : Nat → Int32} {y_offToldF : Nat → Int32} {y_paceF : Nat → Int32} {y_cooksF : Nat → Int32} {y_snowF : Nat → Int32} {mb : Nat} {pa_first : Nat} (hT : TQ2 t_guests t_snows t_bend t_hour t_kindsF t_yardsF t_pacesF t_skillsF t_snowF y_supperF y_kindF y_offToldF y_paceF y_cooksF y_snowF) (hR : RE t_guests mb y_paceF d_inside d_night d_minute d_yardsF d_pacesF d_stuckF d_hirersF d_placesF d_cameAtF d_cookedF y_sF) (hd : pa_size = y_done) (h15 : pa_size ≤ 15) (h1 : (u_d_stuckx, u_pa_2x, u_kr_7x, u_kr_8x, u_kr_9x, u_kr_10x, u_kr_11x, u_kr_yardsx, u_kr_pacesx, u_kr_stuckx, u_kr_hirersx, u_kr_placesx, u_kr_cameAtx, u_kr_cookedx, rrx) = fX8_wheelA g mi t_guests d_inside d_night d_minute d_tasted d_lastCook d_yardsF d_pacesF d_stuckF d_hirersF d_placesF d_cameAtF d_cookedF pa_size kr_inside kr_night kr_minute kr_tasted kr_lastCook kr_yardsF kr_pacesF kr_stuckF kr_hirersF kr_placesF kr_cameAtF kr_cookedF) (h2 : (u_y_0y, u_y_49y, u_y_sy, u_y_undoney, rry) = fX9_wheel g mi y_done y_supperF y_sF y_undoneF) : rrx = rry ∧ RE t_guests mb y_paceF d_inside d_night d_minute d_yardsF d_pacesF u_d_stuckx d_hirersF d_placesF d_cameAtF d_cookedF u_y_sy ∧ u_pa_2x = u_y_49y ∧ PX t_guests mb y_paceF ((pa_first + pa_size) % 16) pa_first pa_size pa_first u_pa_2x u_kr_7x u_kr_8x u_kr_9x u_kr_yardsx u_kr_pacesx u_kr_stuckx u_kr_hirersx u_kr_placesx u_kr_cameAtx u_kr_cookedx y_undoneF u_y_undoney := by
  obtain ⟨hg, hs, hbe, hb0, hq9⟩ := hT.1
  subst hd
  obtain ⟨o1, o2, o3⟩ := onr_ (q := g) hg hs hR.1.1 (fun i hi => (hR.1.2.1 i hi).1) (fun i a b => (hR.1.2.2.2.2.2.1 i a b).1)
  unfold fX8_wheelA fX8_wheelA_J18a fX3_keepA fX4_copyFrom fX4_loseWheel at h1
  unfold fX9_wheel fX9_wheel_J23a fX9_wheels at h2
  simp only [bn1_] at h1 h2
  rw [o1] at h1
  by_cases c1 : fX9_isOnRoad g y_supperF y_sF = true
  · rw [if_pos c1] at h1 h2
    rw [wi_] at h1
    by_cases c2 : fX9_within mi 1 60 = true
    · rw [if_pos c2] at h1 h2
      obtain ⟨i, i1, i2, i3⟩ := o3.mp c1
      rw [kp_A h15, bn2_] at h2
      rw [bn12_, bn13_, o2, if_pos c1, bn2_] at h1
      subst i2
      rw [nI_clamp (n := i) (by omega)] at h1
      rw [show (22 : Int32) + nI i = nI (22 + i) from nI_add 22 i, nI_clamp (n := 22 + i) (by omega)] at h2
      rw [← (hR.1.2.1 i i1).2.2.2.1] at h2
      simp only [Prod.mk.injEq] at h1 h2
      obtain ⟨rfl, rfl, rfl, rfl, rfl, rfl, rfl, rfl, rfl, rfl, rfl, rfl, rfl, rfl, rfl⟩ := h1
      obtain ⟨rfl, rfl, rfl, rfl, rfl⟩ := h2
      exact ⟨by rw [upd_e, upd_e], ⟨RD_wheel i1 hg hR.1, hR.2⟩, rfl, PX_A hg h15 hR⟩
    · rw [if_neg c2] at h1 h2
      simp only [Prod.mk.injEq] at h1 h2
      obtain ⟨rfl, rfl, rfl, rfl, rfl, rfl, rfl, rfl, rfl, rfl, rfl, rfl, rfl, rfl, rfl⟩ := h1
      obtain ⟨rfl, rfl, rfl, rfl, rfl⟩ := h2
      exact ⟨rfl, hR, rfl, PX_A0 h15⟩
  · rw [if_neg c1] at h1 h2
    simp only [Prod.mk.injEq] at h1 h2
    obtain ⟨rfl, rfl, rfl, rfl, rfl, rfl, rfl, rfl, rfl, rfl, rfl, rfl, rfl, rfl, rfl⟩ := h1
    obtain ⟨rfl, rfl, rfl, rfl, rfl⟩ := h2
    exact ⟨rfl, hR, rfl, PX_A0 h15⟩
set_option maxHeartbeats 4000000 in
theorem op_runA {g : Int32} {mi : Int32} {t_guests : Nat} {d_inside : Int32} {d_night : Int32} {d_minute : Int32} {d_tasted : Int32} {d_lastCook : Int32} {d_yardsF : Nat → Int32} {d_pacesF : Nat → Int32} {d_stuckF : Nat → Int32} {d_hirersF : Nat → Int32} {d_placesF : Nat → Int32} {d_cameAtF : Nat → Int32} {d_cookedF : Nat → Int32} {pa_size : Nat} {kr_inside : Int32} {kr_night : Int32} {kr_minute : Int32} {kr_tasted : Int32} {kr_lastCook : Int32} {kr_yardsF : Nat → Int32} {kr_pacesF : Nat → Int32} {kr_stuckF : Nat → Int32} {kr_hirersF : Nat → Int32} {kr_placesF : Nat → Int32} {kr_cameAtF : Nat → Int32} {kr_cookedF : Nat → Int32} {y_done : Nat} {y_supperF : Nat → Int32} {y_paceF : Nat → Int32} {y_sF : Nat → Int32} {y_undoneF : Nat → Int32} {u_d_pacesx : Nat → Int32} {u_pa_2x : Nat} {u_kr_7x : Int32} {u_kr_8x : Int32} {u_kr_9x : Int32} {u_kr_10x : Int32} {u_kr_11x : Int32} {u_kr_yardsx : Nat → Int32} {u_kr_pacesx : Nat → Int32} {u_kr_stuckx : Nat → Int32} {u_kr_hirersx : Nat → Int32} {u_kr_placesx : Nat → Int32} {u_kr_cameAtx : Nat → Int32} {u_kr_cookedx : Nat → Int32} {rrx : Int32} {u_y_0y : Int32} {u_y_49y : Nat} {u_y_sy : Nat → Int32} {u_y_undoney : Nat → Int32} {rry : Int32} {t_snows : Nat} {t_bend : Int32} {t_hour : Int32} {t_kindsF : Nat → Int32} {t_yardsF : Nat → Int32} {t_pacesF : Nat → Int32} {t_skillsF : Nat → Int32} {t_snowF : Nat → Int32} {y_kindF : Nat → Int32} {y_offToldF : Nat → Int32} {y_cooksF : Nat → Int32} {y_snowF : Nat → Int32} {mb : Nat} {pa_first : Nat} (hT : TQ2 t_guests t_snows t_bend t_hour t_kindsF t_yardsF t_pacesF t_skillsF t_snowF y_supperF y_kindF y_offToldF y_paceF y_cooksF y_snowF) (hR : RE t_guests mb y_paceF d_inside d_night d_minute d_yardsF d_pacesF d_stuckF d_hirersF d_placesF d_cameAtF d_cookedF y_sF) (hd : pa_size = y_done) (h15 : pa_size ≤ 15) (h1 : (u_d_pacesx, u_pa_2x, u_kr_7x, u_kr_8x, u_kr_9x, u_kr_10x, u_kr_11x, u_kr_yardsx, u_kr_pacesx, u_kr_stuckx, u_kr_hirersx, u_kr_placesx, u_kr_cameAtx, u_kr_cookedx, rrx) = fX8_runA g mi t_guests d_inside d_night d_minute d_tasted d_lastCook d_yardsF d_pacesF d_stuckF d_hirersF d_placesF d_cameAtF d_cookedF pa_size kr_inside kr_night kr_minute kr_tasted kr_lastCook kr_yardsF kr_pacesF kr_stuckF kr_hirersF kr_placesF kr_cameAtF kr_cookedF) (h2 : (u_y_0y, u_y_49y, u_y_sy, u_y_undoney, rry) = fX9_run g mi y_done y_supperF y_paceF y_sF y_undoneF) : rrx = rry ∧ RE t_guests mb y_paceF d_inside d_night d_minute d_yardsF u_d_pacesx d_stuckF d_hirersF d_placesF d_cameAtF d_cookedF u_y_sy ∧ u_pa_2x = u_y_49y ∧ PX t_guests mb y_paceF ((pa_first + pa_size) % 16) pa_first pa_size pa_first u_pa_2x u_kr_7x u_kr_8x u_kr_9x u_kr_yardsx u_kr_pacesx u_kr_stuckx u_kr_hirersx u_kr_placesx u_kr_cameAtx u_kr_cookedx y_undoneF u_y_undoney := by
  obtain ⟨hg, hs, hbe, hb0, hq9⟩ := hT.1
  subst hd
  obtain ⟨o1, o2, o3⟩ := onr_ (q := g) hg hs hR.1.1 (fun i hi => (hR.1.2.1 i hi).1) (fun i a b => (hR.1.2.2.2.2.2.1 i a b).1)
  unfold fX8_runA fX8_runA_J18a fX3_keepA fX4_copyFrom fX4_quicken at h1
  unfold fX9_run fX9_run_J23a fX9_runs fX9_paceOf at h2
  simp only [bn1_] at h1 h2
  rw [o1] at h1
  by_cases c1 : fX9_isOnRoad g y_supperF y_sF = true
  · rw [if_pos c1] at h1 h2
    rw [wi_] at h1
    by_cases c2 : fX9_within mi 1 9 = true
    · rw [if_pos c2] at h1 h2
      obtain ⟨i, i1, i2, i3⟩ := o3.mp c1
      rw [kp_A h15, bn2_] at h2
      rw [bn12_, bn13_, o2, if_pos c1, bn2_] at h1
      subst i2
      rw [nI_clamp (n := i) (by omega)] at h1
      rw [show (28 : Int32) + nI i = nI (28 + i) from nI_add 28 i, nI_clamp (n := 28 + i) (by omega)] at h2
      rw [nI_clamp (n := i) (by omega)] at h2
      have hm := wi_t.mp c2
      rw [show Int32.toInt 1 = 1 by decide, show Int32.toInt 9 = 9 by decide] at hm
      have hp := (hq9 i i1).2.2
      rw [hp.1] at hp
      have hN := RD_run i1 hg (show 0 ≤ Int32.toInt mi by omega) hm.2 hp.2.2.1 hp.2.2.2 hR.1
      simp only [Prod.mk.injEq] at h1 h2
      obtain ⟨rfl, rfl, rfl, rfl, rfl, rfl, rfl, rfl, rfl, rfl, rfl, rfl, rfl, rfl, rfl⟩ := h1
      obtain ⟨rfl, rfl, rfl, rfl, rfl⟩ := h2
      exact ⟨(hN.2.1 i i1).2.2.2.2.1, ⟨hN, hR.2⟩, rfl, PX_A hg h15 hR⟩
    · rw [if_neg c2] at h1 h2
      simp only [Prod.mk.injEq] at h1 h2
      obtain ⟨rfl, rfl, rfl, rfl, rfl, rfl, rfl, rfl, rfl, rfl, rfl, rfl, rfl, rfl, rfl⟩ := h1
      obtain ⟨rfl, rfl, rfl, rfl, rfl⟩ := h2
      exact ⟨rfl, hR, rfl, PX_A0 h15⟩
  · rw [if_neg c1] at h1 h2
    simp only [Prod.mk.injEq] at h1 h2
    obtain ⟨rfl, rfl, rfl, rfl, rfl, rfl, rfl, rfl, rfl, rfl, rfl, rfl, rfl, rfl, rfl⟩ := h1
    obtain ⟨rfl, rfl, rfl, rfl, rfl⟩ := h2
    exact ⟨rfl, hR, rfl, PX_A0 h15⟩
set_option maxHeartbeats 4000000 in
theorem op_hireA {g : Int32} {o : Int32} {d_inside : Int32} {d_night : Int32} {d_minute : Int32} {d_tasted : Int32} {d_lastCook : Int32} {d_yardsF : Nat → Int32} {d_pacesF : Nat → Int32} {d_stuckF : Nat → Int32} {d_hirersF : Nat → Int32} {d_placesF : Nat → Int32} {d_cameAtF : Nat → Int32} {d_cookedF : Nat → Int32} {pa_size : Nat} {kr_inside : Int32} {kr_night : Int32} {kr_minute : Int32} {kr_tasted : Int32} {kr_lastCook : Int32} {kr_yardsF : Nat → Int32} {kr_pacesF : Nat → Int32} {kr_stuckF : Nat → Int32} {kr_hirersF : Nat → Int32} {kr_placesF : Nat → Int32} {kr_cameAtF : Nat → Int32} {kr_cookedF : Nat → Int32} {y_done : Nat} {y_supperF : Nat → Int32} {y_sF : Nat → Int32} {y_undoneF : Nat → Int32} {u_d_hirersx : Nat → Int32} {u_pa_2x : Nat} {u_kr_7x : Int32} {u_kr_8x : Int32} {u_kr_9x : Int32} {u_kr_10x : Int32} {u_kr_11x : Int32} {u_kr_yardsx : Nat → Int32} {u_kr_pacesx : Nat → Int32} {u_kr_stuckx : Nat → Int32} {u_kr_hirersx : Nat → Int32} {u_kr_placesx : Nat → Int32} {u_kr_cameAtx : Nat → Int32} {u_kr_cookedx : Nat → Int32} {ubx : Bool} {u_y_0y : Int32} {u_y_49y : Nat} {u_y_sy : Nat → Int32} {u_y_undoney : Nat → Int32} {uby : Bool} {t_guests : Nat} {t_snows : Nat} {t_bend : Int32} {t_hour : Int32} {t_kindsF : Nat → Int32} {t_yardsF : Nat → Int32} {t_pacesF : Nat → Int32} {t_skillsF : Nat → Int32} {t_snowF : Nat → Int32} {y_kindF : Nat → Int32} {y_offToldF : Nat → Int32} {y_paceF : Nat → Int32} {y_cooksF : Nat → Int32} {y_snowF : Nat → Int32} {mb : Nat} {pa_first : Nat} (hT : TQ2 t_guests t_snows t_bend t_hour t_kindsF t_yardsF t_pacesF t_skillsF t_snowF y_supperF y_kindF y_offToldF y_paceF y_cooksF y_snowF) (hR : RE t_guests mb y_paceF d_inside d_night d_minute d_yardsF d_pacesF d_stuckF d_hirersF d_placesF d_cameAtF d_cookedF y_sF) (hd : pa_size = y_done) (h15 : pa_size ≤ 15) (h1 : (u_d_hirersx, u_pa_2x, u_kr_7x, u_kr_8x, u_kr_9x, u_kr_10x, u_kr_11x, u_kr_yardsx, u_kr_pacesx, u_kr_stuckx, u_kr_hirersx, u_kr_placesx, u_kr_cameAtx, u_kr_cookedx, ubx) = fX8_hireA g o d_inside d_night d_minute d_tasted d_lastCook d_yardsF d_pacesF d_stuckF d_hirersF d_placesF d_cameAtF d_cookedF pa_size kr_inside kr_night kr_minute kr_tasted kr_lastCook kr_yardsF kr_pacesF kr_stuckF kr_hirersF kr_placesF kr_cameAtF kr_cookedF) (h2 : (u_y_0y, u_y_49y, u_y_sy, u_y_undoney, uby) = fX9_hire g o y_done y_supperF y_sF y_undoneF) : ubx = uby ∧ RE t_guests mb y_paceF d_inside d_night d_minute d_yardsF d_pacesF d_stuckF u_d_hirersx d_placesF d_cameAtF d_cookedF u_y_sy ∧ u_pa_2x = u_y_49y ∧ PX t_guests mb y_paceF ((pa_first + pa_size) % 16) pa_first pa_size pa_first u_pa_2x u_kr_7x u_kr_8x u_kr_9x u_kr_yardsx u_kr_pacesx u_kr_stuckx u_kr_hirersx u_kr_placesx u_kr_cameAtx u_kr_cookedx y_undoneF u_y_undoney := by
  obtain ⟨hg, hs, hbe, hb0, hq9⟩ := hT.1
  subst hd
  obtain ⟨o1, o2⟩ := can_ (q := g) (r := o) hg hs hR.1
  unfold fX8_hireA fX3_keepA fX4_copyFrom fX4_engage at h1
  unfold fX9_hire at h2
  simp only [bn1_] at h1 h2
  rw [o1] at h1
  by_cases c1 : fX9_canHire g o y_supperF y_sF = true
  · rw [if_pos c1] at h1 h2
    obtain ⟨i, j, i1, j1, i2, j2⟩ := o2 c1
    rw [kp_A h15, bn2_] at h2
    rw [bn12_, bn13_, if_pos c1, bn2_] at h1
    subst i2
    subst j2
    rw [nI_clamp (n := j) (by omega)] at h1
    rw [show (34 : Int32) + nI j = nI (34 + j) from nI_add 34 j, nI_clamp (n := 34 + j) (by omega)] at h2
    simp only [Prod.mk.injEq] at h1 h2
    obtain ⟨rfl, rfl, rfl, rfl, rfl, rfl, rfl, rfl, rfl, rfl, rfl, rfl, rfl, rfl, rfl⟩ := h1
    obtain ⟨rfl, rfl, rfl, rfl, rfl⟩ := h2
    exact ⟨rfl, ⟨RD_hire i1 j1 hg hR.1, hR.2⟩, rfl, PX_A hg h15 hR⟩
  · rw [if_neg c1] at h1 h2
    simp only [Prod.mk.injEq] at h1 h2
    obtain ⟨rfl, rfl, rfl, rfl, rfl, rfl, rfl, rfl, rfl, rfl, rfl, rfl, rfl, rfl, rfl⟩ := h1
    obtain ⟨rfl, rfl, rfl, rfl, rfl⟩ := h2
    exact ⟨rfl, hR, rfl, PX_A0 h15⟩
set_option maxHeartbeats 4000000 in
theorem op_minuteA {d_inside : Int32} {d_night : Int32} {d_minute : Int32} {d_tasted : Int32} {d_lastCook : Int32} {d_yardsF : Nat → Int32} {d_pacesF : Nat → Int32} {d_stuckF : Nat → Int32} {d_hirersF : Nat → Int32} {d_placesF : Nat → Int32} {d_cameAtF : Nat → Int32} {d_cookedF : Nat → Int32} {t_guests : Nat} {t_snows : Nat} {t_bend : Int32} {t_hour : Int32} {t_kindsF : Nat → Int32} {t_yardsF : Nat → Int32} {t_pacesF : Nat → Int32} {t_skillsF : Nat → Int32} {t_snowF : Nat → Int32} {tw_length : Nat} {tw_top : Nat} {tw_codeF : Nat → Int32} {tw_stackF : Nat → Int32} {tw_factsF : Nat → Int32} {pa_size : Nat} {kr_yardsF : Nat → Int32} {kr_pacesF : Nat → Int32} {kr_stuckF : Nat → Int32} {kr_hirersF : Nat → Int32} {kr_placesF : Nat → Int32} {kr_cameAtF : Nat → Int32} {kr_cookedF : Nat → Int32} {y_done : Nat} {y_snowNow : Int32} {y_supperF : Nat → Int32} {y_kindF : Nat → Int32} {y_offToldF : Nat → Int32} {y_paceF : Nat → Int32} {y_cooksF : Nat → Int32} {y_snowF : Nat → Int32} {y_lineFromF : Nat → Int32} {y_lineToF : Nat → Int32} {y_codesF : Nat → Int32} {y_keptF : Nat → Int32} {y_keptByF : Nat → Int32} {y_aheadF : Nat → Int32} {y_againstF : Nat → Int32} {y_sumF : Nat → Int32} {y_sumByF : Nat → Int32} {y_termF : Nat → Int32} {y_termByF : Nat → Int32} {y_byNotF : Nat → Int32} {y_valueOfF : Nat → Int32} {y_sF : Nat → Int32} {y_undoneF : Nat → Int32} {u_d_7x : Int32} {u_d_8x : Int32} {u_d_9x : Int32} {u_d_10x : Int32} {u_d_11x : Int32} {u_d_12x : Bool} {u_d_yardsx : Nat → Int32} {u_d_pacesx : Nat → Int32} {u_d_stuckx : Nat → Int32} {u_d_hirersx : Nat → Int32} {u_d_placesx : Nat → Int32} {u_d_cameAtx : Nat → Int32} {u_d_cookedx : Nat → Int32} {u_tw_4x : Nat} {u_tw_stackx : Nat → Int32} {u_tw_factsx : Nat → Int32} {u_pa_2x : Nat} {u_kr_7x : Int32} {u_kr_8x : Int32} {u_kr_9x : Int32} {u_kr_10x : Int32} {u_kr_11x : Int32} {u_kr_yardsx : Nat → Int32} {u_kr_pacesx : Nat → Int32} {u_kr_stuckx : Nat → Int32} {u_kr_hirersx : Nat → Int32} {u_kr_placesx : Nat → Int32} {u_kr_cameAtx : Nat → Int32} {u_kr_cookedx : Nat → Int32} {rrx : Int32} {u_y_0y : Int32} {u_y_49y : Nat} {u_y_51y : Int32} {u_y_kepty : Nat → Int32} {u_y_keptByy : Nat → Int32} {u_y_aheady : Nat → Int32} {u_y_againsty : Nat → Int32} {u_y_sumy : Nat → Int32} {u_y_sumByy : Nat → Int32} {u_y_termy : Nat → Int32} {u_y_termByy : Nat → Int32} {u_y_byNoty : Nat → Int32} {u_y_valueOfy : Nat → Int32} {u_y_sy : Nat → Int32} {u_y_undoney : Nat → Int32} {rry : Int32} {mb : Nat} {pa_first : Nat} (hT : TQ2 t_guests t_snows t_bend t_hour t_kindsF t_yardsF t_pacesF t_skillsF t_snowF y_supperF y_kindF y_offToldF y_paceF y_cooksF y_snowF) (hR : RE t_guests mb y_paceF d_inside d_night d_minute d_yardsF d_pacesF d_stuckF d_hirersF d_placesF d_cameAtF d_cookedF y_sF) (hd : pa_size = y_done) (h15 : pa_size ≤ 15) (hsw : y_snowNow = -1) (hmb : mb ≤ 1000000) (h1 : (u_d_7x, u_d_8x, u_d_9x, u_d_10x, u_d_11x, u_d_12x, u_d_yardsx, u_d_pacesx, u_d_stuckx, u_d_hirersx, u_d_placesx, u_d_cameAtx, u_d_cookedx, u_tw_4x, u_tw_stackx, u_tw_factsx, u_pa_2x, u_kr_7x, u_kr_8x, u_kr_9x, u_kr_10x, u_kr_11x, u_kr_yardsx, u_kr_pacesx, u_kr_stuckx, u_kr_hirersx, u_kr_placesx, u_kr_cameAtx, u_kr_cookedx, rrx) = fX8_minuteA d_inside d_night d_minute d_tasted d_lastCook d_yardsF d_pacesF d_stuckF d_hirersF d_placesF d_cameAtF d_cookedF t_guests t_snows t_bend t_hour t_kindsF t_yardsF t_pacesF t_skillsF t_snowF tw_length tw_top tw_codeF tw_stackF tw_factsF pa_size kr_yardsF kr_pacesF kr_stuckF kr_hirersF kr_placesF kr_cameAtF kr_cookedF) (h2 : (u_y_0y, u_y_49y, u_y_51y, u_y_kepty, u_y_keptByy, u_y_aheady, u_y_againsty, u_y_sumy, u_y_sumByy, u_y_termy, u_y_termByy, u_y_byNoty, u_y_valueOfy, u_y_sy, u_y_undoney, rry) = fX9_minute y_done y_snowNow y_supperF y_kindF y_offToldF y_paceF y_cooksF y_snowF y_lineFromF y_lineToF y_codesF y_keptF y_keptByF y_aheadF y_againstF y_sumF y_sumByF y_termF y_termByF y_byNotF y_valueOfF y_sF y_undoneF) : rrx = rry ∧ RE t_guests (mb + 1) y_paceF u_d_7x u_d_8x u_d_9x u_d_yardsx u_d_pacesx u_d_stuckx u_d_hirersx u_d_placesx u_d_cameAtx u_d_cookedx u_y_sy ∧ u_pa_2x = u_y_49y ∧ PX t_guests (mb + 1) y_paceF ((pa_first + pa_size) % 16) pa_first pa_size pa_first u_pa_2x u_kr_7x u_kr_8x u_kr_9x u_kr_yardsx u_kr_pacesx u_kr_stuckx u_kr_hirersx u_kr_placesx u_kr_cameAtx u_kr_cookedx y_undoneF u_y_undoney := by
  obtain ⟨hg, hs, hbe, hb0, hq9⟩ := hT.1
  subst hd
  have hsn := sno_ hT (hR.1.2.2.2.2.2.2.2.2.2.2.2).1 (hR.1.2.2.2.2.2.2.2.2.2.2.2).2 hmb
  obtain ⟨ins9, ni9, mi9, ta9, lc9, y9, pc9, st9, hi9, pl9, ca9, ck9, wt9, ws9, wf9, v1, v2, v3, v4, v5, v6, v7, v8, v9, v10, s9, r, e1, e2, e3, e4⟩ := mnE_ (sNow := y_snowNow) (ta := d_tasted) (lc := d_lastCook) (wl := tw_length) (wt := tw_top) (wc := tw_codeF) (ws := tw_stackF) (wf := tw_factsF) (lf := y_lineFromF) (lt := y_lineToF) (co := y_codesF) (kp := y_keptF) (kb := y_keptByF) (ah := y_aheadF) (ag := y_againstF) (su := y_sumF) (sb := y_sumByF) (te := y_termF) (tb := y_termByF) (bn := y_byNotF) (vo := y_valueOfF) hT hmb hR (show (if (0 : Int32) ≤ y_snowNow then y_snowNow else fX9_snowOf (y_sF 1) y_supperF y_snowF) = fX7_snowAt d_minute t_snows t_snowF by rw [hsw, if_neg (by decide), hsn, (hR.1.2.2.2.2.2.2.2.2.1)])
  unfold fX8_minuteA fX3_keepA fX4_copyFrom fX4_pass at h1
  unfold fX9_minute at h2
  rw [kp_A h15, bn2_, e2, bn13_] at h2
  rw [bn12_, bn13_, bn1_, e1, bn17_, bn17_] at h1
  simp only [Prod.mk.injEq] at h1 h2
  obtain ⟨rfl, rfl, rfl, rfl, rfl, rfl, rfl, rfl, rfl, rfl, rfl, rfl, rfl, rfl, rfl, rfl, rfl, rfl, rfl, rfl, rfl, rfl, rfl, rfl, rfl, rfl, rfl, rfl, rfl, rfl⟩ := h1
  obtain ⟨rfl, rfl, rfl, rfl, rfl, rfl, rfl, rfl, rfl, rfl, rfl, rfl, rfl, rfl, rfl, rfl⟩ := h2
  have hR9 := RE_mono (B' := mb + 1) (by omega) hR
  exact ⟨rfl, e3, rfl, PX_A hg h15 hR9⟩
set_option maxHeartbeats 4000000 in
theorem op_wheelB {g : Int32} {mi : Int32} {t_guests : Nat} {d_inside : Int32} {d_night : Int32} {d_minute : Int32} {d_tasted : Int32} {d_lastCook : Int32} {d_yardsF : Nat → Int32} {d_pacesF : Nat → Int32} {d_stuckF : Nat → Int32} {d_hirersF : Nat → Int32} {d_placesF : Nat → Int32} {d_cameAtF : Nat → Int32} {d_cookedF : Nat → Int32} {pa_first : Nat} {kr_inside : Int32} {kr_night : Int32} {kr_minute : Int32} {kr_tasted : Int32} {kr_lastCook : Int32} {kr_yardsF : Nat → Int32} {kr_pacesF : Nat → Int32} {kr_stuckF : Nat → Int32} {kr_hirersF : Nat → Int32} {kr_placesF : Nat → Int32} {kr_cameAtF : Nat → Int32} {kr_cookedF : Nat → Int32} {y_done : Nat} {y_supperF : Nat → Int32} {y_sF : Nat → Int32} {y_undoneF : Nat → Int32} {u_d_stuckx : Nat → Int32} {u_pa_1x : Nat} {u_kr_7x : Int32} {u_kr_8x : Int32} {u_kr_9x : Int32} {u_kr_10x : Int32} {u_kr_11x : Int32} {u_kr_yardsx : Nat → Int32} {u_kr_pacesx : Nat → Int32} {u_kr_stuckx : Nat → Int32} {u_kr_hirersx : Nat → Int32} {u_kr_placesx : Nat → Int32} {u_kr_cameAtx : Nat → Int32} {u_kr_cookedx : Nat → Int32} {rrx : Int32} {u_y_0y : Int32} {u_y_49y : Nat} {u_y_sy : Nat → Int32} {u_y_undoney : Nat → Int32} {rry : Int32} {t_snows : Nat} {t_bend : Int32} {t_hour : Int32} {t_kindsF : Nat → Int32} {t_yardsF : Nat → Int32} {t_pacesF : Nat → Int32} {t_skillsF : Nat → Int32} {t_snowF : Nat → Int32} {y_kindF : Nat → Int32} {y_offToldF : Nat → Int32} {y_paceF : Nat → Int32} {y_cooksF : Nat → Int32} {y_snowF : Nat → Int32} {mb : Nat} (hT : TQ2 t_guests t_snows t_bend t_hour t_kindsF t_yardsF t_pacesF t_skillsF t_snowF y_supperF y_kindF y_offToldF y_paceF y_cooksF y_snowF) (hR : RE t_guests mb y_paceF d_inside d_night d_minute d_yardsF d_pacesF d_stuckF d_hirersF d_placesF d_cameAtF d_cookedF y_sF) (hd : 16 = y_done) (old : ∀ i, i < 16 → (pa_first + i) % 16 = ((pa_first + 1) % 16 + 15) % 16 → RE t_guests mb y_paceF kr_inside kr_night kr_minute kr_yardsF kr_pacesF kr_stuckF kr_hirersF kr_placesF kr_cameAtF kr_cookedF (fun c => y_undoneF (46 * i + c))) (h1 : (u_d_stuckx, u_pa_1x, u_kr_7x, u_kr_8x, u_kr_9x, u_kr_10x, u_kr_11x, u_kr_yardsx, u_kr_pacesx, u_kr_stuckx, u_kr_hirersx, u_kr_placesx, u_kr_cameAtx, u_kr_cookedx, rrx) = fX8_wheelB g mi t_guests d_inside d_night d_minute d_tasted d_lastCook d_yardsF d_pacesF d_stuckF d_hirersF d_placesF d_cameAtF d_cookedF pa_first kr_inside kr_night kr_minute kr_tasted kr_lastCook kr_yardsF kr_pacesF kr_stuckF kr_hirersF kr_placesF kr_cameAtF kr_cookedF) (h2 : (u_y_0y, u_y_49y, u_y_sy, u_y_undoney, rry) = fX9_wheel g mi y_done y_supperF y_sF y_undoneF) : rrx = rry ∧ RE t_guests mb y_paceF d_inside d_night d_minute d_yardsF d_pacesF u_d_stuckx d_hirersF d_placesF d_cameAtF d_cookedF u_y_sy ∧ 16 = u_y_49y ∧ PX t_guests mb y_paceF (((pa_first + 1) % 16 + 15) % 16) pa_first 16 u_pa_1x 16 u_kr_7x u_kr_8x u_kr_9x u_kr_yardsx u_kr_pacesx u_kr_stuckx u_kr_hirersx u_kr_placesx u_kr_cameAtx u_kr_cookedx y_undoneF u_y_undoney := by
  obtain ⟨hg, hs, hbe, hb0, hq9⟩ := hT.1
  subst hd
  obtain ⟨o1, o2, o3⟩ := onr_ (q := g) hg hs hR.1.1 (fun i hi => (hR.1.2.1 i hi).1) (fun i a b => (hR.1.2.2.2.2.2.1 i a b).1)
  unfold fX8_wheelB fX8_wheelB_J18a fX3_keepB fX4_copyFrom fX4_loseWheel at h1
  unfold fX9_wheel fX9_wheel_J23a fX9_wheels at h2
  simp only [bn1_] at h1 h2
  rw [o1] at h1
  by_cases c1 : fX9_isOnRoad g y_supperF y_sF = true
  · rw [if_pos c1] at h1 h2
    rw [wi_] at h1
    by_cases c2 : fX9_within mi 1 60 = true
    · rw [if_pos c2] at h1 h2
      obtain ⟨i, i1, i2, i3⟩ := o3.mp c1
      obtain ⟨un9, ek, ek1, ek2⟩ := kp_B (s := y_sF) (un := y_undoneF)
      rw [ek, bn2_] at h2
      rw [bn12_, bn13_, o2, if_pos c1, bn2_] at h1
      subst i2
      rw [nI_clamp (n := i) (by omega)] at h1
      rw [show (22 : Int32) + nI i = nI (22 + i) from nI_add 22 i, nI_clamp (n := 22 + i) (by omega)] at h2
      rw [← (hR.1.2.1 i i1).2.2.2.1] at h2
      simp only [Prod.mk.injEq] at h1 h2
      obtain ⟨rfl, rfl, rfl, rfl, rfl, rfl, rfl, rfl, rfl, rfl, rfl, rfl, rfl, rfl, rfl⟩ := h1
      obtain ⟨rfl, rfl, rfl, rfl, rfl⟩ := h2
      exact ⟨by rw [upd_e, upd_e], ⟨RD_wheel i1 hg hR.1, hR.2⟩, rfl, PX_B hg ek1 ek2 hR⟩
    · rw [if_neg c2] at h1 h2
      simp only [Prod.mk.injEq] at h1 h2
      obtain ⟨rfl, rfl, rfl, rfl, rfl, rfl, rfl, rfl, rfl, rfl, rfl, rfl, rfl, rfl, rfl⟩ := h1
      obtain ⟨rfl, rfl, rfl, rfl, rfl⟩ := h2
      exact ⟨rfl, hR, rfl, PX_B0 old⟩
  · rw [if_neg c1] at h1 h2
    simp only [Prod.mk.injEq] at h1 h2
    obtain ⟨rfl, rfl, rfl, rfl, rfl, rfl, rfl, rfl, rfl, rfl, rfl, rfl, rfl, rfl, rfl⟩ := h1
    obtain ⟨rfl, rfl, rfl, rfl, rfl⟩ := h2
    exact ⟨rfl, hR, rfl, PX_B0 old⟩
set_option maxHeartbeats 4000000 in
theorem op_runB {g : Int32} {mi : Int32} {t_guests : Nat} {d_inside : Int32} {d_night : Int32} {d_minute : Int32} {d_tasted : Int32} {d_lastCook : Int32} {d_yardsF : Nat → Int32} {d_pacesF : Nat → Int32} {d_stuckF : Nat → Int32} {d_hirersF : Nat → Int32} {d_placesF : Nat → Int32} {d_cameAtF : Nat → Int32} {d_cookedF : Nat → Int32} {pa_first : Nat} {kr_inside : Int32} {kr_night : Int32} {kr_minute : Int32} {kr_tasted : Int32} {kr_lastCook : Int32} {kr_yardsF : Nat → Int32} {kr_pacesF : Nat → Int32} {kr_stuckF : Nat → Int32} {kr_hirersF : Nat → Int32} {kr_placesF : Nat → Int32} {kr_cameAtF : Nat → Int32} {kr_cookedF : Nat → Int32} {y_done : Nat} {y_supperF : Nat → Int32} {y_paceF : Nat → Int32} {y_sF : Nat → Int32} {y_undoneF : Nat → Int32} {u_d_pacesx : Nat → Int32} {u_pa_1x : Nat} {u_kr_7x : Int32} {u_kr_8x : Int32} {u_kr_9x : Int32} {u_kr_10x : Int32} {u_kr_11x : Int32} {u_kr_yardsx : Nat → Int32} {u_kr_pacesx : Nat → Int32} {u_kr_stuckx : Nat → Int32} {u_kr_hirersx : Nat → Int32} {u_kr_placesx : Nat → Int32} {u_kr_cameAtx : Nat → Int32} {u_kr_cookedx : Nat → Int32} {rrx : Int32} {u_y_0y : Int32} {u_y_49y : Nat} {u_y_sy : Nat → Int32} {u_y_undoney : Nat → Int32} {rry : Int32} {t_snows : Nat} {t_bend : Int32} {t_hour : Int32} {t_kindsF : Nat → Int32} {t_yardsF : Nat → Int32} {t_pacesF : Nat → Int32} {t_skillsF : Nat → Int32} {t_snowF : Nat → Int32} {y_kindF : Nat → Int32} {y_offToldF : Nat → Int32} {y_cooksF : Nat → Int32} {y_snowF : Nat → Int32} {mb : Nat} (hT : TQ2 t_guests t_snows t_bend t_hour t_kindsF t_yardsF t_pacesF t_skillsF t_snowF y_supperF y_kindF y_offToldF y_paceF y_cooksF y_snowF) (hR : RE t_guests mb y_paceF d_inside d_night d_minute d_yardsF d_pacesF d_stuckF d_hirersF d_placesF d_cameAtF d_cookedF y_sF) (hd : 16 = y_done) (old : ∀ i, i < 16 → (pa_first + i) % 16 = ((pa_first + 1) % 16 + 15) % 16 → RE t_guests mb y_paceF kr_inside kr_night kr_minute kr_yardsF kr_pacesF kr_stuckF kr_hirersF kr_placesF kr_cameAtF kr_cookedF (fun c => y_undoneF (46 * i + c))) (h1 : (u_d_pacesx, u_pa_1x, u_kr_7x, u_kr_8x, u_kr_9x, u_kr_10x, u_kr_11x, u_kr_yardsx, u_kr_pacesx, u_kr_stuckx, u_kr_hirersx, u_kr_placesx, u_kr_cameAtx, u_kr_cookedx, rrx) = fX8_runB g mi t_guests d_inside d_night d_minute d_tasted d_lastCook d_yardsF d_pacesF d_stuckF d_hirersF d_placesF d_cameAtF d_cookedF pa_first kr_inside kr_night kr_minute kr_tasted kr_lastCook kr_yardsF kr_pacesF kr_stuckF kr_hirersF kr_placesF kr_cameAtF kr_cookedF) (h2 : (u_y_0y, u_y_49y, u_y_sy, u_y_undoney, rry) = fX9_run g mi y_done y_supperF y_paceF y_sF y_undoneF) : rrx = rry ∧ RE t_guests mb y_paceF d_inside d_night d_minute d_yardsF u_d_pacesx d_stuckF d_hirersF d_placesF d_cameAtF d_cookedF u_y_sy ∧ 16 = u_y_49y ∧ PX t_guests mb y_paceF (((pa_first + 1) % 16 + 15) % 16) pa_first 16 u_pa_1x 16 u_kr_7x u_kr_8x u_kr_9x u_kr_yardsx u_kr_pacesx u_kr_stuckx u_kr_hirersx u_kr_placesx u_kr_cameAtx u_kr_cookedx y_undoneF u_y_undoney := by
  obtain ⟨hg, hs, hbe, hb0, hq9⟩ := hT.1
  subst hd
  obtain ⟨o1, o2, o3⟩ := onr_ (q := g) hg hs hR.1.1 (fun i hi => (hR.1.2.1 i hi).1) (fun i a b => (hR.1.2.2.2.2.2.1 i a b).1)
  unfold fX8_runB fX8_runB_J18a fX3_keepB fX4_copyFrom fX4_quicken at h1
  unfold fX9_run fX9_run_J23a fX9_runs fX9_paceOf at h2
  simp only [bn1_] at h1 h2
  rw [o1] at h1
  by_cases c1 : fX9_isOnRoad g y_supperF y_sF = true
  · rw [if_pos c1] at h1 h2
    rw [wi_] at h1
    by_cases c2 : fX9_within mi 1 9 = true
    · rw [if_pos c2] at h1 h2
      obtain ⟨i, i1, i2, i3⟩ := o3.mp c1
      obtain ⟨un9, ek, ek1, ek2⟩ := kp_B (s := y_sF) (un := y_undoneF)
      rw [ek, bn2_] at h2
      rw [bn12_, bn13_, o2, if_pos c1, bn2_] at h1
      subst i2
      rw [nI_clamp (n := i) (by omega)] at h1
      rw [show (28 : Int32) + nI i = nI (28 + i) from nI_add 28 i, nI_clamp (n := 28 + i) (by omega)] at h2
      rw [nI_clamp (n := i) (by omega)] at h2
      have hm := wi_t.mp c2
      rw [show Int32.toInt 1 = 1 by decide, show Int32.toInt 9 = 9 by decide] at hm
      have hp := (hq9 i i1).2.2
      rw [hp.1] at hp
      have hN := RD_run i1 hg (show 0 ≤ Int32.toInt mi by omega) hm.2 hp.2.2.1 hp.2.2.2 hR.1
      simp only [Prod.mk.injEq] at h1 h2
      obtain ⟨rfl, rfl, rfl, rfl, rfl, rfl, rfl, rfl, rfl, rfl, rfl, rfl, rfl, rfl, rfl⟩ := h1
      obtain ⟨rfl, rfl, rfl, rfl, rfl⟩ := h2
      exact ⟨(hN.2.1 i i1).2.2.2.2.1, ⟨hN, hR.2⟩, rfl, PX_B hg ek1 ek2 hR⟩
    · rw [if_neg c2] at h1 h2
      simp only [Prod.mk.injEq] at h1 h2
      obtain ⟨rfl, rfl, rfl, rfl, rfl, rfl, rfl, rfl, rfl, rfl, rfl, rfl, rfl, rfl, rfl⟩ := h1
      obtain ⟨rfl, rfl, rfl, rfl, rfl⟩ := h2
      exact ⟨rfl, hR, rfl, PX_B0 old⟩
  · rw [if_neg c1] at h1 h2
    simp only [Prod.mk.injEq] at h1 h2
    obtain ⟨rfl, rfl, rfl, rfl, rfl, rfl, rfl, rfl, rfl, rfl, rfl, rfl, rfl, rfl, rfl⟩ := h1
    obtain ⟨rfl, rfl, rfl, rfl, rfl⟩ := h2
    exact ⟨rfl, hR, rfl, PX_B0 old⟩
set_option maxHeartbeats 4000000 in
theorem op_hireB {g : Int32} {o : Int32} {d_inside : Int32} {d_night : Int32} {d_minute : Int32} {d_tasted : Int32} {d_lastCook : Int32} {d_yardsF : Nat → Int32} {d_pacesF : Nat → Int32} {d_stuckF : Nat → Int32} {d_hirersF : Nat → Int32} {d_placesF : Nat → Int32} {d_cameAtF : Nat → Int32} {d_cookedF : Nat → Int32} {pa_first : Nat} {kr_inside : Int32} {kr_night : Int32} {kr_minute : Int32} {kr_tasted : Int32} {kr_lastCook : Int32} {kr_yardsF : Nat → Int32} {kr_pacesF : Nat → Int32} {kr_stuckF : Nat → Int32} {kr_hirersF : Nat → Int32} {kr_placesF : Nat → Int32} {kr_cameAtF : Nat → Int32} {kr_cookedF : Nat → Int32} {y_done : Nat} {y_supperF : Nat → Int32} {y_sF : Nat → Int32} {y_undoneF : Nat → Int32} {u_d_hirersx : Nat → Int32} {u_pa_1x : Nat} {u_kr_7x : Int32} {u_kr_8x : Int32} {u_kr_9x : Int32} {u_kr_10x : Int32} {u_kr_11x : Int32} {u_kr_yardsx : Nat → Int32} {u_kr_pacesx : Nat → Int32} {u_kr_stuckx : Nat → Int32} {u_kr_hirersx : Nat → Int32} {u_kr_placesx : Nat → Int32} {u_kr_cameAtx : Nat → Int32} {u_kr_cookedx : Nat → Int32} {ubx : Bool} {u_y_0y : Int32} {u_y_49y : Nat} {u_y_sy : Nat → Int32} {u_y_undoney : Nat → Int32} {uby : Bool} {t_guests : Nat} {t_snows : Nat} {t_bend : Int32} {t_hour : Int32} {t_kindsF : Nat → Int32} {t_yardsF : Nat → Int32} {t_pacesF : Nat → Int32} {t_skillsF : Nat → Int32} {t_snowF : Nat → Int32} {y_kindF : Nat → Int32} {y_offToldF : Nat → Int32} {y_paceF : Nat → Int32} {y_cooksF : Nat → Int32} {y_snowF : Nat → Int32} {mb : Nat} (hT : TQ2 t_guests t_snows t_bend t_hour t_kindsF t_yardsF t_pacesF t_skillsF t_snowF y_supperF y_kindF y_offToldF y_paceF y_cooksF y_snowF) (hR : RE t_guests mb y_paceF d_inside d_night d_minute d_yardsF d_pacesF d_stuckF d_hirersF d_placesF d_cameAtF d_cookedF y_sF) (hd : 16 = y_done) (old : ∀ i, i < 16 → (pa_first + i) % 16 = ((pa_first + 1) % 16 + 15) % 16 → RE t_guests mb y_paceF kr_inside kr_night kr_minute kr_yardsF kr_pacesF kr_stuckF kr_hirersF kr_placesF kr_cameAtF kr_cookedF (fun c => y_undoneF (46 * i + c))) (h1 : (u_d_hirersx, u_pa_1x, u_kr_7x, u_kr_8x, u_kr_9x, u_kr_10x, u_kr_11x, u_kr_yardsx, u_kr_pacesx, u_kr_stuckx, u_kr_hirersx, u_kr_placesx, u_kr_cameAtx, u_kr_cookedx, ubx) = fX8_hireB g o d_inside d_night d_minute d_tasted d_lastCook d_yardsF d_pacesF d_stuckF d_hirersF d_placesF d_cameAtF d_cookedF pa_first kr_inside kr_night kr_minute kr_tasted kr_lastCook kr_yardsF kr_pacesF kr_stuckF kr_hirersF kr_placesF kr_cameAtF kr_cookedF) (h2 : (u_y_0y, u_y_49y, u_y_sy, u_y_undoney, uby) = fX9_hire g o y_done y_supperF y_sF y_undoneF) : ubx = uby ∧ RE t_guests mb y_paceF d_inside d_night d_minute d_yardsF d_pacesF d_stuckF u_d_hirersx d_placesF d_cameAtF d_cookedF u_y_sy ∧ 16 = u_y_49y ∧ PX t_guests mb y_paceF (((pa_first + 1) % 16 + 15) % 16) pa_first 16 u_pa_1x 16 u_kr_7x u_kr_8x u_kr_9x u_kr_yardsx u_kr_pacesx u_kr_stuckx u_kr_hirersx u_kr_placesx u_kr_cameAtx u_kr_cookedx y_undoneF u_y_undoney := by
  obtain ⟨hg, hs, hbe, hb0, hq9⟩ := hT.1
  subst hd
  obtain ⟨o1, o2⟩ := can_ (q := g) (r := o) hg hs hR.1
  unfold fX8_hireB fX3_keepB fX4_copyFrom fX4_engage at h1
  unfold fX9_hire at h2
  simp only [bn1_] at h1 h2
  rw [o1] at h1
  by_cases c1 : fX9_canHire g o y_supperF y_sF = true
  · rw [if_pos c1] at h1 h2
    obtain ⟨i, j, i1, j1, i2, j2⟩ := o2 c1
    obtain ⟨un9, ek, ek1, ek2⟩ := kp_B (s := y_sF) (un := y_undoneF)
    rw [ek, bn2_] at h2
    rw [bn12_, bn13_, if_pos c1, bn2_] at h1
    subst i2
    subst j2
    rw [nI_clamp (n := j) (by omega)] at h1
    rw [show (34 : Int32) + nI j = nI (34 + j) from nI_add 34 j, nI_clamp (n := 34 + j) (by omega)] at h2
    simp only [Prod.mk.injEq] at h1 h2
    obtain ⟨rfl, rfl, rfl, rfl, rfl, rfl, rfl, rfl, rfl, rfl, rfl, rfl, rfl, rfl, rfl⟩ := h1
    obtain ⟨rfl, rfl, rfl, rfl, rfl⟩ := h2
    exact ⟨rfl, ⟨RD_hire i1 j1 hg hR.1, hR.2⟩, rfl, PX_B hg ek1 ek2 hR⟩
  · rw [if_neg c1] at h1 h2
    simp only [Prod.mk.injEq] at h1 h2
    obtain ⟨rfl, rfl, rfl, rfl, rfl, rfl, rfl, rfl, rfl, rfl, rfl, rfl, rfl, rfl, rfl⟩ := h1
    obtain ⟨rfl, rfl, rfl, rfl, rfl⟩ := h2
    exact ⟨rfl, hR, rfl, PX_B0 old⟩
set_option maxHeartbeats 4000000 in
theorem op_minuteB {d_inside : Int32} {d_night : Int32} {d_minute : Int32} {d_tasted : Int32} {d_lastCook : Int32} {d_yardsF : Nat → Int32} {d_pacesF : Nat → Int32} {d_stuckF : Nat → Int32} {d_hirersF : Nat → Int32} {d_placesF : Nat → Int32} {d_cameAtF : Nat → Int32} {d_cookedF : Nat → Int32} {t_guests : Nat} {t_snows : Nat} {t_bend : Int32} {t_hour : Int32} {t_kindsF : Nat → Int32} {t_yardsF : Nat → Int32} {t_pacesF : Nat → Int32} {t_skillsF : Nat → Int32} {t_snowF : Nat → Int32} {tw_length : Nat} {tw_top : Nat} {tw_codeF : Nat → Int32} {tw_stackF : Nat → Int32} {tw_factsF : Nat → Int32} {pa_first : Nat} {kr_yardsF : Nat → Int32} {kr_pacesF : Nat → Int32} {kr_stuckF : Nat → Int32} {kr_hirersF : Nat → Int32} {kr_placesF : Nat → Int32} {kr_cameAtF : Nat → Int32} {kr_cookedF : Nat → Int32} {y_done : Nat} {y_snowNow : Int32} {y_supperF : Nat → Int32} {y_kindF : Nat → Int32} {y_offToldF : Nat → Int32} {y_paceF : Nat → Int32} {y_cooksF : Nat → Int32} {y_snowF : Nat → Int32} {y_lineFromF : Nat → Int32} {y_lineToF : Nat → Int32} {y_codesF : Nat → Int32} {y_keptF : Nat → Int32} {y_keptByF : Nat → Int32} {y_aheadF : Nat → Int32} {y_againstF : Nat → Int32} {y_sumF : Nat → Int32} {y_sumByF : Nat → Int32} {y_termF : Nat → Int32} {y_termByF : Nat → Int32} {y_byNotF : Nat → Int32} {y_valueOfF : Nat → Int32} {y_sF : Nat → Int32} {y_undoneF : Nat → Int32} {u_d_7x : Int32} {u_d_8x : Int32} {u_d_9x : Int32} {u_d_10x : Int32} {u_d_11x : Int32} {u_d_12x : Bool} {u_d_yardsx : Nat → Int32} {u_d_pacesx : Nat → Int32} {u_d_stuckx : Nat → Int32} {u_d_hirersx : Nat → Int32} {u_d_placesx : Nat → Int32} {u_d_cameAtx : Nat → Int32} {u_d_cookedx : Nat → Int32} {u_tw_4x : Nat} {u_tw_stackx : Nat → Int32} {u_tw_factsx : Nat → Int32} {u_pa_1x : Nat} {u_kr_7x : Int32} {u_kr_8x : Int32} {u_kr_9x : Int32} {u_kr_10x : Int32} {u_kr_11x : Int32} {u_kr_yardsx : Nat → Int32} {u_kr_pacesx : Nat → Int32} {u_kr_stuckx : Nat → Int32} {u_kr_hirersx : Nat → Int32} {u_kr_placesx : Nat → Int32} {u_kr_cameAtx : Nat → Int32} {u_kr_cookedx : Nat → Int32} {rrx : Int32} {u_y_0y : Int32} {u_y_49y : Nat} {u_y_51y : Int32} {u_y_kepty : Nat → Int32} {u_y_keptByy : Nat → Int32} {u_y_aheady : Nat → Int32} {u_y_againsty : Nat → Int32} {u_y_sumy : Nat → Int32} {u_y_sumByy : Nat → Int32} {u_y_termy : Nat → Int32} {u_y_termByy : Nat → Int32} {u_y_byNoty : Nat → Int32} {u_y_valueOfy : Nat → Int32} {u_y_sy : Nat → Int32} {u_y_undoney : Nat → Int32} {rry : Int32} {mb : Nat} (hT : TQ2 t_guests t_snows t_bend t_hour t_kindsF t_yardsF t_pacesF t_skillsF t_snowF y_supperF y_kindF y_offToldF y_paceF y_cooksF y_snowF) (hR : RE t_guests mb y_paceF d_inside d_night d_minute d_yardsF d_pacesF d_stuckF d_hirersF d_placesF d_cameAtF d_cookedF y_sF) (hd : 16 = y_done) (hsw : y_snowNow = -1) (hmb : mb ≤ 1000000) (h1 : (u_d_7x, u_d_8x, u_d_9x, u_d_10x, u_d_11x, u_d_12x, u_d_yardsx, u_d_pacesx, u_d_stuckx, u_d_hirersx, u_d_placesx, u_d_cameAtx, u_d_cookedx, u_tw_4x, u_tw_stackx, u_tw_factsx, u_pa_1x, u_kr_7x, u_kr_8x, u_kr_9x, u_kr_10x, u_kr_11x, u_kr_yardsx, u_kr_pacesx, u_kr_stuckx, u_kr_hirersx, u_kr_placesx, u_kr_cameAtx, u_kr_cookedx, rrx) = fX8_minuteB d_inside d_night d_minute d_tasted d_lastCook d_yardsF d_pacesF d_stuckF d_hirersF d_placesF d_cameAtF d_cookedF t_guests t_snows t_bend t_hour t_kindsF t_yardsF t_pacesF t_skillsF t_snowF tw_length tw_top tw_codeF tw_stackF tw_factsF pa_first kr_yardsF kr_pacesF kr_stuckF kr_hirersF kr_placesF kr_cameAtF kr_cookedF) (h2 : (u_y_0y, u_y_49y, u_y_51y, u_y_kepty, u_y_keptByy, u_y_aheady, u_y_againsty, u_y_sumy, u_y_sumByy, u_y_termy, u_y_termByy, u_y_byNoty, u_y_valueOfy, u_y_sy, u_y_undoney, rry) = fX9_minute y_done y_snowNow y_supperF y_kindF y_offToldF y_paceF y_cooksF y_snowF y_lineFromF y_lineToF y_codesF y_keptF y_keptByF y_aheadF y_againstF y_sumF y_sumByF y_termF y_termByF y_byNotF y_valueOfF y_sF y_undoneF) : rrx = rry ∧ RE t_guests (mb + 1) y_paceF u_d_7x u_d_8x u_d_9x u_d_yardsx u_d_pacesx u_d_stuckx u_d_hirersx u_d_placesx u_d_cameAtx u_d_cookedx u_y_sy ∧ 16 = u_y_49y ∧ PX t_guests (mb + 1) y_paceF (((pa_first + 1) % 16 + 15) % 16) pa_first 16 u_pa_1x 16 u_kr_7x u_kr_8x u_kr_9x u_kr_yardsx u_kr_pacesx u_kr_stuckx u_kr_hirersx u_kr_placesx u_kr_cameAtx u_kr_cookedx y_undoneF u_y_undoney := by
  obtain ⟨hg, hs, hbe, hb0, hq9⟩ := hT.1
  subst hd
  obtain ⟨un9, ek, ek1, ek2⟩ := kp_B (s := y_sF) (un := y_undoneF)
  have hsn := sno_ hT (hR.1.2.2.2.2.2.2.2.2.2.2.2).1 (hR.1.2.2.2.2.2.2.2.2.2.2.2).2 hmb
  obtain ⟨ins9, ni9, mi9, ta9, lc9, y9, pc9, st9, hi9, pl9, ca9, ck9, wt9, ws9, wf9, v1, v2, v3, v4, v5, v6, v7, v8, v9, v10, s9, r, e1, e2, e3, e4⟩ := mnE_ (sNow := y_snowNow) (ta := d_tasted) (lc := d_lastCook) (wl := tw_length) (wt := tw_top) (wc := tw_codeF) (ws := tw_stackF) (wf := tw_factsF) (lf := y_lineFromF) (lt := y_lineToF) (co := y_codesF) (kp := y_keptF) (kb := y_keptByF) (ah := y_aheadF) (ag := y_againstF) (su := y_sumF) (sb := y_sumByF) (te := y_termF) (tb := y_termByF) (bn := y_byNotF) (vo := y_valueOfF) hT hmb hR (show (if (0 : Int32) ≤ y_snowNow then y_snowNow else fX9_snowOf (y_sF 1) y_supperF y_snowF) = fX7_snowAt d_minute t_snows t_snowF by rw [hsw, if_neg (by decide), hsn, (hR.1.2.2.2.2.2.2.2.2.1)])
  unfold fX8_minuteB fX3_keepB fX4_copyFrom fX4_pass at h1
  unfold fX9_minute at h2
  rw [ek, bn2_, e2, bn13_] at h2
  rw [bn12_, bn13_, bn1_, e1, bn17_, bn17_] at h1
  simp only [Prod.mk.injEq] at h1 h2
  obtain ⟨rfl, rfl, rfl, rfl, rfl, rfl, rfl, rfl, rfl, rfl, rfl, rfl, rfl, rfl, rfl, rfl, rfl, rfl, rfl, rfl, rfl, rfl, rfl, rfl, rfl, rfl, rfl, rfl, rfl, rfl⟩ := h1
  obtain ⟨rfl, rfl, rfl, rfl, rfl, rfl, rfl, rfl, rfl, rfl, rfl, rfl, rfl, rfl, rfl, rfl⟩ := h2
  have hR9 := RE_mono (B' := mb + 1) (by omega) hR
  exact ⟨rfl, e3, rfl, PX_B hg ek1 ek2 hR9⟩
set_option maxHeartbeats 4000000 in
theorem op_undoC {d_yardsF : Nat → Int32} {d_pacesF : Nat → Int32} {d_stuckF : Nat → Int32} {d_hirersF : Nat → Int32} {d_placesF : Nat → Int32} {d_cameAtF : Nat → Int32} {d_cookedF : Nat → Int32} {pa_size : Nat} {kr_inside : Int32} {kr_night : Int32} {kr_minute : Int32} {kr_tasted : Int32} {kr_lastCook : Int32} {kr_yardsF : Nat → Int32} {kr_pacesF : Nat → Int32} {kr_stuckF : Nat → Int32} {kr_hirersF : Nat → Int32} {kr_placesF : Nat → Int32} {kr_cameAtF : Nat → Int32} {kr_cookedF : Nat → Int32} {y_done : Nat} {y_sF : Nat → Int32} {y_undoneF : Nat → Int32} {u_d_7x : Int32} {u_d_8x : Int32} {u_d_9x : Int32} {u_d_10x : Int32} {u_d_11x : Int32} {u_d_yardsx : Nat → Int32} {u_d_pacesx : Nat → Int32} {u_d_stuckx : Nat → Int32} {u_d_hirersx : Nat → Int32} {u_d_placesx : Nat → Int32} {u_d_cameAtx : Nat → Int32} {u_d_cookedx : Nat → Int32} {u_pa_2x : Nat} {ubx : Bool} {u_y_0y : Int32} {u_y_49y : Nat} {u_y_sy : Nat → Int32} {uby : Bool} {t_guests : Nat} {pa_first : Nat} {mb : Nat} {y_paceF : Nat → Int32} (hg : t_guests ≤ 6) (hd : pa_size = y_done) (h1s : 1 ≤ pa_size) (old : ∀ i, i < pa_size → (pa_first + i) % 16 = ((pa_first + (pa_size - 1)) % 16) → RE t_guests mb y_paceF kr_inside kr_night kr_minute kr_yardsF kr_pacesF kr_stuckF kr_hirersF kr_placesF kr_cameAtF kr_cookedF (fun c => y_undoneF (46 * i + c))) (h1 : (u_d_7x, u_d_8x, u_d_9x, u_d_10x, u_d_11x, u_d_yardsx, u_d_pacesx, u_d_stuckx, u_d_hirersx, u_d_placesx, u_d_cameAtx, u_d_cookedx, u_pa_2x, ubx) = fX8_undoC d_yardsF d_pacesF d_stuckF d_hirersF d_placesF d_cameAtF d_cookedF pa_size kr_inside kr_night kr_minute kr_tasted kr_lastCook kr_yardsF kr_pacesF kr_stuckF kr_hirersF kr_placesF kr_cameAtF kr_cookedF) (h2 : (u_y_0y, u_y_49y, u_y_sy, uby) = fX9_undo y_done y_sF y_undoneF) : ubx = uby ∧ RE t_guests mb y_paceF u_d_7x u_d_8x u_d_9x u_d_yardsx u_d_pacesx u_d_stuckx u_d_hirersx u_d_placesx u_d_cameAtx u_d_cookedx u_y_sy ∧ u_pa_2x = u_y_49y ∧ u_pa_2x = pa_size - 1 := by
  subst hd
  have hk := old (pa_size - 1) (by omega) rfl
  unfold fX8_undoC fX3_giveBackC fX4_copyFrom at h1
  unfold fX9_undo at h2
  rw [if_neg (by omega)] at h2
  rw [bn12_, bn14_] at h1
  simp only [Prod.mk.injEq] at h1 h2
  obtain ⟨rfl, rfl, rfl, rfl, rfl, rfl, rfl, rfl, rfl, rfl, rfl, rfl, rfl, rfl⟩ := h1
  obtain ⟨rfl, rfl, rfl, rfl⟩ := h2
  exact ⟨rfl, RE_cpy hg (fun j hj => (cpf_at hj).symm) hk, rfl, rfl⟩
theorem op_undo0 {y_done : Nat} {y_sF : Nat → Int32} {y_undoneF : Nat → Int32} {ubx : Bool} {u_y_0y : Int32} {u_y_49y : Nat} {u_y_sy : Nat → Int32} {uby : Bool}  (hd : 0 = y_done) (h1 : ubx = fX8_undo0) (h2 : (u_y_0y, u_y_49y, u_y_sy, uby) = fX9_undo y_done y_sF y_undoneF) : ubx = uby ∧ u_y_sy = y_sF ∧ u_y_49y = 0 := by
  subst hd
  unfold fX8_undo0 at h1
  unfold fX9_undo at h2
  rw [if_pos rfl] at h2
  simp only [Prod.mk.injEq] at h2
  obtain ⟨rfl, rfl, rfl, rfl⟩ := h2
  exact ⟨h1, rfl, rfl⟩
