/-! a guest's line, by both -/
theorem no_lp {g : Nat} {na : Nat → Int64} {lt : Int64} (hg : g ≤ 6) : ∀ k j z, j ≤ 6 → 7 - j < k → lp z (fX7_numberOf_B2a lt g na) k j = -1 ∨ ∃ i, i ≤ 6 ∧ lp z (fX7_numberOf_B2a lt g na) k j = nI i := by
  intro k
  induction k with
  | zero => intro j z _ q; exact absurd q (Nat.not_lt_zero _)
  | succ k ih =>
    intro j z hj q
    show fX7_numberOf_B2a lt g na (lp z (fX7_numberOf_B2a lt g na) k) j = -1 ∨ ∃ i, i ≤ 6 ∧ fX7_numberOf_B2a lt g na (lp z (fX7_numberOf_B2a lt g na) k) j = nI i
    have ih := ih (j + 1) z
    generalize lp z (fX7_numberOf_B2a lt g na) k = r1 at ih ⊢
    unfold fX7_numberOf_B2a
    by_cases c : g ≤ j
    · rw [if_pos c]; exact Or.inl rfl
    · rw [if_neg c]
      by_cases d : lg_cmp (na (Int32.toNatClampNeg (nI j))) lt = 0
      · rw [if_pos d]; exact Or.inr ⟨j, by omega, rfl⟩
      · rw [if_neg d]; exact ih (by omega) (by omega)
theorem no_ {g : Nat} {na : Nat → Int64} {lt : Int64} (hg : g ≤ 6) : (fX7_numberOf lt g na = -1 ∧ fX7_numberOf lt g na < 0) ∨ (¬ fX7_numberOf lt g na = -1 ∧ ¬ fX7_numberOf lt g na < 0) := by
  unfold fX7_numberOf
  rcases no_lp (na := na) (lt := lt) hg (6 + 1 - 0 + 1) 0 (fun _ => (0 : Int32)) (by omega) (by omega) with h | ⟨i, hi, h⟩
  · rw [h]; exact Or.inl ⟨rfl, by decide⟩
  · rw [h]
    refine Or.inr ⟨fun y => ?_, fun y => ?_⟩
    · have := congrArg Int32.toInt y
      rw [nI_toInt (by omega), show Int32.toInt (-1) = -1 by decide] at this
      omega
    · rw [Int32.lt_iff_toInt_lt, nI_toInt (by omega), show Int32.toInt 0 = 0 by decide] at y
      omega
theorem wh_ {s : Nat → Int32} {n b nx p bg tk : Nat} {pl kd vl to : Int32} {lt wo : Int64} (h : TT s n b nx pl kd vl lt p bg tk wo to) : ((∀ j, j < 23 → (fX6_wordHere kd vl = nI j ↔ fX6_isWord (nI j) kd vl = true)) ∧ (fX6_wordHere kd vl = -1 ∨ ∃ j, j < 23 ∧ fX6_wordHere kd vl = nI j)) := by
  unfold fX6_wordHere fX6_wordHere_J16a fX6_isWord fX6_isWord_J20a fX6_isWord_J21a
  have m1 : ∀ j, j < 23 → ¬ ((-1 : Int32) = nI j) := fun j hj y => by
    have := congrArg Int32.toInt y
    rw [nI_toInt (by omega), show Int32.toInt (-1) = -1 by decide] at this
    omega
  by_cases k1 : kd = 1
  · rw [if_pos k1]
    have hK : tK s n b = 1 := by
      have e := h.1.2.2.2.1
      rw [k1] at e
      exact ((nIk (j := 1) (Nat.le_trans tK_4 (by decide)) (by decide)).mp e.symm)
    constructor
    · intro j hj
      rw [if_pos k1]
      by_cases q : vl = nI j
      · rw [if_pos q]; exact ⟨fun _ => rfl, fun _ => q⟩
      · rw [if_neg q]; exact ⟨fun y => absurd y q, fun y => Bool.noConfusion y⟩
    · rcases (h.1.2.2.2.2.1 hK).2 with ⟨j, hj, -, e⟩ | ⟨-, e⟩
      · exact Or.inr ⟨j, hj, e⟩
      · exact Or.inl e
  · rw [if_neg k1]
    refine ⟨fun j hj => ?_, Or.inl rfl⟩
    rw [if_neg k1]
    exact ⟨fun y => absurd y (m1 j hj), fun y => Bool.noConfusion y⟩
def wK (j : Nat) : Int64 := if j = 12 then 8740238 else if j = 13 then 65441295 else if j = 14 then 14092 else 4078073
theorem wK_t : ∀ j, 12 ≤ j → j ≤ 15 → Int64.toInt (wK j) = Er 27 (wd j) := by
  intro j h1 h2
  have : j = 12 ∨ j = 13 ∨ j = 14 ∨ j = 15 := by omega
  rcases this with e | e | e | e <;> subst e <;> decide
theorem updL_e {f : Nat → Int64} {k : Nat} {x : Int64} : vp_updL f k x k = x := if_pos rfl
theorem updL_n {f : Nat → Int64} {k j : Nat} {x : Int64} (h : ¬ j = k) : vp_updL f k x j = f j := if_neg h
/-- what was told of guests, in both -/
def GR (g : Nat) (na : Nat → Int64) (ki ya pa sk : Nat → Int32) (sup : Nat → Int32) (gn : Nat → Int64) (k9 o9 p9 c9 : Nat → Int32) : Prop := g ≤ 6 ∧ sup 4 = nI g ∧ NR g na gn 6 ∧ ∀ q, q < g → ki q = k9 (6 + q) ∧ ya q = o9 (6 + q) ∧ pa q = p9 (6 + q) ∧ sk q = c9 (6 + q)
theorem GR_s {g : Nat} {na : Nat → Int64} {ki ya pa sk : Nat → Int32} {sup : Nat → Int32} {gn : Nat → Int64} {k9 o9 p9 c9 : Nat → Int32} (h : GR g na ki ya pa sk sup gn k9 o9 p9 c9) (h6 : g < 6) {l : List Int} {lt wo : Int64} (ho : okl l) (h1 : Int64.toInt lt = Er 32 l) (h2 : Int64.toInt wo = Er 27 l) (a b c d : Int32) : GR (g + 1) (vp_updL na g lt) (upd ki g a) (upd ya g b) (upd pa g c) (upd sk g d) (upd sup 4 (nI g + 1)) (vp_updL gn (6 + g) wo) (upd k9 (6 + g) a) (upd o9 (6 + g) b) (upd p9 (6 + g) c) (upd c9 (6 + g) d) := by
  obtain ⟨q1, q2, q3, q4⟩ := h
  refine ⟨by omega, by rw [upd_e]; exact nI_add g 1, fun k hk => ?_, fun k hk => ?_⟩
  · by_cases e : k = g
    · rw [e, updL_e, updL_e]; exact ⟨l, ho, h1, h2⟩
    · rw [updL_n e, updL_n (by omega)]; exact q3 k (by omega)
  · by_cases e : k = g
    · rw [e]; exact ⟨upd_e.trans upd_e.symm, upd_e.trans upd_e.symm, upd_e.trans upd_e.symm, upd_e.trans upd_e.symm⟩
    · rw [upd_n e, upd_n e, upd_n e, upd_n e, upd_n (by omega), upd_n (by omega), upd_n (by omega), upd_n (by omega)]; exact q4 k (by omega)
theorem ln_guest {s : Nat → Int32} {n b nx p bg tk g : Nat} {pl kd vl to fa wr gi : Int32} {lt wo : Int64} {w na gn : Nat → Int64} {f sup ki ya pa sk k9 o9 p9 c9 : Nat → Int32} (hn : n ≤ 1000) (hw : WT w) (hf : SG f s) (h : TT s n b nx pl kd vl lt p bg tk wo to) (hK : ¬ tK s n b = 0) (hG : GR g na ki ya pa sk sup gn k9 o9 p9 c9) :
    ∃ g1 na1 ki1 ya1 pa1 sk1 nx1 pl1 kd1 vl1 lt1 fa1 ok1 p2 bg2 tk2 wo2 to2 wr2 gi2 sup2 gn2 k2 o2 q2 c2 ok2, fX7_readGuest g na ki ya pa sk n nx pl kd vl lt fa s w f = (g1, na1, ki1, ya1, pa1, sk1, nx1, pl1, kd1, vl1, lt1, fa1, ok1) ∧ fX9_readsGuest n p bg tk wo to wr gi s sup gn k9 o9 p9 c9 = (p2, bg2, tk2, wo2, to2, wr2, gi2, sup2, gn2, k2, o2, q2, c2, ok2) ∧ (ok1 = false → ok2 = false ∧ fa1 = wr2) ∧ (ok1 = true → ∃ nx2 pl2 kd2 vl2 lt2 fa2, fX6_takeSign 59 n nx1 pl1 kd1 vl1 lt1 fa1 s w f = (nx2, pl2, kd2, vl2, lt2, fa2, ok2) ∧ (ok2 = false → fa2 = wr2) ∧ (ok2 = true → TG s n b nx2 pl2 kd2 vl2 lt2 p2 bg2 tk2 wo2 to2 ∧ GR g1 na1 ki1 ya1 pa1 sk1 sup2 gn2 k2 o2 q2 c2 ∧ (∀ q, ¬ q = 4 → sup2 q = sup q) ∧ fa2 = fa)) := by
  have hg := hG.1
  have hs := hG.2.1
  have e4 : Int32.toNatClampNeg 4 = 4 := by decide
  unfold fX7_readGuest fX9_readsGuest
  rw [e4, hs, show (6 : Int32) + nI g = nI (6 + g) from nI_add 6 g, nI_clamp (n := g) (by omega)]
  have e12 : (nI (6 + g) = 12) ↔ 6 + g = 12 := nIk (j := 12) (by omega) (by decide)
  by_cases h6 : g < 6
  · rw [if_pos h6, if_neg (fun y => by have := e12.mp y; omega)]
    obtain ⟨a1, a2, a3, a4, a5, c1, c2, c3, c4, c5, x1, x2, x3, x4⟩ := t_advG hn hw hf h hK
    rw [x1, x2, bn5_ (a0 := a1), bn5_ (a0 := c1)]
    simp only [bn1_]
    obtain ⟨m1, m2⟩ := t_name x3
    by_cases hN : tK s n (nt s n b) = 1 ∧ ∀ j, j < 19 → ¬ wo_ s n (nt s n b) = wd j
    · rw [m1.mpr hN, m2.mpr hN, if_pos rfl, if_neg (show ¬ (false = true) by decide)]
      have hl := x3.1.2.2.2.2.1 hN.1
      have hr := x3.2.2.2.2.2.1 hN.1
      have ho := wo_ok x3.1.1 hN.1
      rw [t_guest hg hs hG.2.2.1 ho hl.1 hr]
      have hno := no_ (na := na) (lt := a5) hg
      rw [t_guest hg hs hG.2.2.1 ho hl.1 hr] at hno
      rcases hno with ⟨y1, y2⟩ | ⟨y1, y2⟩
      · rw [if_pos y1, if_pos y2]
        obtain ⟨b1, b2, b3, b4, b5, d1, d2, d3, d4, d5, z1, z2, z3, z4⟩ := t_advG hn hw hf x3 (by rw [hN.1]; decide)
        rw [z1, z2, bn5_ (a0 := b1), bn5_ (a0 := d1)]
        obtain ⟨wh1, wh2⟩ := wh_ z3
        -- what is behind the kind
        have rest : ∀ j, 12 ≤ j → j ≤ 15 → fX6_wordHere b3 b4 = nI j →
            ∃ g1 na1 ki1 ya1 pa1 sk1 nx1 pl1 kd1 vl1 lt1 fa1 ok1 p2 bg2 tk2 wo2 to2 wr2 gi2 sup2 gn2 k2 o2 q2 c2 ok2, bn5 (fX6_advance n b1 b5 s w f) (fun u_ta_313 u_ta_413 u_ta_513 u_ta_613 u_ta_713 => bn7 (fX7_readMeasure 1 1 300 n u_ta_313 u_ta_413 u_ta_513 u_ta_613 u_ta_713 fa s w f) (fun u_ta_314 u_ta_414 u_ta_514 u_ta_614 u_ta_714 u_ta_814 r14 => (if (upd ya g r14) g = -1 then (g, vp_updL na g a5, upd ki g (nI j - 12), upd ya g r14, pa, sk, u_ta_314, u_ta_414, u_ta_514, u_ta_614, u_ta_714, u_ta_814, false) else bn7 (fX7_readMeasure 2 1 30 n u_ta_314 u_ta_414 u_ta_514 u_ta_614 u_ta_714 u_ta_814 s w f) (fun u_ta_316 u_ta_416 u_ta_516 u_ta_616 u_ta_716 u_ta_816 r16 => (if (upd pa g r16) g = -1 then (g, vp_updL na g a5, upd ki g (nI j - 12), upd ya g r14, upd pa g r16, sk, u_ta_316, u_ta_416, u_ta_516, u_ta_616, u_ta_716, u_ta_816, false) else bn7 (fX7_readMeasure 3 0 20 n u_ta_316 u_ta_416 u_ta_516 u_ta_616 u_ta_716 u_ta_816 s w f) (fun u_ta_318 u_ta_418 u_ta_518 u_ta_618 u_ta_718 u_ta_818 r18 => (if (upd sk g r18) g = -1 then (fX7_readGuest_J201a g na ki ya pa sk a5 (nI j) r14 r16 u_ta_318 u_ta_418 u_ta_518 u_ta_618 u_ta_718 u_ta_818 r18) false else (fX7_readGuest_J201a g na ki ya pa sk a5 (nI j) r14 r16 u_ta_318 u_ta_418 u_ta_518 u_ta_618 u_ta_718 u_ta_818 r18) true))))))) = (g1, na1, ki1, ya1, pa1, sk1, nx1, pl1, kd1, vl1, lt1, fa1, ok1) ∧ fX9_readsGuest_J124a n wr gi s sup gn k9 o9 p9 c9 c4 d1 d2 d3 d4 d5 (nI (j - 12)) = (p2, bg2, tk2, wo2, to2, wr2, gi2, sup2, gn2, k2, o2, q2, c2, ok2) ∧ (ok1 = false → ok2 = false ∧ fa1 = wr2) ∧ (ok1 = true → ∃ nx2 pl2 kd2 vl2 lt2 fa2, fX6_takeSign 59 n nx1 pl1 kd1 vl1 lt1 fa1 s w f = (nx2, pl2, kd2, vl2, lt2, fa2, ok2) ∧ (ok2 = false → fa2 = wr2) ∧ (ok2 = true → TG s n b nx2 pl2 kd2 vl2 lt2 p2 bg2 tk2 wo2 to2 ∧ GR g1 na1 ki1 ya1 pa1 sk1 sup2 gn2 k2 o2 q2 c2 ∧ (∀ q, ¬ q = 4 → sup2 q = sup q) ∧ fa2 = fa)) := by
          intro j hj1 hj2 hj
          have hw1 := (wh1 j (by omega)).mp hj
          have hKz : tK s n (nt s n (nt s n b)) = 1 := by
            have e := t_word z3 (j := j) (by omega) rfl (W := wK j) (wK_t j hj1 hj2)
            rw [hw1] at e
            exact W_K z3 e.symm
          obtain ⟨a', a2', a3', a4', a5', d1', d2', d3', d4', d5', u1, u2, u3, u4⟩ := t_advG hn hw hf z3 (by rw [hKz]; decide)
          unfold fX9_readsGuest_J124a fX7_readGuest_J201a
          rw [e4, hs, show (6 : Int32) + nI g = nI (6 + g) from nI_add 6 g, nI_clamp (n := g) (by omega), nI_clamp (n := 6 + g) (by omega), upd_e, if_pos (by rw [Int32.le_iff_toInt_le, nI_toInt (by omega), show Int32.toInt 0 = 0 by decide]; omega), u1, u2, bn5_ (a0 := a'), bn5_ (a0 := d1')]
          obtain ⟨f1, f2, f3, f4, f5, f6, m1, m2, m3, m4, m5, m6, m7, ok, r, v1, v2, v3, v4⟩ := t_both (fa := fa) (wr := wr) (gi := gi) (lo := 1) (hi := 300) (x := 1) (W := 11103) hn hw hf u3 (j := 1) (by decide) rfl ((by decide : Int64.toInt 11103 = 11103).trans w27_1.symm)
          rw [v1, v2, bn7_ (a0 := f1), bn8_ (a0 := m1), upd_e]
          cases ok with
          | false =>
            obtain ⟨y3, y4⟩ := v4 rfl
            rw [if_pos y3, if_neg (show ¬ (false = true) by decide)]
            exact ⟨_, _, _, _, _, _, _, _, _, _, _, f6, false, _, _, _, _, _, m6, _, _, _, _, _, _, _, false, rfl, rfl, fun _ => ⟨rfl, y4⟩, fun y => Bool.noConfusion y⟩
          | true =>
            obtain ⟨⟨b', o1, o2⟩, o3, o4, o5, o6⟩ := v3 rfl
            rw [if_neg (ne_m1 o4 (by decide)), if_pos rfl]
            obtain ⟨g1', g2', g3', g4', g5', g6', n1', n2', n3', n4', n5', n6', n7', ok, r', v5, v6, v7, v8⟩ := t_both (fa := f6) (wr := m6) (gi := m7) (lo := 1) (hi := 30) (x := 2) (W := 315743) hn hw hf o2 (j := 2) (by decide) rfl ((by decide : Int64.toInt 315743 = 315743).trans w27_2.symm)
            rw [v5, v6, bn7_ (a0 := g1'), bn8_ (a0 := n1'), upd_e]
            cases ok with
            | false =>
              obtain ⟨y3, y4⟩ := v8 rfl
              rw [if_pos y3, if_neg (show ¬ (false = true) by decide)]
              exact ⟨_, _, _, _, _, _, _, _, _, _, _, g6', false, _, _, _, _, _, n6', _, _, _, _, _, _, _, false, rfl, rfl, fun _ => ⟨rfl, y4⟩, fun y => Bool.noConfusion y⟩
            | true =>
              obtain ⟨⟨b'', o1', o2'⟩, o3', o4', o5', o6'⟩ := v7 rfl
              rw [if_neg (ne_m1 o4' (by decide)), if_pos rfl]
              obtain ⟨i1, i2, i3, i4, i5, i6, l1, l2, l3, l4, l5, l6, l7, ok, r'', v9, v10, v11, v12⟩ := t_both (fa := g6') (wr := n6') (gi := n7') (lo := 0) (hi := 20) (x := 3) (W := 1900819) hn hw hf o2' (j := 3) (by decide) rfl ((by decide : Int64.toInt 1900819 = 1900819).trans w27_3.symm)
              rw [v9, v10, bn7_ (a0 := i1), bn8_ (a0 := l1), upd_e]
              cases ok with
              | false =>
                obtain ⟨y3, y4⟩ := v12 rfl
                rw [if_pos y3, if_neg (show ¬ (false = true) by decide)]
                exact ⟨_, _, _, _, _, _, _, _, _, _, _, i6, false, _, _, _, _, _, l6, _, _, _, _, _, _, _, false, rfl, rfl, fun _ => ⟨rfl, y4⟩, fun y => Bool.noConfusion y⟩
              | true =>
                obtain ⟨⟨b3', p1, p2⟩, p3, p4, p5, p6⟩ := v11 rfl
                rw [if_neg (ne_m1 p4 (by decide)), if_pos rfl]
                obtain ⟨t1, t2, t3, t4, t5, t6, s1, s2, s3, s4, s5, s6, ok2, cl1, cl2, cl3, cl4⟩ := t_close (fa := i6) (wr := l6) hn hw hf p2
                rw [cl2, bn7_]
                refine ⟨_, _, _, _, _, _, _, _, _, _, _, i6, true, _, _, _, _, _, s6, _, _, _, _, _, _, _, ok2, rfl, rfl, fun y => Bool.noConfusion y, fun _ => ⟨t1, t2, t3, t4, t5, t6, cl1, cl4, fun y => ⟨((cl3 y).1.tr (b := b) (by omega)), ?_, fun q hq => upd_n hq, ((cl3 y).2).trans (p6.trans (o6'.trans o6))⟩⟩⟩
                rw [← o3, ← o3', ← p3, show (nI j : Int32) - 12 = nI (j - 12) from nI_sub_ (b := 12) (by omega) (by omega)]
                exact GR_s hG h6 ho hl.1 hr _ _ _ _
        have eW : ∀ j, 12 ≤ j → j ≤ 15 → fX9_isWord (wK j) d3 d4 = fX6_isWord (nI j) b3 b4 := fun j q1 q2 => (t_word z3 (by omega) rfl (wK_t j q1 q2)).symm
        have e12' := eW 12 (by decide) (by decide)
        have e13 := eW 13 (by decide) (by decide)
        have e14 := eW 14 (by decide) (by decide)
        have e15 := eW 15 (by decide) (by decide)
        rw [show wK 12 = 8740238 by decide] at e12'
        rw [show wK 13 = 65441295 by decide] at e13
        rw [show wK 14 = 14092 by decide] at e14
        rw [show wK 15 = 4078073 by decide] at e15
        rw [e12', e13, e14, e15]
        have v12 : Int32.toInt 12 = 12 := by decide
        have v15 : Int32.toInt 15 = 15 := by decide
        by_cases hj : ∃ j, 12 ≤ j ∧ j ≤ 15 ∧ fX6_wordHere b3 b4 = nI j
        · obtain ⟨j, j1, j2, j3⟩ := hj
          have hr := rest j j1 j2 j3
          rw [if_neg (by rw [j3, Int32.lt_iff_toInt_lt, nI_toInt (by omega), v12]; omega), if_pos (by rw [j3, Int32.le_iff_toInt_le, nI_toInt (by omega), v15]; omega), j3]
          have t := (wh1 j (by omega)).mp j3
          have fN : ∀ i, i < 23 → ¬ i = j → fX6_isWord (nI i) b3 b4 = false := fun i hi hij => by
            rw [← Bool.not_eq_true]
            intro y
            have y := (wh1 i hi).mpr y
            rw [j3] at y
            exact hij ((nIk (by omega) (by omega)).mp y).symm
          have : j = 12 ∨ j = 13 ∨ j = 14 ∨ j = 15 := by omega
          rcases this with e | e | e | e
          · subst e
            rw [t, if_pos rfl]; exact hr
          · subst e
            rw [fN 12 (by decide) (by decide), if_neg (show ¬ (false = true) by decide), t, if_pos rfl]; exact hr
          · subst e
            rw [fN 12 (by decide) (by decide), if_neg (show ¬ (false = true) by decide), fN 13 (by decide) (by decide), if_neg (show ¬ (false = true) by decide), t, if_pos rfl]; exact hr
          · subst e
            rw [fN 12 (by decide) (by decide), if_neg (show ¬ (false = true) by decide), fN 13 (by decide) (by decide), if_neg (show ¬ (false = true) by decide), fN 14 (by decide) (by decide), if_neg (show ¬ (false = true) by decide), t, if_pos rfl]; exact hr
        · have fN : ∀ i, 12 ≤ i → i ≤ 15 → fX6_isWord (nI i) b3 b4 = false := fun i h1 h2 => by
            rw [← Bool.not_eq_true]
            intro y
            exact hj ⟨i, h1, h2, (wh1 i (by omega)).mpr y⟩
          rw [fN 12 (by decide) (by decide), if_neg (show ¬ (false = true) by decide), fN 13 (by decide) (by decide), if_neg (show ¬ (false = true) by decide), fN 14 (by decide) (by decide), if_neg (show ¬ (false = true) by decide), fN 15 (by decide) (by decide), if_neg (show ¬ (false = true) by decide)]
          unfold fX9_readsGuest_J124a fX7_readGuest_J89a
          rw [upd_e, if_neg (show ¬ ((0 : Int32) ≤ -1) by decide)]
          obtain ⟨w1, w2⟩ := t_wrong z3 1
          rw [w1, w2, bn2_, bn2_]
          have hv : fX6_wordHere b3 b4 < 12 ∨ ¬ (fX6_wordHere b3 b4 ≤ 15) := by
            rcases wh2 with e | ⟨j, hj', e⟩
            · rw [e]; exact Or.inl (by decide)
            · rw [e, Int32.lt_iff_toInt_lt, Int32.le_iff_toInt_le, nI_toInt (by omega), v12, v15]
              by_cases q : j < 12
              · exact Or.inl (by omega)
              · refine Or.inr (fun y => hj ⟨j, by omega, by omega, e⟩)
          rcases hv with q | q
          · rw [if_pos q]
            exact ⟨_, _, _, _, _, _, _, _, _, _, _, _, false, _, _, _, _, _, _, _, _, _, _, _, _, _, false, rfl, rfl, fun _ => ⟨rfl, rfl⟩, fun y => Bool.noConfusion y⟩
          · by_cases q2 : fX6_wordHere b3 b4 < 12
            · rw [if_pos q2]
              exact ⟨_, _, _, _, _, _, _, _, _, _, _, _, false, _, _, _, _, _, _, _, _, _, _, _, _, _, false, rfl, rfl, fun _ => ⟨rfl, rfl⟩, fun y => Bool.noConfusion y⟩
            · rw [if_neg q2, if_neg q]
              exact ⟨_, _, _, _, _, _, _, _, _, _, _, _, false, _, _, _, _, _, _, _, _, _, _, _, _, _, false, rfl, rfl, fun _ => ⟨rfl, rfl⟩, fun y => Bool.noConfusion y⟩
      · rw [if_neg y1, if_neg y2]
        obtain ⟨w1, w2⟩ := t_wrong x3 3
        rw [w1, w2, bn2_, bn2_]
        exact ⟨_, _, _, _, _, _, _, _, _, _, _, _, false, _, _, _, _, _, _, _, _, _, _, _, _, _, false, rfl, rfl, fun _ => ⟨rfl, rfl⟩, fun y => Bool.noConfusion y⟩
    · have f1 : fX6_isName a3 a4 = false := by rw [← Bool.not_eq_true]; exact fun y => hN (m1.mp y)
      have f2 : fX9_isKept c3 c4 = true := by rw [← Bool.not_eq_false]; exact fun y => hN (m2.mp y)
      rw [f1, f2, if_neg (show ¬ (false = true) by decide), if_pos rfl]
      obtain ⟨w1, w2⟩ := t_wrong x3 1
      rw [w1, w2, bn2_, bn2_]
      exact ⟨_, _, _, _, _, _, _, _, _, _, _, _, false, _, _, _, _, _, _, _, _, _, _, _, _, _, false, rfl, rfl, fun _ => ⟨rfl, rfl⟩, fun y => Bool.noConfusion y⟩
  · rw [if_neg h6, if_pos (e12.mpr (by omega))]
    obtain ⟨w1, w2⟩ := t_wrong h 5
    rw [w1, w2, bn2_, bn2_]
    exact ⟨_, _, _, _, _, _, _, _, _, _, _, _, false, _, _, _, _, _, _, _, _, _, _, _, _, _, false, rfl, rfl, fun _ => ⟨rfl, rfl⟩, fun y => Bool.noConfusion y⟩
