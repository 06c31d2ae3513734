/-! the lines of a supper, by both: bend, hour -/
def tlv (a b : Bool) : Int32 := if a = true then (if b = true then 6 else 2) else (if b = true then 4 else 0)
theorem tl_1 {a b : Bool} : (((tlv a b) >>> (1 &&& 31)) &&& 1) = (1 : Int32) ↔ a = true := by cases a <;> cases b <;> decide
theorem tl_2 {a b : Bool} : (((tlv a b) >>> (2 &&& 31)) &&& 1) = (1 : Int32) ↔ b = true := by cases a <;> cases b <;> decide
theorem tl_1s {b : Bool} : (tlv false b) ||| 2 = tlv true b := by cases b <;> decide
theorem tl_2s {a : Bool} : (tlv a false) ||| 4 = tlv a true := by cases a <;> decide
theorem both_ {s : Nat → Int32} {n p bg tk c1 c2 c3 : Nat} {to wr gi lo hi c5 : Int32} {wo W c4 : Int64} {X : Nat × Nat × Nat × Int64 × Int32 × Int32 × Int32 × Bool} (hq : fX9_isWord W tk wo = true) (e2 : fX9_nextToken n p s = (c1, c2, c3, c4, c5)) (k2 : fX9_needsBoth W lo hi n p bg tk wo to wr gi s = X) : fX9_needsNumber lo hi n c1 c2 c3 c4 c5 wr gi s = X := by
  unfold fX9_needsBoth at k2
  rw [bn1_, hq, if_pos rfl, e2] at k2
  exact k2
theorem ne_m1 {r lo : Int32} (h : Int32.toInt lo ≤ Int32.toInt r) (hl : 0 ≤ Int32.toInt lo) : ¬ r = -1 := by
  intro e
  rw [e, show Int32.toInt (-1) = -1 by decide] at h
  omega
theorem ln_bend {s : Nat → Int32} {n b nx p bg tk : Nat} {pl kd vl to fa wr gi be : Int32} {lt wo : Int64} {w : Nat → Int64} {f sup : Nat → Int32} {bT hT : Bool} (hn : n ≤ 1000) (hw : WT w) (hf : SG f s) (h : TT s n b nx pl kd vl lt p bg tk wo to) (hq : fX9_isWord 43393 tk wo = true) :
    ∃ be' bT' nx1 pl1 kd1 vl1 lt1 fa1 ok1 p2 bg2 tk2 wo2 to2 wr2 tl2 gi2 sup2 ok2, fX7_readBend be bT n nx pl kd vl lt fa s w f = (be', bT', nx1, pl1, kd1, vl1, lt1, fa1, ok1) ∧ fX9_readsOne1 50 n p bg tk wo to wr (tlv bT hT) gi s sup = (p2, bg2, tk2, wo2, to2, wr2, tl2, gi2, sup2, ok2) ∧ (ok1 = false → ok2 = false ∧ fa1 = wr2) ∧ (ok1 = true → ∃ nx2 pl2 kd2 vl2 lt2 fa2, fX6_takeSign 59 n nx1 pl1 kd1 vl1 lt1 fa1 s w f = (nx2, pl2, kd2, vl2, lt2, fa2, ok2) ∧ (ok2 = false → fa2 = wr2) ∧ (ok2 = true → TG s n b nx2 pl2 kd2 vl2 lt2 p2 bg2 tk2 wo2 to2 ∧ bT' = true ∧ tl2 = tlv true hT ∧ sup2 = upd sup 5 be' ∧ fa2 = fa)) := by
  unfold fX7_readBend fX7_readBend_J43a fX9_readsOne1
  rw [show Int32.toNatClampNeg 5 = 5 by decide]
  cases bT with
  | true =>
    obtain ⟨w1, w2⟩ := t_wrong h 3
    rw [if_pos rfl, if_pos (tl_1.mpr rfl), w1, w2]
    exact ⟨be, true, nx, pl, kd, vl, lt, _, false, p, bg, tk, wo, to, _, _, gi, sup, false, rfl, rfl, fun _ => ⟨rfl, rfl⟩, fun z => Bool.noConfusion z⟩
  | false =>
    rw [if_neg (by decide), if_neg (fun z => by have := tl_1.mp z; exact Bool.noConfusion this)]
    obtain ⟨a1, a2, a3, a4, a5, c1, c2, c3, c4, c5, e1, e2, h3, h4⟩ := t_advG hn hw hf h (by rw [W_K h hq]; decide)
    obtain ⟨d1, d2, d3, d4, d5, d6, g1, g2, g3, g4, g5, g6, g7, ok, r, k1, k2, k3, k4⟩ := t_both (fa := fa) (wr := wr) (gi := gi) (lo := 1) (hi := 50) (x := 4) (W := 43393) hn hw hf h (j := 4) (by decide) rfl ((by decide : Int64.toInt 43393 = 43393).trans w27_4.symm)
    have k2 := both_ hq e2 k2
    rw [k1, e2]
    rw [bn7_, bn5_, k2, bn8_]
    cases ok with
    | true =>
      obtain ⟨⟨b1, q1, q2⟩, q3, q4, q5, q6⟩ := k3 rfl
      rw [if_neg (ne_m1 q4 (by decide))]
      obtain ⟨f1, f2, f3, f4, f5, f6, m1, m2, m3, m4, m5, m6, ok2, l1, l2, l3, l4⟩ := t_close (fa := d6) (wr := g6) hn hw hf q2
      refine ⟨r, true, d1, d2, d3, d4, d5, d6, true, m1, m2, m3, m4, m5, m6, _, g7, _, ok2, rfl, ?_, fun z => Bool.noConfusion z, fun _ => ⟨f1, f2, f3, f4, f5, f6, l1, l4, fun z => ⟨(l3 z).1.tr q1, rfl, tl_1s, by rw [q3], (l3 z).2.trans q6⟩⟩⟩
      rw [if_pos rfl, l2, bn7_]
    | false =>
      obtain ⟨q1, q2⟩ := k4 rfl
      rw [if_pos q1]
      exact ⟨r, true, d1, d2, d3, d4, d5, d6, false, g1, g2, g3, g4, g5, g6, _, g7, sup, false, rfl, rfl, fun _ => ⟨rfl, q2⟩, fun z => Bool.noConfusion z⟩
theorem ln_hour {s : Nat → Int32} {n b nx p bg tk : Nat} {pl kd vl to fa wr gi be : Int32} {lt wo : Int64} {w : Nat → Int64} {f sup : Nat → Int32} {bT hT : Bool} (hn : n ≤ 1000) (hw : WT w) (hf : SG f s) (h : TT s n b nx pl kd vl lt p bg tk wo to) (hq : fX9_isWord 168984 tk wo = true) :
    ∃ be' bT' nx1 pl1 kd1 vl1 lt1 fa1 ok1 p2 bg2 tk2 wo2 to2 wr2 tl2 gi2 sup2 ok2, fX7_readHour be hT n nx pl kd vl lt fa s w f = (be', bT', nx1, pl1, kd1, vl1, lt1, fa1, ok1) ∧ fX9_readsOne2 200 n p bg tk wo to wr (tlv bT hT) gi s sup = (p2, bg2, tk2, wo2, to2, wr2, tl2, gi2, sup2, ok2) ∧ (ok1 = false → ok2 = false ∧ fa1 = wr2) ∧ (ok1 = true → ∃ nx2 pl2 kd2 vl2 lt2 fa2, fX6_takeSign 59 n nx1 pl1 kd1 vl1 lt1 fa1 s w f = (nx2, pl2, kd2, vl2, lt2, fa2, ok2) ∧ (ok2 = false → fa2 = wr2) ∧ (ok2 = true → TG s n b nx2 pl2 kd2 vl2 lt2 p2 bg2 tk2 wo2 to2 ∧ bT' = true ∧ tl2 = tlv bT true ∧ sup2 = upd sup 6 be' ∧ fa2 = fa)) := by
  unfold fX7_readHour fX7_readHour_J44a fX9_readsOne2
  rw [show Int32.toNatClampNeg 6 = 6 by decide]
  cases hT with
  | true =>
    obtain ⟨w1, w2⟩ := t_wrong h 3
    rw [if_pos rfl, if_pos (tl_2.mpr rfl), w1, w2]
    exact ⟨be, true, nx, pl, kd, vl, lt, _, false, p, bg, tk, wo, to, _, _, gi, sup, false, rfl, rfl, fun _ => ⟨rfl, rfl⟩, fun z => Bool.noConfusion z⟩
  | false =>
    rw [if_neg (by decide), if_neg (fun z => by have := tl_2.mp z; exact Bool.noConfusion this)]
    obtain ⟨a1, a2, a3, a4, a5, c1, c2, c3, c4, c5, e1, e2, h3, h4⟩ := t_advG hn hw hf h (by rw [W_K h hq]; decide)
    obtain ⟨d1, d2, d3, d4, d5, d6, g1, g2, g3, g4, g5, g6, g7, ok, r, k1, k2, k3, k4⟩ := t_both (fa := fa) (wr := wr) (gi := gi) (lo := 1) (hi := 200) (x := 5) (W := 168984) hn hw hf h (j := 5) (by decide) rfl ((by decide : Int64.toInt 168984 = 168984).trans w27_5.symm)
    have k2 := both_ hq e2 k2
    rw [k1, e2]
    rw [bn7_, bn5_, k2, bn8_]
    cases ok with
    | true =>
      obtain ⟨⟨b1, q1, q2⟩, q3, q4, q5, q6⟩ := k3 rfl
      rw [if_neg (ne_m1 q4 (by decide))]
      obtain ⟨f1, f2, f3, f4, f5, f6, m1, m2, m3, m4, m5, m6, ok2, l1, l2, l3, l4⟩ := t_close (fa := d6) (wr := g6) hn hw hf q2
      refine ⟨r, true, d1, d2, d3, d4, d5, d6, true, m1, m2, m3, m4, m5, m6, _, g7, _, ok2, rfl, ?_, fun z => Bool.noConfusion z, fun _ => ⟨f1, f2, f3, f4, f5, f6, l1, l4, fun z => ⟨(l3 z).1.tr q1, rfl, tl_2s, by rw [q3], (l3 z).2.trans q6⟩⟩⟩
      rw [if_pos rfl, l2, bn7_]
    | false =>
      obtain ⟨q1, q2⟩ := k4 rfl
      rw [if_pos q1]
      exact ⟨r, true, d1, d2, d3, d4, d5, d6, false, g1, g2, g3, g4, g5, g6, _, g7, sup, false, rfl, rfl, fun _ => ⟨rfl, q2⟩, fun z => Bool.noConfusion z⟩
/-! snow -/
theorem K2_nn {s : Nat → Int32} {n b : Nat} (hb : b ≤ n) (h : tK s n b = 2) : 0 ≤ nv s b (tE s n b - b) := by
  have hbn := K_lt hb (by rw [h]; decide)
  have hd : ¬ isL (s b) = true ∧ isD (s b) = true := by
    unfold tK at h
    rw [if_neg (by omega)] at h
    by_cases hl : isL (s b) = true
    · rw [if_pos hl] at h; exfalso; split at h <;> omega
    · rw [if_neg hl] at h
      by_cases hd : isD (s b) = true
      · exact ⟨hl, hd⟩
      · rw [if_neg hd] at h; exfalso; split at h <;> omega
  have eE : tE s n b = runE isD s n b := by unfold tE; rw [if_neg (by omega), if_neg hd.1, if_pos hd.2]
  refine (nv_b (m := tE s n b - b) (fun q h1 h2 => ?_)).1
  exact runE_mem (P := isD) (f := s) (n := n) (p := b) h1 (by rw [← eE]; have := tE_gt (f := s) hbn; omega)
theorem upd_e {f : Nat → Int32} {k : Nat} {x : Int32} : upd f k x k = x := if_pos rfl
theorem upd_n {f : Nat → Int32} {k j : Nat} {x : Int32} (h : ¬ j = k) : upd f k x j = f j := if_neg h
theorem snow_lp {s : Nat → Int32} {n : Nat} {w : Nat → Int64} {f : Nat → Int32} {wr : Int32} (hn : n ≤ 1000) (hw : WT w) (hf : SG f s) : ∀ k k' c b nx p bg tk pl kd vl to fa lt wo (sn sup sn9 : Nat → Int32) z z', 13 - c < k → n + 1 - b < k' → c ≤ 12 → sup 7 = nI c → (∀ q, q < c → sn q = sn9 (12 + q)) → TT s n b nx pl kd vl lt p bg tk wo to →
    ∃ c1 sn1 nx1 pl1 kd1 vl1 lt1 fa1 ok1 p2 bg2 tk2 wo2 to2 wr2 sup2 sn2 ok2, lp z (fX7_readSnow_B19a n s w f) k c c sn nx pl kd vl lt fa = (c1, sn1, nx1, pl1, kd1, vl1, lt1, fa1, ok1) ∧ lp z' (fX9_readsSnow_B20a n wr s) k' sup sn9 p bg tk wo to = (p2, bg2, tk2, wo2, to2, wr2, sup2, sn2, ok2) ∧ (ok1 = false → ok2 = false ∧ fa1 = wr2) ∧ (ok1 = true → ∃ nx2 pl2 kd2 vl2 lt2 fa2, fX6_takeSign 59 n nx1 pl1 kd1 vl1 lt1 fa1 s w f = (nx2, pl2, kd2, vl2, lt2, fa2, ok2) ∧ (ok2 = false → fa2 = wr2) ∧ (ok2 = true → TG s n b nx2 pl2 kd2 vl2 lt2 p2 bg2 tk2 wo2 to2 ∧ c1 ≤ 12 ∧ sup2 7 = nI c1 ∧ (∀ q, ¬ q = 7 → sup2 q = sup q) ∧ (∀ q, q < c1 → sn1 q = sn2 (12 + q)) ∧ fa2 = fa)) := by
  have e7 : Int32.toNatClampNeg 7 = 7 := by decide
  intro k
  induction k with
  | zero => intro k' c b nx p bg tk pl kd vl to fa lt wo sn sup sn9 z z' q; exact absurd q (Nat.not_lt_zero _)
  | succ k ih =>
    intro k' c b nx p bg tk pl kd vl to fa lt wo sn sup sn9 z z' hk hk' hc hs hsn h
    obtain ⟨k', rfl⟩ : ∃ q, k' = q + 1 := ⟨k' - 1, by omega⟩
    show ∃ c1 sn1 nx1 pl1 kd1 vl1 lt1 fa1 ok1 p2 bg2 tk2 wo2 to2 wr2 sup2 sn2 ok2, fX7_readSnow_B19a n s w f (lp z (fX7_readSnow_B19a n s w f) k) c c sn nx pl kd vl lt fa = _ ∧ fX9_readsSnow_B20a n wr s (lp z' (fX9_readsSnow_B20a n wr s) k') sup sn9 p bg tk wo to = _ ∧ _
    have ih := fun c b nx p bg tk pl kd vl to fa lt wo sn sup sn9 => ih k' c b nx p bg tk pl kd vl to fa lt wo sn sup sn9 z z'
    generalize lp z (fX7_readSnow_B19a n s w f) k = r1 at ih ⊢
    generalize lp z' (fX9_readsSnow_B20a n wr s) k' = r2 at ih ⊢
    unfold fX7_readSnow_B19a fX7_readSnow_J105a fX9_readsSnow_B20a
    rw [if_neg (by omega), e7, hs]
    obtain ⟨n1, n2⟩ := t_num h
    have e0 : (nI c = 0) ↔ c = 0 := nIk (j := 0) (by omega) (by decide)
    have eN : fX6_isNumber kd = decide (tk = 2) := by
      unfold fX6_isNumber fX6_isNumber_J13a
      by_cases q : tk = 2
      · rw [if_pos (n1.mpr q), decide_eq_true q]
      · rw [if_neg (fun y => q (n1.mp y)), decide_eq_false q]
    -- one number more
    have body : ∃ c1 sn1 nx1 pl1 kd1 vl1 lt1 fa1 ok1 p2 bg2 tk2 wo2 to2 wr2 sup2 sn2 ok2, fX7_readSnow_J42a n s w f c c sn nx pl kd vl lt fa r1 = (c1, sn1, nx1, pl1, kd1, vl1, lt1, fa1, ok1) ∧ fX9_readsSnow_J38a n s sup sn9 p bg tk wo to r2 = (p2, bg2, tk2, wo2, to2, wr2, sup2, sn2, ok2) ∧ (ok1 = false → ok2 = false ∧ fa1 = wr2) ∧ (ok1 = true → ∃ nx2 pl2 kd2 vl2 lt2 fa2, fX6_takeSign 59 n nx1 pl1 kd1 vl1 lt1 fa1 s w f = (nx2, pl2, kd2, vl2, lt2, fa2, ok2) ∧ (ok2 = false → fa2 = wr2) ∧ (ok2 = true → TG s n b nx2 pl2 kd2 vl2 lt2 p2 bg2 tk2 wo2 to2 ∧ c1 ≤ 12 ∧ sup2 7 = nI c1 ∧ (∀ q, ¬ q = 7 → sup2 q = sup q) ∧ (∀ q, q < c1 → sn1 q = sn2 (12 + q)) ∧ fa2 = fa)) := by
      unfold fX7_readSnow_J42a fX9_readsSnow_J38a fX6_checkNumber fX6_checkNumber_J34a fX6_checkNumber_J39a
      rw [e7, hs]
      obtain ⟨w1, w2⟩ := t_wrong h 1
      obtain ⟨w3, w4⟩ := t_wrong h 4
      obtain ⟨w5, w6⟩ := t_wrong h 5
      by_cases k2 : tk = 2
      · have hK : tK s n b = 2 := by rw [← h.2.2.2.2.1]; exact k2
        have h0 : 0 ≤ Int32.toInt to := by rw [h.2.2.2.2.2.2 hK]; exact K2_nn h.1.1 hK
        rw [if_pos k2, if_pos (n1.mpr k2), n2 k2, bn1_, wi_]
        have e9 : (to ≤ 9) ↔ fX9_within to 0 9 = true := by
          rw [wi_t, Int32.le_iff_toInt_le, show Int32.toInt 9 = 9 by decide, show Int32.toInt 0 = 0 by decide]
          exact ⟨fun y => ⟨h0, y⟩, fun y => y.2⟩
        cases q : fX9_within to 0 9 with
        | true =>
          rw [if_pos (e9.mpr q), if_pos rfl, bn2_, if_pos rfl]
          have e12 : (nI c = 12) ↔ c = 12 := nIk (j := 12) (by omega) (by decide)
          by_cases h12 : c < 12
          · rw [if_pos h12, if_neg (fun y => by have := e12.mp y; omega)]
            obtain ⟨a1, a2, a3, a4, a5, c1, c2, c3, c4, c5, e1, e2, h3, h4⟩ := t_advG hn hw hf h (by rw [hK]; decide)
            rw [e1, e2, bn5_, bn5_]
            have hadd : (nI c : Int32) + 1 = nI (c + 1) := nI_add c 1
            have h12a : (12 : Int32) + nI c = nI (12 + c) := nI_add 12 c
            obtain ⟨x1, x2, x3, x4, x5, x6, x7, x8, x9, y1, y2, y3, y4, y5, y6, y7, y8, y9, i1, i2, i3, i4⟩ := ih (c + 1) (nt s n b) a1 c1 c2 c3 a2 a3 a4 c5 fa a5 c4 (upd sn (Int32.toNatClampNeg (nI c)) to) (upd sup 7 (nI c + 1)) (upd sn9 (Int32.toNatClampNeg (12 + nI c)) to) (by omega) (by have := h3.1.1; omega) (by omega) (by rw [upd_e, hadd]) (fun q hq => by
              rw [nI_clamp (by omega), h12a, nI_clamp (by omega)]
              by_cases e : q = c
              · rw [e, upd_e, upd_e]
              · rw [upd_n e, upd_n (by omega)]; exact hsn q (by omega)) h3
            refine ⟨x1, x2, x3, x4, x5, x6, x7, x8, x9, y1, y2, y3, y4, y5, y6, y7, y8, y9, i1, i2, i3, fun y => ?_⟩
            obtain ⟨v1, v2, v3, v4, v5, v6, j1, j2, j3⟩ := i4 y
            refine ⟨v1, v2, v3, v4, v5, v6, j1, j2, fun y => ?_⟩
            obtain ⟨m1, m2, m3, m4, m5, m6⟩ := j3 y
            exact ⟨m1.tr h4, m2, m3, fun q hq => by rw [m4 q hq, upd_n hq], m5, m6⟩
          · rw [if_neg h12, if_pos (e12.mpr (by omega)), w5, w6]
            exact ⟨c, sn, nx, pl, kd, to, lt, _, false, p, bg, tk, wo, to, _, sup, sn9, false, rfl, rfl, fun _ => ⟨rfl, rfl⟩, fun y => Bool.noConfusion y⟩
        | false =>
          rw [if_neg (show ¬ (to ≤ 9) from fun y => by rw [e9.mp y] at q; exact Bool.noConfusion q), if_neg (show ¬ (false = true) by decide), w3, w4]
          exact ⟨c, sn, nx, pl, kd, to, lt, _, false, p, bg, tk, wo, to, _, sup, sn9, false, rfl, rfl, fun _ => ⟨rfl, rfl⟩, fun y => Bool.noConfusion y⟩
      · rw [if_neg k2, if_neg (fun y => k2 (n1.mp y)), w1, w2]
        exact ⟨c, sn, nx, pl, kd, vl, lt, _, false, p, bg, tk, wo, to, _, sup, sn9, false, rfl, rfl, fun _ => ⟨rfl, rfl⟩, fun y => Bool.noConfusion y⟩
    by_cases c0 : c = 0
    · rw [if_pos c0, if_pos (e0.mpr c0)]
      exact body
    · rw [if_neg c0, if_neg (fun y => c0 (e0.mp y)), bn1_, eN]
      by_cases k2 : tk = 2
      · rw [decide_eq_true k2, if_pos rfl, if_pos k2]
        exact body
      · rw [decide_eq_false k2, if_neg (by decide), if_neg k2]
        obtain ⟨f1, f2, f3, f4, f5, f6, m1, m2, m3, m4, m5, m6, ok2, l1, l2, l3, l4⟩ := t_close (fa := fa) (wr := wr) hn hw hf h
        rw [l2, bn7_]
        exact ⟨c, sn, nx, pl, kd, vl, lt, fa, true, m1, m2, m3, m4, m5, m6, sup, sn9, ok2, rfl, rfl, fun y => Bool.noConfusion y, fun _ => ⟨f1, f2, f3, f4, f5, f6, l1, l4, fun y => ⟨(l3 y).1, hc, hs, fun _ _ => rfl, hsn, (l3 y).2⟩⟩⟩
