/-! what a supper's reading leaves as it was -/
def FRS (a a' b b' : Nat → Int32) : Prop := (∀ q, ¬ q = 7 → a' q = a q) ∧ (∀ q, q < 12 → b' q = b q)
theorem FRS_r {a b : Nat → Int32} : FRS a a b b := ⟨fun _ _ => rfl, fun _ _ => rfl⟩
theorem bn1_all {A0 T : Type} {P : T → Prop} {p : A0} {F : A0 → T} (h : ∀ a0, P (F a0)) : P (bn1 p F) := h _
theorem bn2_all {A0 A1 T : Type} {P : T → Prop} {p : A0 × A1} {F : A0 → A1 → T} (h : ∀ a0 a1, P (F a0 a1)) : P (bn2 p F) := h _ _
theorem bn5_all {A0 A1 A2 A3 A4 T : Type} {P : T → Prop} {p : A0 × A1 × A2 × A3 × A4} {F : A0 → A1 → A2 → A3 → A4 → T} (h : ∀ a0 a1 a2 a3 a4, P (F a0 a1 a2 a3 a4)) : P (bn5 p F) := h _ _ _ _ _
theorem bn7_all {A0 A1 A2 A3 A4 A5 A6 T : Type} {P : T → Prop} {p : A0 × A1 × A2 × A3 × A4 × A5 × A6} {F : A0 → A1 → A2 → A3 → A4 → A5 → A6 → T} (h : ∀ a0 a1 a2 a3 a4 a5 a6, P (F a0 a1 a2 a3 a4 a5 a6)) : P (bn7 p F) := h _ _ _ _ _ _ _
theorem bn8_all {A0 A1 A2 A3 A4 A5 A6 A7 T : Type} {P : T → Prop} {p : A0 × A1 × A2 × A3 × A4 × A5 × A6 × A7} {F : A0 → A1 → A2 → A3 → A4 → A5 → A6 → A7 → T} (h : ∀ a0 a1 a2 a3 a4 a5 a6 a7, P (F a0 a1 a2 a3 a4 a5 a6 a7)) : P (bn8 p F) := h _ _ _ _ _ _ _ _
theorem snowF_lp {s : Nat → Int32} {n : Nat} {w : Nat → Int64} {f : Nat → Int32} {wr : Int32} (hn : n ≤ 1000) (hw : WT w) (hf : SG f s) : ∀ k k' c b nx p bg tk pl kd vl to fa lt wo (sn sup sn9 : Nat → Int32) z z', 13 - c < k → n + 1 - b < k' → c ≤ 12 → sup 7 = nI c → (∀ q, q < c → sn q = sn9 (12 + q)) → TT s n b nx pl kd vl lt p bg tk wo to →
    ∃ c1 sn1 nx1 pl1 kd1 vl1 lt1 fa1 ok1 p2 bg2 tk2 wo2 to2 wr2 sup2 sn2 ok2, lp z (fX7_readSnow_B19a n s w f) k c c sn nx pl kd vl lt fa = (c1, sn1, nx1, pl1, kd1, vl1, lt1, fa1, ok1) ∧ lp z' (fX9_readsSnow_B20a n wr s) k' sup sn9 p bg tk wo to = (p2, bg2, tk2, wo2, to2, wr2, sup2, sn2, ok2) ∧ (ok1 = false → ok2 = false ∧ fa1 = wr2) ∧ (ok1 = true → ∃ nx2 pl2 kd2 vl2 lt2 fa2, fX6_takeSign 59 n nx1 pl1 kd1 vl1 lt1 fa1 s w f = (nx2, pl2, kd2, vl2, lt2, fa2, ok2) ∧ (ok2 = false → fa2 = wr2) ∧ (ok2 = true → TG s n b nx2 pl2 kd2 vl2 lt2 p2 bg2 tk2 wo2 to2 ∧ c1 ≤ 12 ∧ sup2 7 = nI c1 ∧ (∀ q, ¬ q = 7 → sup2 q = sup q) ∧ (∀ q, q < c1 → sn1 q = sn2 (12 + q)) ∧ fa2 = fa)) ∧ FRS sup sup2 sn9 sn2 := by
  have e7 : Int32.toNatClampNeg 7 = 7 := by decide
  intro k
  induction k with
  | zero => intro k' c b nx p bg tk pl kd vl to fa lt wo sn sup sn9 z z' q; exact absurd q (Nat.not_lt_zero _)
  | succ k ih =>
    intro k' c b nx p bg tk pl kd vl to fa lt wo sn sup sn9 z z' hk hk' hc hs hsn h
    obtain ⟨k', rfl⟩ : ∃ q, k' = q + 1 := ⟨k' - 1, by omega⟩
    show ∃ c1 sn1 nx1 pl1 kd1 vl1 lt1 fa1 ok1 p2 bg2 tk2 wo2 to2 wr2 sup2 sn2 ok2, fX7_readSnow_B19a n s w f (lp z (fX7_readSnow_B19a n s w f) k) c c sn nx pl kd vl lt fa = _ ∧ fX9_readsSnow_B20a n wr s (lp z' (fX9_readsSnow_B20a n wr s) k') sup sn9 p bg tk wo to = _ ∧ _
    have ih := fun c b nx p bg tk pl kd vl to fa lt wo sn sup sn9 => ih k' c b nx p bg tk pl kd vl to fa lt wo sn sup sn9 z z'
    generalize lp z (fX7_readSnow_B19a n s w f) k = r1 at ih ⊢
    generalize lp z' (fX9_readsSnow_B20a n wr s) k' = r2 at ih ⊢
    unfold fX7_readSnow_B19a fX7_readSnow_J105a fX9_readsSnow_B20a
    rw [if_neg (by omega), e7, hs]
    obtain ⟨n1, n2⟩ := t_num h
    have e0 : (nI c = 0) ↔ c = 0 := nIk (j := 0) (by omega) (by decide)
    have eN : fX6_isNumber kd = decide (tk = 2) := by
      unfold fX6_isNumber fX6_isNumber_J13a
      by_cases q : tk = 2
      · rw [if_pos (n1.mpr q), decide_eq_true q]
      · rw [if_neg (fun y => q (n1.mp y)), decide_eq_false q]
    -- one number more
    have body : ∃ c1 sn1 nx1 pl1 kd1 vl1 lt1 fa1 ok1 p2 bg2 tk2 wo2 to2 wr2 sup2 sn2 ok2, fX7_readSnow_J42a n s w f c c sn nx pl kd vl lt fa r1 = (c1, sn1, nx1, pl1, kd1, vl1, lt1, fa1, ok1) ∧ fX9_readsSnow_J38a n s sup sn9 p bg tk wo to r2 = (p2, bg2, tk2, wo2, to2, wr2, sup2, sn2, ok2) ∧ (ok1 = false → ok2 = false ∧ fa1 = wr2) ∧ (ok1 = true → ∃ nx2 pl2 kd2 vl2 lt2 fa2, fX6_takeSign 59 n nx1 pl1 kd1 vl1 lt1 fa1 s w f = (nx2, pl2, kd2, vl2, lt2, fa2, ok2) ∧ (ok2 = false → fa2 = wr2) ∧ (ok2 = true → TG s n b nx2 pl2 kd2 vl2 lt2 p2 bg2 tk2 wo2 to2 ∧ c1 ≤ 12 ∧ sup2 7 = nI c1 ∧ (∀ q, ¬ q = 7 → sup2 q = sup q) ∧ (∀ q, q < c1 → sn1 q = sn2 (12 + q)) ∧ fa2 = fa)) ∧ FRS sup sup2 sn9 sn2 := by
      unfold fX7_readSnow_J42a fX9_readsSnow_J38a fX6_checkNumber fX6_checkNumber_J34a fX6_checkNumber_J39a
      rw [e7, hs]
      obtain ⟨w1, w2⟩ := t_wrong h 1
      obtain ⟨w3, w4⟩ := t_wrong h 4
      obtain ⟨w5, w6⟩ := t_wrong h 5
      by_cases k2 : tk = 2
      · have hK : tK s n b = 2 := by rw [← h.2.2.2.2.1]; exact k2
        have h0 : 0 ≤ Int32.toInt to := by rw [h.2.2.2.2.2.2 hK]; exact K2_nn h.1.1 hK
        rw [if_pos k2, if_pos (n1.mpr k2), n2 k2, bn1_, wi_]
        have e9 : (to ≤ 9) ↔ fX9_within to 0 9 = true := by
          rw [wi_t, Int32.le_iff_toInt_le, show Int32.toInt 9 = 9 by decide, show Int32.toInt 0 = 0 by decide]
          exact ⟨fun y => ⟨h0, y⟩, fun y => y.2⟩
        cases q : fX9_within to 0 9 with
        | true =>
          rw [if_pos (e9.mpr q), if_pos rfl, bn2_, if_pos rfl]
          have e12 : (nI c = 12) ↔ c = 12 := nIk (j := 12) (by omega) (by decide)
          by_cases h12 : c < 12
          · rw [if_pos h12, if_neg (fun y => by have := e12.mp y; omega)]
            obtain ⟨a1, a2, a3, a4, a5, c1, c2, c3, c4, c5, e1, e2, h3, h4⟩ := t_advG hn hw hf h (by rw [hK]; decide)
            rw [e1, e2, bn5_, bn5_]
            have hadd : (nI c : Int32) + 1 = nI (c + 1) := nI_add c 1
            have h12a : (12 : Int32) + nI c = nI (12 + c) := nI_add 12 c
            obtain ⟨x1, x2, x3, x4, x5, x6, x7, x8, x9, y1, y2, y3, y4, y5, y6, y7, y8, y9, i1, i2, i3, i4, i5⟩ := ih (c + 1) (nt s n b) a1 c1 c2 c3 a2 a3 a4 c5 fa a5 c4 (upd sn (Int32.toNatClampNeg (nI c)) to) (upd sup 7 (nI c + 1)) (upd sn9 (Int32.toNatClampNeg (12 + nI c)) to) (by omega) (by have := h3.1.1; omega) (by omega) (by rw [upd_e, hadd]) (fun q hq => by
              rw [nI_clamp (by omega), h12a, nI_clamp (by omega)]
              by_cases e : q = c
              · rw [e, upd_e, upd_e]
              · rw [upd_n e, upd_n (by omega)]; exact hsn q (by omega)) h3
            refine ⟨x1, x2, x3, x4, x5, x6, x7, x8, x9, y1, y2, y3, y4, y5, y6, y7, y8, y9, i1, i2, i3, fun y => ?_, ⟨fun q hq => by rw [i5.1 q hq, upd_n hq], fun q hq => by rw [i5.2 q hq, h12a, nI_clamp (by omega), upd_n (by omega)]⟩⟩
            obtain ⟨v1, v2, v3, v4, v5, v6, j1, j2, j3⟩ := i4 y
            refine ⟨v1, v2, v3, v4, v5, v6, j1, j2, fun y => ?_⟩
            obtain ⟨m1, m2, m3, m4, m5, m6⟩ := j3 y
            exact ⟨m1.tr h4, m2, m3, fun q hq => by rw [m4 q hq, upd_n hq], m5, m6⟩
          · rw [if_neg h12, if_pos (e12.mpr (by omega)), w5, w6]
            exact ⟨c, sn, nx, pl, kd, to, lt, _, false, p, bg, tk, wo, to, _, sup, sn9, false, rfl, rfl, fun _ => ⟨rfl, rfl⟩, fun y => Bool.noConfusion y, FRS_r⟩
        | false =>
          rw [if_neg (show ¬ (to ≤ 9) from fun y => by rw [e9.mp y] at q; exact Bool.noConfusion q), if_neg (show ¬ (false = true) by decide), w3, w4]
          exact ⟨c, sn, nx, pl, kd, to, lt, _, false, p, bg, tk, wo, to, _, sup, sn9, false, rfl, rfl, fun _ => ⟨rfl, rfl⟩, fun y => Bool.noConfusion y, FRS_r⟩
      · rw [if_neg k2, if_neg (fun y => k2 (n1.mp y)), w1, w2]
        exact ⟨c, sn, nx, pl, kd, vl, lt, _, false, p, bg, tk, wo, to, _, sup, sn9, false, rfl, rfl, fun _ => ⟨rfl, rfl⟩, fun y => Bool.noConfusion y, FRS_r⟩
    by_cases c0 : c = 0
    · rw [if_pos c0, if_pos (e0.mpr c0)]
      exact body
    · rw [if_neg c0, if_neg (fun y => c0 (e0.mp y)), bn1_, eN]
      by_cases k2 : tk = 2
      · rw [decide_eq_true k2, if_pos rfl, if_pos k2]
        exact body
      · rw [decide_eq_false k2, if_neg (by decide), if_neg k2]
        obtain ⟨f1, f2, f3, f4, f5, f6, m1, m2, m3, m4, m5, m6, ok2, l1, l2, l3, l4⟩ := t_close (fa := fa) (wr := wr) hn hw hf h
        rw [l2, bn7_]
        exact ⟨c, sn, nx, pl, kd, vl, lt, fa, true, m1, m2, m3, m4, m5, m6, sup, sn9, ok2, rfl, rfl, fun y => Bool.noConfusion y, fun _ => ⟨f1, f2, f3, f4, f5, f6, l1, l4, fun y => ⟨(l3 y).1, hc, hs, fun _ _ => rfl, hsn, (l3 y).2⟩⟩, FRS_r⟩
theorem ln_snowF {s : Nat → Int32} {n b nx p bg tk sw : Nat} {pl kd vl to fa wr : Int32} {lt wo : Int64} {w : Nat → Int64} {f sup sn sn9 : Nat → Int32} (hn : n ≤ 1000) (hw : WT w) (hf : SG f s) (h : TT s n b nx pl kd vl lt p bg tk wo to) (hK : ¬ tK s n b = 0) (h12 : sw ≤ 12) (hs : sup 7 = nI sw) :
    ∃ c1 sn1 nx1 pl1 kd1 vl1 lt1 fa1 ok1 p2 bg2 tk2 wo2 to2 wr2 sup2 sn2 ok2, fX7_readSnow sw sn n nx pl kd vl lt fa s w f = (c1, sn1, nx1, pl1, kd1, vl1, lt1, fa1, ok1) ∧ fX9_readsSnow n p bg tk wo to wr s sup sn9 = (p2, bg2, tk2, wo2, to2, wr2, sup2, sn2, ok2) ∧ (ok1 = false → ok2 = false ∧ fa1 = wr2) ∧ (ok1 = true → ∃ nx2 pl2 kd2 vl2 lt2 fa2, fX6_takeSign 59 n nx1 pl1 kd1 vl1 lt1 fa1 s w f = (nx2, pl2, kd2, vl2, lt2, fa2, ok2) ∧ (ok2 = false → fa2 = wr2) ∧ (ok2 = true → TG s n b nx2 pl2 kd2 vl2 lt2 p2 bg2 tk2 wo2 to2 ∧ c1 ≤ 12 ∧ sup2 7 = nI c1 ∧ (∀ q, ¬ q = 7 → sup2 q = sup q) ∧ (∀ q, q < c1 → sn1 q = sn2 (12 + q)) ∧ fa2 = fa)) ∧ FRS sup sup2 sn9 sn2 := by
  have e7 : Int32.toNatClampNeg 7 = 7 := by decide
  have e0 : (nI sw ≤ 0) ↔ sw ≤ 0 := by rw [Int32.le_iff_toInt_le, nI_toInt (by omega), show Int32.toInt 0 = 0 by decide]; omega
  unfold fX7_readSnow fX9_readsSnow
  rw [e7, hs]
  by_cases q : sw ≤ 0
  · rw [if_pos q, if_pos (e0.mpr q)]
    obtain ⟨a1, a2, a3, a4, a5, c1, c2, c3, c4, c5, x1, x2, x3, x4⟩ := t_advG hn hw hf h hK
    rw [x1, x2, bn5_, bn5_]
    have e : sw = 0 := by omega
    subst e
    obtain ⟨y1, y2, y3, y4, y5, y6, y7, y8, y9, z1, z2, z3, z4, z5, z6, z7, z8, z9, p1, p2, p3, p4, p5⟩ := snowF_lp (wr := wr) hn hw hf (13 + 1 - 0 + 1) (n + 1 - c2 + 1) 0 (nt s n b) a1 c1 c2 c3 a2 a3 a4 c5 fa a5 c4 sn sup sn9 (fun _ _ _ _ _ _ _ _ _ => (0, (fun _ => 0), 0, (0 : Int32), (0 : Int32), (0 : Int32), (0 : Int64), (0 : Int32), false)) (fun _ _ _ _ _ _ _ => (0, 0, 0, (0 : Int64), (0 : Int32), (0 : Int32), (fun _ => 0), (fun _ => 0), false)) (by omega) (by rw [x3.2.2.2.1]; omega) (by omega) hs (fun q hq => absurd hq (by omega)) x3
    refine ⟨y1, y2, y3, y4, y5, y6, y7, y8, y9, z1, z2, z3, z4, z5, z6, z7, z8, z9, p1, p2, p3, fun y => ?_, p5⟩
    obtain ⟨v1, v2, v3, v4, v5, v6, j1, j2, j3⟩ := p4 y
    refine ⟨v1, v2, v3, v4, v5, v6, j1, j2, fun y => ?_⟩
    obtain ⟨m1, m2⟩ := j3 y
    exact ⟨m1.tr x4, m2⟩
  · rw [if_neg q, if_neg (fun y => q (e0.mp y))]
    obtain ⟨w1, w2⟩ := t_wrong h 3
    rw [w1, w2, bn2_, bn2_]
    exact ⟨_, _, _, _, _, _, _, _, false, _, _, _, _, _, _, _, _, false, rfl, rfl, fun _ => ⟨rfl, rfl⟩, fun y => Bool.noConfusion y, FRS_r⟩
def FrG (sup : Nat → Int32) (gn : Nat → Int64) (k o p c : Nat → Int32) (X : Nat × Nat × Nat × Int64 × Int32 × Int32 × Int32 × (Nat → Int32) × (Nat → Int64) × (Nat → Int32) × (Nat → Int32) × (Nat → Int32) × (Nat → Int32) × Bool) : Prop := (∀ q, q < 4 → X.2.2.2.2.2.2.2.1 q = sup q) ∧ (∀ q, q < 6 → X.2.2.2.2.2.2.2.2.1 q = gn q ∧ X.2.2.2.2.2.2.2.2.2.1 q = k q ∧ X.2.2.2.2.2.2.2.2.2.2.1 q = o q ∧ X.2.2.2.2.2.2.2.2.2.2.2.1 q = p q ∧ X.2.2.2.2.2.2.2.2.2.2.2.2.1 q = c q)
theorem FrG_i {sup sup' : Nat → Int32} {gn gn' : Nat → Int64} {k o p c k' o' p' c' : Nat → Int32} {b1 b2 b3 : Nat} {b4 : Int64} {b5 b6 b7 : Int32} {ub : Bool} (h1 : ∀ q, q < 4 → sup' q = sup q) (h2 : ∀ q, q < 6 → gn' q = gn q) (h3 : ∀ q, q < 6 → k' q = k q) (h4 : ∀ q, q < 6 → o' q = o q) (h5 : ∀ q, q < 6 → p' q = p q) (h6 : ∀ q, q < 6 → c' q = c q) : FrG sup gn k o p c (b1, b2, b3, b4, b5, b6, b7, sup', gn', k', o', p', c', ub) := ⟨h1, fun q hq => ⟨h2 q hq, h3 q hq, h4 q hq, h5 q hq, h6 q hq⟩⟩
theorem fr_guestJ {n g a1 a2 a3 : Nat} {wo a4 : Int64} {a5 wr gi v : Int32} {s sup : Nat → Int32} {gn : Nat → Int64} {k9 o9 p9 c9 : Nat → Int32} (hg : g ≤ 6) (hs : sup 4 = nI g) : FrG sup gn k9 o9 p9 c9 (fX9_readsGuest_J124a n wr gi s sup gn k9 o9 p9 c9 wo a1 a2 a3 a4 a5 v) := by
  have e4 : Int32.toNatClampNeg 4 = 4 := by decide
  have u1 : ∀ (f : Nat → Int32) (v : Int32) q, q < 6 → upd f (6 + g) v q = f q := fun f v q hq => upd_n (by omega)
  have u2 : ∀ (f : Nat → Int64) (v : Int64) q, q < 6 → vp_updL f (6 + g) v q = f q := fun f v q hq => updL_n (by omega)
  have u3 : ∀ (v : Int32) q, q < 4 → upd sup 4 v q = sup q := fun v q hq => upd_n (by omega)
  unfold fX9_readsGuest_J124a
  rw [e4, hs, show (6 : Int32) + nI g = nI (6 + g) from nI_add 6 g, nI_clamp (n := 6 + g) (by omega)]
  by_cases c1 : (0 : Int32) ≤ upd k9 (6 + g) v (6 + g)
  · rw [if_pos c1]
    refine bn5_all (P := FrG sup gn k9 o9 p9 c9) (fun _ _ _ _ _ => ?_)
    refine bn8_all (P := FrG sup gn k9 o9 p9 c9) (fun _ _ _ _ _ _ _ ub => ?_)
    by_cases c2 : ub = true
    · rw [if_pos c2]
      refine bn8_all (P := FrG sup gn k9 o9 p9 c9) (fun _ _ _ _ _ _ _ ub => ?_)
      by_cases c3 : ub = true
      · rw [if_pos c3]
        refine bn8_all (P := FrG sup gn k9 o9 p9 c9) (fun _ _ _ _ _ _ _ ub => ?_)
        by_cases c4 : ub = true
        · rw [if_pos c4]
          exact bn7_all (P := FrG sup gn k9 o9 p9 c9) (fun _ _ _ _ _ _ _ => FrG_i (u3 _) (u2 _ _) (u1 _ _) (u1 _ _) (u1 _ _) (u1 _ _))
        · rw [if_neg c4]; exact FrG_i (fun _ _ => rfl) (fun _ _ => rfl) (u1 _ _) (u1 _ _) (u1 _ _) (fun _ _ => rfl)
      · rw [if_neg c3]; exact FrG_i (fun _ _ => rfl) (fun _ _ => rfl) (u1 _ _) (u1 _ _) (fun _ _ => rfl) (fun _ _ => rfl)
    · rw [if_neg c2]; exact FrG_i (fun _ _ => rfl) (fun _ _ => rfl) (u1 _ _) (fun _ _ => rfl) (fun _ _ => rfl) (fun _ _ => rfl)
  · rw [if_neg c1]
    exact bn2_all (P := FrG sup gn k9 o9 p9 c9) (fun _ _ => FrG_i (fun _ _ => rfl) (fun _ _ => rfl) (u1 _ _) (fun _ _ => rfl) (fun _ _ => rfl) (fun _ _ => rfl))
theorem fr_guest {n p bg tk g : Nat} {wo : Int64} {to wr gi : Int32} {s sup : Nat → Int32} {gn : Nat → Int64} {k9 o9 p9 c9 : Nat → Int32} (hg : g ≤ 6) (hs : sup 4 = nI g) : FrG sup gn k9 o9 p9 c9 (fX9_readsGuest n p bg tk wo to wr gi s sup gn k9 o9 p9 c9) := by
  unfold fX9_readsGuest
  by_cases c1 : (6 + (sup (Int32.toNatClampNeg 4))) = (12 : Int32)
  · rw [if_pos c1]
    exact bn2_all (P := FrG sup gn k9 o9 p9 c9) (fun _ _ => FrG_i (fun _ _ => rfl) (fun _ _ => rfl) (fun _ _ => rfl) (fun _ _ => rfl) (fun _ _ => rfl) (fun _ _ => rfl))
  · rw [if_neg c1]
    refine bn5_all (P := FrG sup gn k9 o9 p9 c9) (fun _ _ _ _ _ => ?_)
    refine bn1_all (P := FrG sup gn k9 o9 p9 c9) (fun u5 => ?_)
    by_cases c5 : u5 = true
    · rw [if_pos c5]
      exact bn2_all (P := FrG sup gn k9 o9 p9 c9) (fun _ _ => FrG_i (fun _ _ => rfl) (fun _ _ => rfl) (fun _ _ => rfl) (fun _ _ => rfl) (fun _ _ => rfl) (fun _ _ => rfl))
    · rw [if_neg c5]
      refine bn1_all (P := FrG sup gn k9 o9 p9 c9) (fun r8 => ?_)
      by_cases c8 : r8 < 0
      · rw [if_pos c8]
        refine bn5_all (P := FrG sup gn k9 o9 p9 c9) (fun _ _ _ _ _ => ?_)
        refine bn1_all (P := FrG sup gn k9 o9 p9 c9) (fun u => ?_)
        by_cases c : u = true
        · rw [if_pos c]; exact fr_guestJ hg hs
        rw [if_neg c]
        refine bn1_all (P := FrG sup gn k9 o9 p9 c9) (fun u => ?_)
        by_cases c : u = true
        · rw [if_pos c]; exact fr_guestJ hg hs
        rw [if_neg c]
        refine bn1_all (P := FrG sup gn k9 o9 p9 c9) (fun u => ?_)
        by_cases c : u = true
        · rw [if_pos c]; exact fr_guestJ hg hs
        rw [if_neg c]
        refine bn1_all (P := FrG sup gn k9 o9 p9 c9) (fun u => ?_)
        by_cases c : u = true
        · rw [if_pos c]; exact fr_guestJ hg hs
        rw [if_neg c]
        exact fr_guestJ hg hs
      · rw [if_neg c8]
        exact bn2_all (P := FrG sup gn k9 o9 p9 c9) (fun _ _ => FrG_i (fun _ _ => rfl) (fun _ _ => rfl) (fun _ _ => rfl) (fun _ _ => rfl) (fun _ _ => rfl) (fun _ _ => rfl))
def FrO (sup : Nat → Int32) (X : Nat × Nat × Nat × Int64 × Int32 × Int32 × Int32 × Int32 × (Nat → Int32) × Bool) : Prop := ∀ q, q < 4 → X.2.2.2.2.2.2.2.2.1 q = sup q
theorem fr_one1 {n p bg tk : Nat} {wo : Int64} {mo to wr tl gi : Int32} {s sup : Nat → Int32} : FrO sup (fX9_readsOne1 mo n p bg tk wo to wr tl gi s sup) := by
  have u3 : ∀ (v : Int32) q, q < 4 → upd sup 5 v q = sup q := fun v q hq => upd_n (by omega)
  unfold fX9_readsOne1
  rw [show Int32.toNatClampNeg 5 = 5 by decide]
  by_cases c1 : ((tl >>> (1 &&& 31)) &&& 1) = (1 : Int32)
  · rw [if_pos c1]
    exact bn2_all (P := FrO sup) (fun _ _ _ _ => rfl)
  · rw [if_neg c1]
    refine bn5_all (P := FrO sup) (fun _ _ _ _ _ => ?_)
    refine bn8_all (P := FrO sup) (fun _ _ _ _ _ _ _ ub => ?_)
    by_cases c2 : ub = true
    · rw [if_pos c2]
      exact bn7_all (P := FrO sup) (fun _ _ _ _ _ _ _ => u3 _)
    · rw [if_neg c2]; exact fun _ _ => rfl
theorem fr_one2 {n p bg tk : Nat} {wo : Int64} {mo to wr tl gi : Int32} {s sup : Nat → Int32} : FrO sup (fX9_readsOne2 mo n p bg tk wo to wr tl gi s sup) := by
  have u3 : ∀ (v : Int32) q, q < 4 → upd sup 6 v q = sup q := fun v q hq => upd_n (by omega)
  unfold fX9_readsOne2
  rw [show Int32.toNatClampNeg 6 = 6 by decide]
  by_cases c1 : ((tl >>> (2 &&& 31)) &&& 1) = (1 : Int32)
  · rw [if_pos c1]
    exact bn2_all (P := FrO sup) (fun _ _ _ _ => rfl)
  · rw [if_neg c1]
    refine bn5_all (P := FrO sup) (fun _ _ _ _ _ => ?_)
    refine bn8_all (P := FrO sup) (fun _ _ _ _ _ _ _ ub => ?_)
    by_cases c2 : ub = true
    · rw [if_pos c2]
      exact bn7_all (P := FrO sup) (fun _ _ _ _ _ _ _ => u3 _)
    · rw [if_neg c2]; exact fun _ _ => rfl
def Fr (sup : Nat → Int32) (gn : Nat → Int64) (k9 o9 p9 c9 sn9 sup0 : Nat → Int32) (gn0 : Nat → Int64) (k0 o0 p0 c0 sn0 : Nat → Int32) : Prop := (∀ q, q < 4 → sup q = sup0 q) ∧ (∀ q, q < 6 → gn q = gn0 q ∧ k9 q = k0 q ∧ o9 q = o0 q ∧ p9 q = p0 q ∧ c9 q = c0 q) ∧ (∀ q, q < 12 → sn9 q = sn0 q)
def ALF (n : Nat) (sup0 : Nat → Int32) (gn0 : Nat → Int64) (k0 o0 p0 c0 sn0 : Nat → Int32) (X : Nat × Nat × Int32 × Int32 × Bool × Bool × (Nat → Int64) × (Nat → Int32) × (Nat → Int32) × (Nat → Int32) × (Nat → Int32) × (Nat → Int32) × Nat × (Nat → Int32) × Nat × Int32 × Int32 × Int32 × Int64 × Int32 × Bool) (Y : Nat × Nat × Nat × Nat × Nat × Int64 × Int32 × Int32 × Nat × Int32 × Int32 × (Nat → Int32) × (Nat → Int64) × (Nat → Int32) × (Nat → Int32) × (Nat → Int32) × (Nat → Int32) × (Nat → Int32) × (Nat → Int32) × (Nat → Int32) × (Nat → Int32) × (Nat → Int32) × (Nat → Int32) × Bool) : Prop := ∃ g sw be ho bT hT na ki ya pa sk sn ll lc nx pl kd vl lt fa ok p bg tk wo to wr code tl gi sup gn k9 o9 p9 c9 sn9 lf lt9 codes op cm, X = (g, sw, be, ho, bT, hT, na, ki, ya, pa, sk, sn, ll, lc, nx, pl, kd, vl, lt, fa, ok) ∧ Y = (0, n, p, bg, tk, wo, to, wr, code, tl, gi, sup, gn, k9, o9, p9, c9, sn9, lf, lt9, codes, op, cm, ok) ∧ (ok = false → fa = wr) ∧ (ok = true → DR g na ki ya pa sk sw sn be ho bT hT ll sup gn k9 o9 p9 c9 sn9 lf lt9 tl) ∧ Fr sup gn k9 o9 p9 c9 sn9 sup0 gn0 k0 o0 p0 c0 sn0
set_option maxHeartbeats 8000000 in
theorem rd_allF {sup0 : Nat → Int32} {gn0 : Nat → Int64} {k0 o0 p0 c0 sn0 : Nat → Int32} {s : Nat → Int32} {n : Nat} {w : Nat → Int64} {f : Nat → Int32} (hn : n ≤ 1000) (hw : WT w) (hf : SG f s) : ∀ k k' z z' i b lc nx pl kd vl lt fa p bg tk wo to wr code gi codes op cm g na ki ya pa sk sw sn be ho bT hT ll sup gn k9 o9 p9 c9 sn9 lf lt9 tl, 1000 + 1 - i < k → n + 1 - b < k' → i ≤ b → TT s n b nx pl kd vl lt p bg tk wo to → DR g na ki ya pa sk sw sn be ho bT hT ll sup gn k9 o9 p9 c9 sn9 lf lt9 tl → 1000 ≤ code → code ≤ 1000 + b → Fr sup gn k9 o9 p9 c9 sn9 sup0 gn0 k0 o0 p0 c0 sn0 → ALF n sup0 gn0 k0 o0 p0 c0 sn0 (lp z (fX7_read_B8a n s w f) k true i na ki ya pa sk sn lc nx pl kd vl lt fa g sw be ho bT hT ll) (lp z' (fX9_readsAll_B39a s 0 n) k' gn k9 o9 p9 c9 sn9 lf lt9 codes op cm sup p bg tk wo to wr code tl gi) := by
  intro k
  induction k with
  | zero => intro k' z z' i b lc nx pl kd vl lt fa p bg tk wo to wr code gi codes op cm g na ki ya pa sk sw sn be ho bT hT ll sup gn k9 o9 p9 c9 sn9 lf lt9 tl q; exact absurd q (Nat.not_lt_zero _)
  | succ k ih =>
    intro k' z z' i b lc nx pl kd vl lt fa p bg tk wo to wr code gi codes op cm g na ki ya pa sk sw sn be ho bT hT ll sup gn k9 o9 p9 c9 sn9 lf lt9 tl hk hk' hi h hD hc hc1 hFr
    have hbn := h.1.1
    obtain ⟨k', rfl⟩ : ∃ q, k' = q + 1 := ⟨k' - 1, by omega⟩
    have hF : ∀ i na ki ya pa sk sn lc nx pl kd vl lt fa g sw be ho bT hT ll, lp z (fX7_read_B8a n s w f) k false i na ki ya pa sk sn lc nx pl kd vl lt fa g sw be ho bT hT ll = (g, sw, be, ho, bT, hT, na, ki, ya, pa, sk, sn, ll, lc, nx, pl, kd, vl, lt, fa, false) := by
      intro i na ki ya pa sk sn lc nx pl kd vl lt fa g sw be ho bT hT ll
      obtain ⟨k, rfl⟩ : ∃ q, k = q + 1 := ⟨k - 1, by omega⟩
      show fX7_read_B8a n s w f (lp z (fX7_read_B8a n s w f) k) false i na ki ya pa sk sn lc nx pl kd vl lt fa g sw be ho bT hT ll = _
      generalize lp z (fX7_read_B8a n s w f) k = rc
      unfold fX7_read_B8a fX7_read_J176a
      by_cases q : 1000 ≤ i
      · rw [if_pos q]
      · rw [if_neg q, if_neg (by decide)]
    show ALF n sup0 gn0 k0 o0 p0 c0 sn0 (fX7_read_B8a n s w f (lp z (fX7_read_B8a n s w f) k) true i na ki ya pa sk sn lc nx pl kd vl lt fa g sw be ho bT hT ll) (fX9_readsAll_B39a s 0 n (lp z' (fX9_readsAll_B39a s 0 n) k') gn k9 o9 p9 c9 sn9 lf lt9 codes op cm sup p bg tk wo to wr code tl gi)
    have ih := fun i b lc nx pl kd vl lt fa p bg tk wo to wr code gi codes op cm g na ki ya pa sk sw sn be ho bT hT ll sup gn k9 o9 p9 c9 sn9 lf lt9 tl => ih k' z z' i b lc nx pl kd vl lt fa p bg tk wo to wr code gi codes op cm g na ki ya pa sk sw sn be ho bT hT ll sup gn k9 o9 p9 c9 sn9 lf lt9 tl
    generalize lp z (fX7_read_B8a n s w f) k = rc at ih hF ⊢
    generalize lp z' (fX9_readsAll_B39a s 0 n) k' = rd at ih ⊢
    have close : ∀ (ok1 ok2 : Bool) lc nx pl kd vl lt fa p bg tk wo to wr code gi codes op cm g na ki ya pa sk sw sn be ho bT hT ll sup gn k9 o9 p9 c9 sn9 lf lt9 tl, (ok1 = false → ok2 = false ∧ fa = wr) → (ok1 = true → ∃ nx2 pl2 kd2 vl2 lt2 fa2, fX6_takeSign 59 n nx pl kd vl lt fa s w f = (nx2, pl2, kd2, vl2, lt2, fa2, ok2) ∧ (ok2 = false → fa2 = wr) ∧ (ok2 = true → ∃ b', b < b' ∧ TT s n b' nx2 pl2 kd2 vl2 lt2 p bg tk wo to ∧ DR g na ki ya pa sk sw sn be ho bT hT ll sup gn k9 o9 p9 c9 sn9 lf lt9 tl ∧ 1000 ≤ code ∧ code ≤ 1000 + b')) → Fr sup gn k9 o9 p9 c9 sn9 sup0 gn0 k0 o0 p0 c0 sn0 → ALF n sup0 gn0 k0 o0 p0 c0 sn0 (fX7_read_J151a n s w f i rc ok1 na ki ya pa sk sn lc g sw be ho bT hT ll nx pl kd vl lt fa) (if ok2 = true then rd gn k9 o9 p9 c9 sn9 lf lt9 codes op cm sup p bg tk wo to wr code tl gi else (0, n, p, bg, tk, wo, to, wr, code, tl, gi, sup, gn, k9, o9, p9, c9, sn9, lf, lt9, codes, op, cm, false)) := by
      intro ok1 ok2 lc nx pl kd vl lt fa p bg tk wo to wr code gi codes op cm g na ki ya pa sk sw sn be ho bT hT ll sup gn k9 o9 p9 c9 sn9 lf lt9 tl c1 c2 hFr
      unfold fX7_read_J151a fX7_read_J168a fX7_read_J169a
      cases ok1 with
      | false =>
        obtain ⟨e1, e2⟩ := c1 rfl
        rw [if_neg (by decide), e1, if_neg (by decide), hF]
        exact ⟨_, _, _, _, _, _, _, _, _, _, _, _, _, _, _, _, _, _, _, _, _, _, _, _, _, _, _, _, _, _, _, _, _, _, _, _, _, _, _, _, _, _, rfl, rfl, fun _ => e2, fun y => Bool.noConfusion y, hFr⟩
      | true =>
        obtain ⟨v1, v2, v3, v4, v5, v6, j1, j2, j3⟩ := c2 rfl
        rw [if_pos rfl, j1, bn7_]
        cases ok2 with
        | true =>
          obtain ⟨b', q1, q2, q3, q4, q5⟩ := j3 rfl
          rw [if_pos rfl, if_pos rfl]
          exact ih _ b' _ _ _ _ _ _ _ _ _ _ _ _ _ _ _ _ _ _ _ _ _ _ _ _ _ _ _ _ _ _ _ _ _ _ _ _ _ _ _ _ _ (by omega) (by have := q2.1.1; omega) (by omega) q2 q3 q4 q5 hFr
        | false =>
          rw [if_neg (by decide), if_neg (by decide), hF]
          exact ⟨_, _, _, _, _, _, _, _, _, _, _, _, _, _, _, _, _, _, _, _, _, _, _, _, _, _, _, _, _, _, _, _, _, _, _, _, _, _, _, _, _, _, rfl, rfl, fun _ => j2 rfl, fun y => Bool.noConfusion y, hFr⟩
    obtain ⟨hG, d1, d2, d3, d4, d5, d6, d7⟩ := hD
    unfold fX7_read_B8a fX7_read_J176a fX9_readsAll_B39a
    have hend : tk = 0 → ALF n sup0 gn0 k0 o0 p0 c0 sn0 (g, sw, be, ho, bT, hT, na, ki, ya, pa, sk, sn, ll, lc, nx, pl, kd, vl, lt, fa, true) (0, n, p, bg, tk, wo, to, wr, code, tl, gi, sup, gn, k9, o9, p9, c9, sn9, lf, lt9, codes, op, cm, true) := fun _ => ⟨_, _, _, _, _, _, _, _, _, _, _, _, _, _, _, _, _, _, _, _, _, _, _, _, _, _, _, _, _, _, _, _, _, _, _, _, _, _, _, _, _, _, rfl, rfl, fun y => Bool.noConfusion y, fun _ => ⟨hG, d1, d2, d3, d4, d5, d6, d7⟩, hFr⟩
    by_cases h1 : 1000 ≤ i
    · have e : b = n := by omega
      have t0 : tk = 0 := by rw [h.2.2.2.2.1]; unfold tK; rw [if_pos e]
      rw [if_pos h1, if_pos t0]
      exact hend t0
    rw [if_neg h1, if_pos rfl, bn1_]
    by_cases t0 : tk = 0
    · have ea : fX6_isAtEnd kd = true := by unfold fX6_isAtEnd fX6_isAtEnd_J12a; rw [if_pos ((t_end h).mpr t0)]
      rw [ea, if_pos rfl, if_pos t0]
      exact hend t0
    have ea : fX6_isAtEnd kd = false := by unfold fX6_isAtEnd fX6_isAtEnd_J12a; rw [if_neg (fun y => t0 ((t_end h).mp y))]
    rw [ea, if_neg (by decide), if_neg t0, bn1_]
    have hK : ¬ tK s n b = 0 := fun y => t0 (h.2.2.2.2.1.trans y)
    obtain ⟨wh1, wh2⟩ := wh_ h
    have eW : ∀ j W, j < 23 → Int64.toInt W = Er 27 (wd j) → (fX6_wordHere kd vl = nI j ↔ fX9_isWord W tk wo = true) := fun j W hj hW => by rw [wh1 j hj, t_word h hj rfl hW]
    have e0 := eW 0 4137608 (by decide) ((by decide : Int64.toInt 4137608 = 4137608).trans w27_0.symm)
    have e4 := eW 4 43393 (by decide) ((by decide : Int64.toInt 43393 = 43393).trans w27_4.symm)
    have e5 := eW 5 168984 (by decide) ((by decide : Int64.toInt 168984 = 168984).trans w27_5.symm)
    have e6 := eW 6 384611 (by decide) ((by decide : Int64.toInt 384611 = 384611).trans w27_6.symm)
    have e7 := eW 7 287898292 (by decide) ((by decide : Int64.toInt 287898292 = 287898292).trans w27_7.symm)
    generalize fX6_wordHere kd vl = r8 at e0 e4 e5 e6 e7 wh1 wh2 ⊢
    simp only [bn1_]
    by_cases q0 : fX9_isWord 4137608 tk wo = true
    · rw [e0.mpr q0, if_pos (by decide), if_pos q0]
      obtain ⟨g1, na1, ki1, ya1, pa1, sk1, nx1, pl1, kd1, vl1, lt1, fa1, ok1, p2, bg2, tk2, wo2, to2, wr2, gi2, sup2, gn2, k2, o2, r2, c2, ok2, x1, x2, x3, x4⟩ := ln_guest (fa := fa) (wr := wr) (gi := gi) hn hw hf h hK hG
      rw [x1, x2, bn13_, bn14_]
      refine close ok1 ok2 lc nx1 pl1 kd1 vl1 lt1 fa1 p2 bg2 tk2 wo2 to2 wr2 code gi2 codes op cm g1 na1 ki1 ya1 pa1 sk1 sw sn be ho bT hT ll sup2 gn2 k2 o2 r2 c2 sn9 lf lt9 tl x3 (fun y => ?_) (by have f9 := fr_guest (n := n) (p := p) (bg := bg) (tk := tk) (wo := wo) (to := to) (wr := wr) (gi := gi) (s := s) (gn := gn) (k9 := k9) (o9 := o9) (p9 := p9) (c9 := c9) hG.1 hG.2.1; rw [x2] at f9; exact ⟨fun q hq => (f9.1 q hq).trans (hFr.1 q hq), fun q hq => ⟨(f9.2 q hq).1.trans (hFr.2.1 q hq).1, (f9.2 q hq).2.1.trans (hFr.2.1 q hq).2.1, (f9.2 q hq).2.2.1.trans (hFr.2.1 q hq).2.2.1, (f9.2 q hq).2.2.2.1.trans (hFr.2.1 q hq).2.2.2.1, (f9.2 q hq).2.2.2.2.trans (hFr.2.1 q hq).2.2.2.2⟩, hFr.2.2⟩)
      obtain ⟨v1, v2, v3, v4, v5, v6, j1, j2, j3⟩ := x4 y
      refine ⟨v1, v2, v3, v4, v5, v6, j1, j2, fun y => ?_⟩
      obtain ⟨⟨b', m1, m2⟩, m3, m4, m5⟩ := j3 y
      exact ⟨b', m1, m2, ⟨m3, d1, (m4 7 (by decide)).trans d2, d3, (m4 5 (by decide)).trans d4, (m4 6 (by decide)).trans d5, d6, d7⟩, hc, by omega⟩
    rw [if_neg q0]
    by_cases q4 : fX9_isWord 43393 tk wo = true
    · rw [e4.mpr q4, if_neg (by decide), if_neg (by decide), if_neg (by decide), if_neg (by decide), if_pos (by decide), if_pos q4, d6]
      obtain ⟨be1, bT1, nx1, pl1, kd1, vl1, lt1, fa1, ok1, p2, bg2, tk2, wo2, to2, wr2, tl2, gi2, sup2, ok2, x1, x2, x3, x4⟩ := ln_bend (fa := fa) (wr := wr) (gi := gi) (be := be) (bT := bT) (hT := hT) (sup := sup) hn hw hf h q4
      rw [x1, x2, bn9_, bn10_]
      refine close ok1 ok2 lc nx1 pl1 kd1 vl1 lt1 fa1 p2 bg2 tk2 wo2 to2 wr2 code gi2 codes op cm g na ki ya pa sk sw sn be1 ho bT1 hT ll sup2 gn k9 o9 p9 c9 sn9 lf lt9 tl2 x3 (fun y => ?_) (by have f9 := fr_one1 (mo := 50) (n := n) (p := p) (bg := bg) (tk := tk) (wo := wo) (to := to) (wr := wr) (tl := tlv bT hT) (gi := gi) (s := s) (sup := sup); rw [x2] at f9; exact ⟨fun q hq => (f9 q hq).trans (hFr.1 q hq), hFr.2⟩)
      obtain ⟨v1, v2, v3, v4, v5, v6, j1, j2, j3⟩ := x4 y
      refine ⟨v1, v2, v3, v4, v5, v6, j1, j2, fun y => ?_⟩
      obtain ⟨⟨b', m1, m2⟩, m3, m4, m5, m6⟩ := j3 y
      refine ⟨b', m1, m2, ⟨⟨hG.1, ?_, hG.2.2⟩, d1, ?_, d3, ?_, ?_, ?_, d7⟩, hc, by omega⟩
      · rw [m5, upd_n (by decide)]; exact hG.2.1
      · rw [m5, upd_n (by decide)]; exact d2
      · rw [m5, upd_e]
      · rw [m5, upd_n (by decide)]; exact d5
      · rw [m4, m3]
    rw [if_neg q4]
    by_cases q5 : fX9_isWord 168984 tk wo = true
    · rw [e5.mpr q5, if_neg (by decide), if_neg (by decide), if_neg (by decide), if_neg (by decide), if_neg (by decide), if_pos (by decide), if_pos q5, d6]
      obtain ⟨be1, bT1, nx1, pl1, kd1, vl1, lt1, fa1, ok1, p2, bg2, tk2, wo2, to2, wr2, tl2, gi2, sup2, ok2, x1, x2, x3, x4⟩ := ln_hour (fa := fa) (wr := wr) (gi := gi) (be := ho) (bT := bT) (hT := hT) (sup := sup) hn hw hf h q5
      rw [x1, x2, bn9_, bn10_]
      refine close ok1 ok2 lc nx1 pl1 kd1 vl1 lt1 fa1 p2 bg2 tk2 wo2 to2 wr2 code gi2 codes op cm g na ki ya pa sk sw sn be be1 bT bT1 ll sup2 gn k9 o9 p9 c9 sn9 lf lt9 tl2 x3 (fun y => ?_) (by have f9 := fr_one2 (mo := 200) (n := n) (p := p) (bg := bg) (tk := tk) (wo := wo) (to := to) (wr := wr) (tl := tlv bT hT) (gi := gi) (s := s) (sup := sup); rw [x2] at f9; exact ⟨fun q hq => (f9 q hq).trans (hFr.1 q hq), hFr.2⟩)
      obtain ⟨v1, v2, v3, v4, v5, v6, j1, j2, j3⟩ := x4 y
      refine ⟨v1, v2, v3, v4, v5, v6, j1, j2, fun y => ?_⟩
      obtain ⟨⟨b', m1, m2⟩, m3, m4, m5, m6⟩ := j3 y
      refine ⟨b', m1, m2, ⟨⟨hG.1, ?_, hG.2.2⟩, d1, ?_, d3, ?_, ?_, ?_, d7⟩, hc, by omega⟩
      · rw [m5, upd_n (by decide)]; exact hG.2.1
      · rw [m5, upd_n (by decide)]; exact d2
      · rw [m5, upd_n (by decide)]; exact d4
      · rw [m5, upd_e]
      · rw [m4, m3]
    rw [if_neg q5]
    by_cases q6 : fX9_isWord 384611 tk wo = true
    · rw [e6.mpr q6, if_neg (by decide), if_neg (by decide), if_neg (by decide), if_neg (by decide), if_neg (by decide), if_neg (by decide), if_pos (by decide), if_pos q6]
      obtain ⟨c1, sn1, nx1, pl1, kd1, vl1, lt1, fa1, ok1, p2, bg2, tk2, wo2, to2, wr2, sup2, sn2, ok2, x1, x2, x3, x4, x5⟩ := ln_snowF (fa := fa) (wr := wr) (sn := sn) (sn9 := sn9) hn hw hf h hK d1 d2
      rw [x1, x2, bn9_, bn9_]
      refine close ok1 ok2 lc nx1 pl1 kd1 vl1 lt1 fa1 p2 bg2 tk2 wo2 to2 wr2 code gi codes op cm g na ki ya pa sk c1 sn1 be ho bT hT ll sup2 gn k9 o9 p9 c9 sn2 lf lt9 tl x3 (fun y => ?_) (⟨fun q hq => (x5.1 q (by omega)).trans (hFr.1 q hq), hFr.2.1, fun q hq => (x5.2 q hq).trans (hFr.2.2 q hq)⟩)
      obtain ⟨v1, v2, v3, v4, v5, v6, j1, j2, j3⟩ := x4 y
      refine ⟨v1, v2, v3, v4, v5, v6, j1, j2, fun y => ?_⟩
      obtain ⟨⟨b', m1, m2⟩, m3, m4, m5, m6, m7⟩ := j3 y
      exact ⟨b', m1, m2, ⟨⟨hG.1, (m5 4 (by decide)).trans hG.2.1, hG.2.2⟩, m3, m4, m6, (m5 5 (by decide)).trans d4, (m5 6 (by decide)).trans d5, d6, d7⟩, hc, by omega⟩
    rw [if_neg q6]
    by_cases q7 : fX9_isWord 287898292 tk wo = true
    · rw [e7.mpr q7, if_neg (by decide), if_neg (by decide), if_neg (by decide), if_neg (by decide), if_neg (by decide), if_neg (by decide), if_neg (by decide), if_pos (by decide), if_pos q7]
      obtain ⟨p2, bg2, tk2, wo2, to2, wr2, code2, lf2, lt2, codes2, op2, cm2, ok2, x1, nx0, pl0, kd0, vl0, lt0, fa0, ok0, x2, x3, x4⟩ := ln_taste (fa := fa) (wr := wr) (lc := lc) (codes := codes) (op := op) (cm := cm) hn hw hf h hK d7 hc hc1
      rw [x1, x2, bn7_, bn13_]
      unfold fX7_read_J140a fX7_read_J141a
      cases ok0 with
      | false =>
        rw [if_neg (by decide)]
        exact close false ok2 lc nx0 pl0 kd0 vl0 lt0 fa0 p2 bg2 tk2 wo2 to2 wr2 code2 gi codes2 op2 cm2 g na ki ya pa sk sw sn be ho bT hT ll sup gn k9 o9 p9 c9 sn9 lf2 lt2 tl x3 (fun y => Bool.noConfusion y) hFr
      | true =>
        obtain ⟨ll1, lc1, nx1, pl1, kd1, vl1, lt1, fa1, ok1, x5, x6, x7⟩ := x4 rfl
        rw [if_pos rfl, x5, bn9_]
        have fin := close ok1 ok2 lc1 nx1 pl1 kd1 vl1 lt1 fa1 p2 bg2 tk2 wo2 to2 wr2 code2 gi codes2 op2 cm2 g na ki ya pa sk sw sn be ho bT hT ll1 sup gn k9 o9 p9 c9 sn9 lf2 lt2 tl x6 (fun y => by
          obtain ⟨v1, v2, v3, v4, v5, v6, j1, j2, j3⟩ := x7 y
          refine ⟨v1, v2, v3, v4, v5, v6, j1, j2, fun y => ?_⟩
          obtain ⟨⟨b', m1, m2, m3⟩, m4, m5⟩ := j3 y
          exact ⟨b', m1, m2, ⟨hG, d1, d2, d3, d4, d5, d6, m4⟩, m5, m3⟩) hFr
        cases ok1 with
        | true => rw [if_pos rfl]; exact fin
        | false => rw [if_neg (by decide)]; exact fin
    rw [if_neg q7]
    obtain ⟨w1, w2⟩ := t_wrong h 1
    rw [w1, w2]
    simp only [bn2_]
    rw [if_neg (show ¬ (false = true) by decide)]
    have fin := close false false lc nx pl kd vl lt (1 + nI (16 * b)) p bg tk wo to (1 + nI (16 * b)) code gi codes op cm g na ki ya pa sk sw sn be ho bT hT ll sup gn k9 o9 p9 c9 sn9 lf lt9 tl (fun _ => ⟨rfl, rfl⟩) (fun y => Bool.noConfusion y) hFr
    rw [if_neg (show ¬ (false = true) by decide)] at fin
    rw [if_neg (show ¬ (r8 = 0) from fun y => q0 (e0.mp y)), if_neg (show ¬ (r8 = 4) from fun y => q4 (e4.mp y)), if_neg (show ¬ (r8 = 5) from fun y => q5 (e5.mp y)), if_neg (show ¬ (r8 = 6) from fun y => q6 (e6.mp y)), if_neg (show ¬ (r8 = 7) from fun y => q7 (e7.mp y))]
    repeat' split
    all_goals exact fin
