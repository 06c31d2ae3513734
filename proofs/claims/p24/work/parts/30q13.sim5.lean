/-! a supper's lines, all of them, by both -/
def DR (g : Nat) (na : Nat → Int64) (ki ya pa sk : Nat → Int32) (sw : Nat) (sn : Nat → Int32) (be ho : Int32) (bT hT : Bool) (ll : Nat) (sup : Nat → Int32) (gn : Nat → Int64) (k9 o9 p9 c9 sn9 lf lt9 : Nat → Int32) (tl : Int32) : Prop := GR g na ki ya pa sk sup gn k9 o9 p9 c9 ∧ sw ≤ 12 ∧ sup 7 = nI sw ∧ (∀ q, q < sw → sn q = sn9 (12 + q)) ∧ sup 5 = be ∧ sup 6 = ho ∧ tl = tlv bT hT ∧ (ll = 0 ↔ lt9 1 ≤ lf 1)
def AL (n : Nat) (X : Nat × Nat × Int32 × Int32 × Bool × Bool × (Nat → Int64) × (Nat → Int32) × (Nat → Int32) × (Nat → Int32) × (Nat → Int32) × (Nat → Int32) × Nat × (Nat → Int32) × Nat × Int32 × Int32 × Int32 × Int64 × Int32 × Bool) (Y : Nat × Nat × Nat × Nat × Nat × Int64 × Int32 × Int32 × Nat × Int32 × Int32 × (Nat → Int32) × (Nat → Int64) × (Nat → Int32) × (Nat → Int32) × (Nat → Int32) × (Nat → Int32) × (Nat → Int32) × (Nat → Int32) × (Nat → Int32) × (Nat → Int32) × (Nat → Int32) × (Nat → Int32) × Bool) : Prop := ∃ g sw be ho bT hT na ki ya pa sk sn ll lc nx pl kd vl lt fa ok p bg tk wo to wr code tl gi sup gn k9 o9 p9 c9 sn9 lf lt9 codes op cm, X = (g, sw, be, ho, bT, hT, na, ki, ya, pa, sk, sn, ll, lc, nx, pl, kd, vl, lt, fa, ok) ∧ Y = (0, n, p, bg, tk, wo, to, wr, code, tl, gi, sup, gn, k9, o9, p9, c9, sn9, lf, lt9, codes, op, cm, ok) ∧ (ok = false → fa = wr) ∧ (ok = true → DR g na ki ya pa sk sw sn be ho bT hT ll sup gn k9 o9 p9 c9 sn9 lf lt9 tl)
/-- the tastes' line -/
theorem ln_taste {s : Nat → Int32} {n b nx p bg tk ll code : Nat} {pl kd vl to fa wr : Int32} {lt wo : Int64} {w : Nat → Int64} {f lc lf lt9 codes op cm : Nat → Int32} (hn : n ≤ 1000) (hw : WT w) (hf : SG f s) (h : TT s n b nx pl kd vl lt p bg tk wo to) (hK : ¬ tK s n b = 0) (hl : ll = 0 ↔ lt9 1 ≤ lf 1) (hc : 1000 ≤ code) (hc1 : code ≤ 1000 + b) :
    ∃ p2 bg2 tk2 wo2 to2 wr2 code2 lf2 lt2 codes2 op2 cm2 ok2, fX9_readsTastes n p bg tk wo to wr code s lf lt9 codes op cm = (p2, bg2, tk2, wo2, to2, wr2, code2, lf2, lt2, codes2, op2, cm2, ok2) ∧ ∃ nx0 pl0 kd0 vl0 lt0 fa0 ok0, fX0_takeTastes ll n nx pl kd vl lt fa s w f = (nx0, pl0, kd0, vl0, lt0, fa0, ok0) ∧ (ok0 = false → ok2 = false ∧ fa0 = wr2) ∧ (ok0 = true → ∃ ll1 lc1 nx1 pl1 kd1 vl1 lt1 fa1 ok1, fX0_readOver_1_0 ll lc n nx0 pl0 kd0 vl0 lt0 fa0 s w f = (ll1, lc1, nx1, pl1, kd1, vl1, lt1, fa1, ok1) ∧ (ok1 = false → ok2 = false ∧ fa1 = wr2) ∧ (ok1 = true → ∃ nx2 pl2 kd2 vl2 lt2' fa2, fX6_takeSign 59 n nx1 pl1 kd1 vl1 lt1 fa1 s w f = (nx2, pl2, kd2, vl2, lt2', fa2, ok2) ∧ (ok2 = false → fa2 = wr2) ∧ (ok2 = true → (∃ b', b < b' ∧ TT s n b' nx2 pl2 kd2 vl2 lt2' p2 bg2 tk2 wo2 to2 ∧ code2 ≤ 1000 + b') ∧ (ll1 = 0 ↔ lt2 1 ≤ lf2 1) ∧ 1000 ≤ code2))) := by
  have e1_ : Int32.toNatClampNeg 1 = 1 := by decide
  have hbn := h.1.1
  unfold fX9_readsTastes fX0_takeTastes
  rw [e1_]
  by_cases l0 : ll = 0
  · rw [if_pos (hl.mp l0), if_pos (show ll ≤ 0 by omega)]
    obtain ⟨a1, a2, a3, a4, a5, c1, c2, c3, c4, c5, x1, x2, x3, x4⟩ := t_advG hn hw hf h hK
    rw [x1, x2, bn5_, bn5_]
    obtain ⟨y1, y2, y3, y4, y5, y6, y7, y8, y9, y10, ok, k, b', q1, q2, q3, q4, q5⟩ := rd_lp (wr := wr) hn (n + 1 - c2 + 1) (fun _ _ _ _ _ _ _ _ _ _ _ => (0, 0, 0, (0 : Int64), (0 : Int32), (0 : Int32), 0, (fun _ => 0), (fun _ => 0), (fun _ => 0), false)) 0 true (nt s n b) c1 c2 c3 c4 c5 code codes op (upd cm 0 0) (by rw [x3.2.2.2.1]; omega) (by decide) x3.2
    have e0_ : Int32.toNatClampNeg 0 = 0 := by decide
    have n0 : vp_nar .boolean 0 = 0 := by decide
    have er : fX9_reads n c1 c2 c3 c4 c5 wr code s codes op cm = (y1, y2, y3, y4, y5, y6, y7, y8, y9, y10, ok) := by
      unfold fX9_reads
      rw [e0_, n0]; exact q1
    rw [er, bn11_]
    have q2 : Rch (kt s n) (nt s n) (.inr (true, nt s n b, [], [false])) (.inl (k, b')) := by
      have : qL (upd cm 0 0) 0 = [false] := by rw [qL_m]; rfl
      rw [this] at q2; exact q2
    obtain ⟨z1, z2, z3, z4, z5, z6, z7, z8, okc, kc, bc, p1, p2, p3, p4, p5, p6⟩ := ro_1_0 (len := ll) (code := lc) (fa := fa) hn hw hf x3.1
    have hk2 : ok = true ↔ k = 0 := ⟨fun z => (q5 z).1, fun z => by cases ok with | true => rfl | false => exact absurd z (q4 rfl).2⟩
    cases okc with
    | false =>
      have d := Rch.det q2 (top_f p2)
      have dk : k = kc := congrArg Prod.fst d
      have db : b' = bc := congrArg Prod.snd d
      have hok : ok = false := by
        cases ok with
        | false => rfl
        | true => exact absurd (dk.symm.trans (q5 rfl).1) (p5 rfl).2
      subst hok
      rw [if_neg (by decide)]
      exact ⟨_, _, _, _, _, _, _, _, _, _, _, _, false, rfl, a1, a2, a3, a4, a5, fa, true, rfl, fun z => Bool.noConfusion z, fun _ => ⟨z1, z2, z3, z4, z5, z6, z7, z8, false, p1, fun _ => ⟨rfl, by rw [(p5 rfl).1, (q4 rfl).1, dk, db]⟩, fun z => Bool.noConfusion z⟩⟩
    | true =>
      obtain ⟨g1, g2, g3, g4⟩ := p6 rfl
      subst g1
      have tk_ : ∃ nx2 pl2 kd2 vl2 lt2' fa2, fX6_takeSign 59 n z3 z4 z5 z6 z7 z8 s w f = (nx2, pl2, kd2, vl2, lt2', fa2, ok) ∧ (ok = false → fa2 = y6) ∧ (ok = true → b' = nt s n bc ∧ CT s n b' nx2 pl2 kd2 vl2 lt2') := by
        unfold fX6_takeSign
        rw [bn1_]
        by_cases y : fX6_isSign 59 z5 z6 = true
        · have k5 := k_5.mpr ((c_sign p4).mp y)
          have d := Rch.det q2 (top_t p2 k5)
          have dk : k = 0 := congrArg Prod.fst d
          have db : b' = nt s n bc := congrArg Prod.snd d
          obtain ⟨v1, v2, v3, v4, v5, u1, u2⟩ := c_adv hn hw hf p4
          rw [if_pos y, u1, bn5_, hk2.mpr dk]
          exact ⟨_, _, _, _, _, _, rfl, fun z => Bool.noConfusion z, fun _ => ⟨db, by rw [db]; exact u2⟩⟩
        · have d := Rch.det q2 (top_n p2 (fun z => y ((c_sign p4).mpr (k_5.mp z))))
          have dk : k = 1 := congrArg Prod.fst d
          have db : b' = bc := congrArg Prod.snd d
          have hok : ok = false := by
            cases ok with
            | false => rfl
            | true => exact absurd (dk.symm.trans (q5 rfl).1) (by decide)
          rw [if_neg y, c_wrong p4 1, bn2_, hok]
          refine ⟨_, _, _, _, _, _, rfl, fun _ => ?_, fun z => Bool.noConfusion z⟩
          rw [(q4 hok).1, dk, db]; rfl
      obtain ⟨v1, v2, v3, v4, v5, v6, u1, u2, u3⟩ := tk_
      cases ok with
      | false =>
        rw [if_neg (by decide)]
        exact ⟨_, _, _, _, _, _, _, _, _, _, _, _, false, rfl, a1, a2, a3, a4, a5, fa, true, rfl, fun z => Bool.noConfusion z, fun _ => ⟨z1, z2, z3, z4, z5, z6, z7, z8, true, p1, fun z => Bool.noConfusion z, fun _ => ⟨v1, v2, v3, v4, v5, v6, u1, u2, fun z => Bool.noConfusion z⟩⟩⟩
      | true =>
        rw [if_pos rfl]
        obtain ⟨r1, r2, r3, r4, r5⟩ := q5 rfl
        have r4 : code + 1 ≤ y7 := r4
        obtain ⟨m1, m2⟩ := u3 rfl
        have hb' := q3.1
        refine ⟨_, _, _, _, _, _, _, _, _, _, _, _, true, rfl, a1, a2, a3, a4, a5, fa, true, rfl, fun z => Bool.noConfusion z, fun _ => ⟨z1, z2, z3, z4, z5, z6, z7, z8, true, p1, fun z => Bool.noConfusion z, fun _ => ⟨v1, v2, v3, v4, v5, v6, u1, u2, fun _ => ⟨⟨b', by omega, ⟨m2, q3⟩, by omega⟩, ⟨fun z => absurd z (by omega), fun z => ?_⟩, by omega⟩⟩⟩⟩
        rw [upd_e, upd_e] at z
        exact absurd ((nI_leI (by omega) (by omega)).mp z) (by omega)
  · rw [if_neg (fun z => l0 (hl.mpr z)), if_neg (show ¬ ll ≤ 0 by omega)]
    obtain ⟨w1, w2⟩ := t_wrong h 3
    rw [w1, w2, bn2_, bn2_]
    exact ⟨_, _, _, _, _, _, _, _, _, _, _, _, false, rfl, _, _, _, _, _, _, false, rfl, fun _ => ⟨rfl, rfl⟩, fun z => Bool.noConfusion z⟩
theorem ln_snow {s : Nat → Int32} {n b nx p bg tk sw : Nat} {pl kd vl to fa wr : Int32} {lt wo : Int64} {w : Nat → Int64} {f sup sn sn9 : Nat → Int32} (hn : n ≤ 1000) (hw : WT w) (hf : SG f s) (h : TT s n b nx pl kd vl lt p bg tk wo to) (hK : ¬ tK s n b = 0) (h12 : sw ≤ 12) (hs : sup 7 = nI sw) :
    ∃ c1 sn1 nx1 pl1 kd1 vl1 lt1 fa1 ok1 p2 bg2 tk2 wo2 to2 wr2 sup2 sn2 ok2, fX7_readSnow sw sn n nx pl kd vl lt fa s w f = (c1, sn1, nx1, pl1, kd1, vl1, lt1, fa1, ok1) ∧ fX9_readsSnow n p bg tk wo to wr s sup sn9 = (p2, bg2, tk2, wo2, to2, wr2, sup2, sn2, ok2) ∧ (ok1 = false → ok2 = false ∧ fa1 = wr2) ∧ (ok1 = true → ∃ nx2 pl2 kd2 vl2 lt2 fa2, fX6_takeSign 59 n nx1 pl1 kd1 vl1 lt1 fa1 s w f = (nx2, pl2, kd2, vl2, lt2, fa2, ok2) ∧ (ok2 = false → fa2 = wr2) ∧ (ok2 = true → TG s n b nx2 pl2 kd2 vl2 lt2 p2 bg2 tk2 wo2 to2 ∧ c1 ≤ 12 ∧ sup2 7 = nI c1 ∧ (∀ q, ¬ q = 7 → sup2 q = sup q) ∧ (∀ q, q < c1 → sn1 q = sn2 (12 + q)) ∧ fa2 = fa)) := by
  have e7 : Int32.toNatClampNeg 7 = 7 := by decide
  have e0 : (nI sw ≤ 0) ↔ sw ≤ 0 := by rw [Int32.le_iff_toInt_le, nI_toInt (by omega), show Int32.toInt 0 = 0 by decide]; omega
  unfold fX7_readSnow fX9_readsSnow
  rw [e7, hs]
  by_cases q : sw ≤ 0
  · rw [if_pos q, if_pos (e0.mpr q)]
    obtain ⟨a1, a2, a3, a4, a5, c1, c2, c3, c4, c5, x1, x2, x3, x4⟩ := t_advG hn hw hf h hK
    rw [x1, x2, bn5_, bn5_]
    have e : sw = 0 := by omega
    subst e
    obtain ⟨y1, y2, y3, y4, y5, y6, y7, y8, y9, z1, z2, z3, z4, z5, z6, z7, z8, z9, p1, p2, p3, p4⟩ := snow_lp (wr := wr) hn hw hf (13 + 1 - 0 + 1) (n + 1 - c2 + 1) 0 (nt s n b) a1 c1 c2 c3 a2 a3 a4 c5 fa a5 c4 sn sup sn9 (fun _ _ _ _ _ _ _ _ _ => (0, (fun _ => 0), 0, (0 : Int32), (0 : Int32), (0 : Int32), (0 : Int64), (0 : Int32), false)) (fun _ _ _ _ _ _ _ => (0, 0, 0, (0 : Int64), (0 : Int32), (0 : Int32), (fun _ => 0), (fun _ => 0), false)) (by omega) (by rw [x3.2.2.2.1]; omega) (by omega) hs (fun q hq => absurd hq (by omega)) x3
    refine ⟨y1, y2, y3, y4, y5, y6, y7, y8, y9, z1, z2, z3, z4, z5, z6, z7, z8, z9, p1, p2, p3, fun y => ?_⟩
    obtain ⟨v1, v2, v3, v4, v5, v6, j1, j2, j3⟩ := p4 y
    refine ⟨v1, v2, v3, v4, v5, v6, j1, j2, fun y => ?_⟩
    obtain ⟨m1, m2⟩ := j3 y
    exact ⟨m1.tr x4, m2⟩
  · rw [if_neg q, if_neg (fun y => q (e0.mp y))]
    obtain ⟨w1, w2⟩ := t_wrong h 3
    rw [w1, w2, bn2_, bn2_]
    exact ⟨_, _, _, _, _, _, _, _, false, _, _, _, _, _, _, _, _, false, rfl, rfl, fun _ => ⟨rfl, rfl⟩, fun y => Bool.noConfusion y⟩
set_option maxHeartbeats 8000000 in
theorem rd_all {s : Nat → Int32} {n : Nat} {w : Nat → Int64} {f : Nat → Int32} (hn : n ≤ 1000) (hw : WT w) (hf : SG f s) : ∀ k k' z z' i b lc nx pl kd vl lt fa p bg tk wo to wr code gi codes op cm g na ki ya pa sk sw sn be ho bT hT ll sup gn k9 o9 p9 c9 sn9 lf lt9 tl, 1000 + 1 - i < k → n + 1 - b < k' → i ≤ b → TT s n b nx pl kd vl lt p bg tk wo to → DR g na ki ya pa sk sw sn be ho bT hT ll sup gn k9 o9 p9 c9 sn9 lf lt9 tl → 1000 ≤ code → code ≤ 1000 + b → AL n (lp z (fX7_read_B8a n s w f) k true i na ki ya pa sk sn lc nx pl kd vl lt fa g sw be ho bT hT ll) (lp z' (fX9_readsAll_B39a s 0 n) k' gn k9 o9 p9 c9 sn9 lf lt9 codes op cm sup p bg tk wo to wr code tl gi) := by
  intro k
  induction k with
  | zero => intro k' z z' i b lc nx pl kd vl lt fa p bg tk wo to wr code gi codes op cm g na ki ya pa sk sw sn be ho bT hT ll sup gn k9 o9 p9 c9 sn9 lf lt9 tl q; exact absurd q (Nat.not_lt_zero _)
  | succ k ih =>
    intro k' z z' i b lc nx pl kd vl lt fa p bg tk wo to wr code gi codes op cm g na ki ya pa sk sw sn be ho bT hT ll sup gn k9 o9 p9 c9 sn9 lf lt9 tl hk hk' hi h hD hc hc1
    have hbn := h.1.1
    obtain ⟨k', rfl⟩ : ∃ q, k' = q + 1 := ⟨k' - 1, by omega⟩
    have hF : ∀ i na ki ya pa sk sn lc nx pl kd vl lt fa g sw be ho bT hT ll, lp z (fX7_read_B8a n s w f) k false i na ki ya pa sk sn lc nx pl kd vl lt fa g sw be ho bT hT ll = (g, sw, be, ho, bT, hT, na, ki, ya, pa, sk, sn, ll, lc, nx, pl, kd, vl, lt, fa, false) := by
      intro i na ki ya pa sk sn lc nx pl kd vl lt fa g sw be ho bT hT ll
      obtain ⟨k, rfl⟩ : ∃ q, k = q + 1 := ⟨k - 1, by omega⟩
      show fX7_read_B8a n s w f (lp z (fX7_read_B8a n s w f) k) false i na ki ya pa sk sn lc nx pl kd vl lt fa g sw be ho bT hT ll = _
      generalize lp z (fX7_read_B8a n s w f) k = rc
      unfold fX7_read_B8a fX7_read_J176a
      by_cases q : 1000 ≤ i
      · rw [if_pos q]
      · rw [if_neg q, if_neg (by decide)]
    show AL n (fX7_read_B8a n s w f (lp z (fX7_read_B8a n s w f) k) true i na ki ya pa sk sn lc nx pl kd vl lt fa g sw be ho bT hT ll) (fX9_readsAll_B39a s 0 n (lp z' (fX9_readsAll_B39a s 0 n) k') gn k9 o9 p9 c9 sn9 lf lt9 codes op cm sup p bg tk wo to wr code tl gi)
    have ih := fun i b lc nx pl kd vl lt fa p bg tk wo to wr code gi codes op cm g na ki ya pa sk sw sn be ho bT hT ll sup gn k9 o9 p9 c9 sn9 lf lt9 tl => ih k' z z' i b lc nx pl kd vl lt fa p bg tk wo to wr code gi codes op cm g na ki ya pa sk sw sn be ho bT hT ll sup gn k9 o9 p9 c9 sn9 lf lt9 tl
    generalize lp z (fX7_read_B8a n s w f) k = rc at ih hF ⊢
    generalize lp z' (fX9_readsAll_B39a s 0 n) k' = rd at ih ⊢
    have close : ∀ (ok1 ok2 : Bool) lc nx pl kd vl lt fa p bg tk wo to wr code gi codes op cm g na ki ya pa sk sw sn be ho bT hT ll sup gn k9 o9 p9 c9 sn9 lf lt9 tl, (ok1 = false → ok2 = false ∧ fa = wr) → (ok1 = true → ∃ nx2 pl2 kd2 vl2 lt2 fa2, fX6_takeSign 59 n nx pl kd vl lt fa s w f = (nx2, pl2, kd2, vl2, lt2, fa2, ok2) ∧ (ok2 = false → fa2 = wr) ∧ (ok2 = true → ∃ b', b < b' ∧ TT s n b' nx2 pl2 kd2 vl2 lt2 p bg tk wo to ∧ DR g na ki ya pa sk sw sn be ho bT hT ll sup gn k9 o9 p9 c9 sn9 lf lt9 tl ∧ 1000 ≤ code ∧ code ≤ 1000 + b')) → AL n (fX7_read_J151a n s w f i rc ok1 na ki ya pa sk sn lc g sw be ho bT hT ll nx pl kd vl lt fa) (if ok2 = true then rd gn k9 o9 p9 c9 sn9 lf lt9 codes op cm sup p bg tk wo to wr code tl gi else (0, n, p, bg, tk, wo, to, wr, code, tl, gi, sup, gn, k9, o9, p9, c9, sn9, lf, lt9, codes, op, cm, false)) := by
      intro ok1 ok2 lc nx pl kd vl lt fa p bg tk wo to wr code gi codes op cm g na ki ya pa sk sw sn be ho bT hT ll sup gn k9 o9 p9 c9 sn9 lf lt9 tl c1 c2
      unfold fX7_read_J151a fX7_read_J168a fX7_read_J169a
      cases ok1 with
      | false =>
        obtain ⟨e1, e2⟩ := c1 rfl
        rw [if_neg (by decide), e1, if_neg (by decide), hF]
        exact ⟨_, _, _, _, _, _, _, _, _, _, _, _, _, _, _, _, _, _, _, _, _, _, _, _, _, _, _, _, _, _, _, _, _, _, _, _, _, _, _, _, _, _, rfl, rfl, fun _ => e2, fun y => Bool.noConfusion y⟩
      | true =>
        obtain ⟨v1, v2, v3, v4, v5, v6, j1, j2, j3⟩ := c2 rfl
        rw [if_pos rfl, j1, bn7_]
        cases ok2 with
        | true =>
          obtain ⟨b', q1, q2, q3, q4, q5⟩ := j3 rfl
          rw [if_pos rfl, if_pos rfl]
          exact ih _ b' _ _ _ _ _ _ _ _ _ _ _ _ _ _ _ _ _ _ _ _ _ _ _ _ _ _ _ _ _ _ _ _ _ _ _ _ _ _ _ _ _ (by omega) (by have := q2.1.1; omega) (by omega) q2 q3 q4 q5
        | false =>
          rw [if_neg (by decide), if_neg (by decide), hF]
          exact ⟨_, _, _, _, _, _, _, _, _, _, _, _, _, _, _, _, _, _, _, _, _, _, _, _, _, _, _, _, _, _, _, _, _, _, _, _, _, _, _, _, _, _, rfl, rfl, fun _ => j2 rfl, fun y => Bool.noConfusion y⟩
    obtain ⟨hG, d1, d2, d3, d4, d5, d6, d7⟩ := hD
    unfold fX7_read_B8a fX7_read_J176a fX9_readsAll_B39a
    have hend : tk = 0 → AL n (g, sw, be, ho, bT, hT, na, ki, ya, pa, sk, sn, ll, lc, nx, pl, kd, vl, lt, fa, true) (0, n, p, bg, tk, wo, to, wr, code, tl, gi, sup, gn, k9, o9, p9, c9, sn9, lf, lt9, codes, op, cm, true) := fun _ => ⟨_, _, _, _, _, _, _, _, _, _, _, _, _, _, _, _, _, _, _, _, _, _, _, _, _, _, _, _, _, _, _, _, _, _, _, _, _, _, _, _, _, _, rfl, rfl, fun y => Bool.noConfusion y, fun _ => ⟨hG, d1, d2, d3, d4, d5, d6, d7⟩⟩
    by_cases h1 : 1000 ≤ i
    · have e : b = n := by omega
      have t0 : tk = 0 := by rw [h.2.2.2.2.1]; unfold tK; rw [if_pos e]
      rw [if_pos h1, if_pos t0]
      exact hend t0
    rw [if_neg h1, if_pos rfl, bn1_]
    by_cases t0 : tk = 0
    · have ea : fX6_isAtEnd kd = true := by unfold fX6_isAtEnd fX6_isAtEnd_J12a; rw [if_pos ((t_end h).mpr t0)]
      rw [ea, if_pos rfl, if_pos t0]
      exact hend t0
    have ea : fX6_isAtEnd kd = false := by unfold fX6_isAtEnd fX6_isAtEnd_J12a; rw [if_neg (fun y => t0 ((t_end h).mp y))]
    rw [ea, if_neg (by decide), if_neg t0, bn1_]
    have hK : ¬ tK s n b = 0 := fun y => t0 (h.2.2.2.2.1.trans y)
    obtain ⟨wh1, wh2⟩ := wh_ h
    have eW : ∀ j W, j < 23 → Int64.toInt W = Er 27 (wd j) → (fX6_wordHere kd vl = nI j ↔ fX9_isWord W tk wo = true) := fun j W hj hW => by rw [wh1 j hj, t_word h hj rfl hW]
    have e0 := eW 0 4137608 (by decide) ((by decide : Int64.toInt 4137608 = 4137608).trans w27_0.symm)
    have e4 := eW 4 43393 (by decide) ((by decide : Int64.toInt 43393 = 43393).trans w27_4.symm)
    have e5 := eW 5 168984 (by decide) ((by decide : Int64.toInt 168984 = 168984).trans w27_5.symm)
    have e6 := eW 6 384611 (by decide) ((by decide : Int64.toInt 384611 = 384611).trans w27_6.symm)
    have e7 := eW 7 287898292 (by decide) ((by decide : Int64.toInt 287898292 = 287898292).trans w27_7.symm)
    generalize fX6_wordHere kd vl = r8 at e0 e4 e5 e6 e7 wh1 wh2 ⊢
    simp only [bn1_]
    by_cases q0 : fX9_isWord 4137608 tk wo = true
    · rw [e0.mpr q0, if_pos (by decide), if_pos q0]
      obtain ⟨g1, na1, ki1, ya1, pa1, sk1, nx1, pl1, kd1, vl1, lt1, fa1, ok1, p2, bg2, tk2, wo2, to2, wr2, gi2, sup2, gn2, k2, o2, r2, c2, ok2, x1, x2, x3, x4⟩ := ln_guest (fa := fa) (wr := wr) (gi := gi) hn hw hf h hK hG
      rw [x1, x2, bn13_, bn14_]
      refine close ok1 ok2 lc nx1 pl1 kd1 vl1 lt1 fa1 p2 bg2 tk2 wo2 to2 wr2 code gi2 codes op cm g1 na1 ki1 ya1 pa1 sk1 sw sn be ho bT hT ll sup2 gn2 k2 o2 r2 c2 sn9 lf lt9 tl x3 (fun y => ?_)
      obtain ⟨v1, v2, v3, v4, v5, v6, j1, j2, j3⟩ := x4 y
      refine ⟨v1, v2, v3, v4, v5, v6, j1, j2, fun y => ?_⟩
      obtain ⟨⟨b', m1, m2⟩, m3, m4, m5⟩ := j3 y
      exact ⟨b', m1, m2, ⟨m3, d1, (m4 7 (by decide)).trans d2, d3, (m4 5 (by decide)).trans d4, (m4 6 (by decide)).trans d5, d6, d7⟩, hc, by omega⟩
    rw [if_neg q0]
    by_cases q4 : fX9_isWord 43393 tk wo = true
    · rw [e4.mpr q4, if_neg (by decide), if_neg (by decide), if_neg (by decide), if_neg (by decide), if_pos (by decide), if_pos q4, d6]
      obtain ⟨be1, bT1, nx1, pl1, kd1, vl1, lt1, fa1, ok1, p2, bg2, tk2, wo2, to2, wr2, tl2, gi2, sup2, ok2, x1, x2, x3, x4⟩ := ln_bend (fa := fa) (wr := wr) (gi := gi) (be := be) (bT := bT) (hT := hT) (sup := sup) hn hw hf h q4
      rw [x1, x2, bn9_, bn10_]
      refine close ok1 ok2 lc nx1 pl1 kd1 vl1 lt1 fa1 p2 bg2 tk2 wo2 to2 wr2 code gi2 codes op cm g na ki ya pa sk sw sn be1 ho bT1 hT ll sup2 gn k9 o9 p9 c9 sn9 lf lt9 tl2 x3 (fun y => ?_)
      obtain ⟨v1, v2, v3, v4, v5, v6, j1, j2, j3⟩ := x4 y
      refine ⟨v1, v2, v3, v4, v5, v6, j1, j2, fun y => ?_⟩
      obtain ⟨⟨b', m1, m2⟩, m3, m4, m5, m6⟩ := j3 y
      refine ⟨b', m1, m2, ⟨⟨hG.1, ?_, hG.2.2⟩, d1, ?_, d3, ?_, ?_, ?_, d7⟩, hc, by omega⟩
      · rw [m5, upd_n (by decide)]; exact hG.2.1
      · rw [m5, upd_n (by decide)]; exact d2
      · rw [m5, upd_e]
      · rw [m5, upd_n (by decide)]; exact d5
      · rw [m4, m3]
    rw [if_neg q4]
    by_cases q5 : fX9_isWord 168984 tk wo = true
    · rw [e5.mpr q5, if_neg (by decide), if_neg (by decide), if_neg (by decide), if_neg (by decide), if_neg (by decide), if_pos (by decide), if_pos q5, d6]
      obtain ⟨be1, bT1, nx1, pl1, kd1, vl1, lt1, fa1, ok1, p2, bg2, tk2, wo2, to2, wr2, tl2, gi2, sup2, ok2, x1, x2, x3, x4⟩ := ln_hour (fa := fa) (wr := wr) (gi := gi) (be := ho) (bT := bT) (hT := hT) (sup := sup) hn hw hf h q5
      rw [x1, x2, bn9_, bn10_]
      refine close ok1 ok2 lc nx1 pl1 kd1 vl1 lt1 fa1 p2 bg2 tk2 wo2 to2 wr2 code gi2 codes op cm g na ki ya pa sk sw sn be be1 bT bT1 ll sup2 gn k9 o9 p9 c9 sn9 lf lt9 tl2 x3 (fun y => ?_)
      obtain ⟨v1, v2, v3, v4, v5, v6, j1, j2, j3⟩ := x4 y
      refine ⟨v1, v2, v3, v4, v5, v6, j1, j2, fun y => ?_⟩
      obtain ⟨⟨b', m1, m2⟩, m3, m4, m5, m6⟩ := j3 y
      refine ⟨b', m1, m2, ⟨⟨hG.1, ?_, hG.2.2⟩, d1, ?_, d3, ?_, ?_, ?_, d7⟩, hc, by omega⟩
      · rw [m5, upd_n (by decide)]; exact hG.2.1
      · rw [m5, upd_n (by decide)]; exact d2
      · rw [m5, upd_n (by decide)]; exact d4
      · rw [m5, upd_e]
      · rw [m4, m3]
    rw [if_neg q5]
    by_cases q6 : fX9_isWord 384611 tk wo = true
    · rw [e6.mpr q6, if_neg (by decide), if_neg (by decide), if_neg (by decide), if_neg (by decide), if_neg (by decide), if_neg (by decide), if_pos (by decide), if_pos q6]
      obtain ⟨c1, sn1, nx1, pl1, kd1, vl1, lt1, fa1, ok1, p2, bg2, tk2, wo2, to2, wr2, sup2, sn2, ok2, x1, x2, x3, x4⟩ := ln_snow (fa := fa) (wr := wr) (sn := sn) (sn9 := sn9) hn hw hf h hK d1 d2
      rw [x1, x2, bn9_, bn9_]
      refine close ok1 ok2 lc nx1 pl1 kd1 vl1 lt1 fa1 p2 bg2 tk2 wo2 to2 wr2 code gi codes op cm g na ki ya pa sk c1 sn1 be ho bT hT ll sup2 gn k9 o9 p9 c9 sn2 lf lt9 tl x3 (fun y => ?_)
      obtain ⟨v1, v2, v3, v4, v5, v6, j1, j2, j3⟩ := x4 y
      refine ⟨v1, v2, v3, v4, v5, v6, j1, j2, fun y => ?_⟩
      obtain ⟨⟨b', m1, m2⟩, m3, m4, m5, m6, m7⟩ := j3 y
      exact ⟨b', m1, m2, ⟨⟨hG.1, (m5 4 (by decide)).trans hG.2.1, hG.2.2⟩, m3, m4, m6, (m5 5 (by decide)).trans d4, (m5 6 (by decide)).trans d5, d6, d7⟩, hc, by omega⟩
    rw [if_neg q6]
    by_cases q7 : fX9_isWord 287898292 tk wo = true
    · rw [e7.mpr q7, if_neg (by decide), if_neg (by decide), if_neg (by decide), if_neg (by decide), if_neg (by decide), if_neg (by decide), if_neg (by decide), if_pos (by decide), if_pos q7]
      obtain ⟨p2, bg2, tk2, wo2, to2, wr2, code2, lf2, lt2, codes2, op2, cm2, ok2, x1, nx0, pl0, kd0, vl0, lt0, fa0, ok0, x2, x3, x4⟩ := ln_taste (fa := fa) (wr := wr) (lc := lc) (codes := codes) (op := op) (cm := cm) hn hw hf h hK d7 hc hc1
      rw [x1, x2, bn7_, bn13_]
      unfold fX7_read_J140a fX7_read_J141a
      cases ok0 with
      | false =>
        rw [if_neg (by decide)]
        exact close false ok2 lc nx0 pl0 kd0 vl0 lt0 fa0 p2 bg2 tk2 wo2 to2 wr2 code2 gi codes2 op2 cm2 g na ki ya pa sk sw sn be ho bT hT ll sup gn k9 o9 p9 c9 sn9 lf2 lt2 tl x3 (fun y => Bool.noConfusion y)
      | true =>
        obtain ⟨ll1, lc1, nx1, pl1, kd1, vl1, lt1, fa1, ok1, x5, x6, x7⟩ := x4 rfl
        rw [if_pos rfl, x5, bn9_]
        have fin := close ok1 ok2 lc1 nx1 pl1 kd1 vl1 lt1 fa1 p2 bg2 tk2 wo2 to2 wr2 code2 gi codes2 op2 cm2 g na ki ya pa sk sw sn be ho bT hT ll1 sup gn k9 o9 p9 c9 sn9 lf2 lt2 tl x6 (fun y => by
          obtain ⟨v1, v2, v3, v4, v5, v6, j1, j2, j3⟩ := x7 y
          refine ⟨v1, v2, v3, v4, v5, v6, j1, j2, fun y => ?_⟩
          obtain ⟨⟨b', m1, m2, m3⟩, m4, m5⟩ := j3 y
          exact ⟨b', m1, m2, ⟨hG, d1, d2, d3, d4, d5, d6, m4⟩, m5, m3⟩)
        cases ok1 with
        | true => rw [if_pos rfl]; exact fin
        | false => rw [if_neg (by decide)]; exact fin
    rw [if_neg q7]
    obtain ⟨w1, w2⟩ := t_wrong h 1
    rw [w1, w2]
    simp only [bn2_]
    rw [if_neg (show ¬ (false = true) by decide)]
    have fin := close false false lc nx pl kd vl lt (1 + nI (16 * b)) p bg tk wo to (1 + nI (16 * b)) code gi codes op cm g na ki ya pa sk sw sn be ho bT hT ll sup gn k9 o9 p9 c9 sn9 lf lt9 tl (fun _ => ⟨rfl, rfl⟩) (fun y => Bool.noConfusion y)
    rw [if_neg (show ¬ (false = true) by decide)] at fin
    rw [if_neg (show ¬ (r8 = 0) from fun y => q0 (e0.mp y)), if_neg (show ¬ (r8 = 4) from fun y => q4 (e4.mp y)), if_neg (show ¬ (r8 = 5) from fun y => q5 (e5.mp y)), if_neg (show ¬ (r8 = 6) from fun y => q6 (e6.mp y)), if_neg (show ¬ (r8 = 7) from fun y => q7 (e7.mp y))]
    repeat' split
    all_goals exact fin
