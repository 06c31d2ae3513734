/-! feed, pure: both lay the same signs -/
def bt (w : Int64) (sh : Int32) : Int32 := ((w.toUInt64 >>> (sh.toInt64.toUInt64 &&& Int64.toUInt64 63)).toInt64 &&& 255).toInt32
noncomputable def one (w : Int64) (sh : Int32) (p : Nat × (Nat → Int32)) : Nat × (Nat → Int32) := if 1000 ≤ p.1 then p else if bt w sh = 10 then (p.1 + 1, upd p.2 p.1 (bt w sh)) else if bt w sh < 32 then p else if (126 : Int32) < bt w sh then p else (p.1 + 1, upd p.2 p.1 (bt w sh))
theorem one_le {w : Int64} {sh : Int32} {p : Nat × (Nat → Int32)} (h : p.1 ≤ 1000) : (one w sh p).1 ≤ 1000 := by
  unfold one
  repeat' split
  all_goals first | exact h | (show p.1 + 1 ≤ 1000; omega)
theorem nar_b : ∀ v : Int32, 0 ≤ Int32.toInt v → Int32.toInt v ≤ 126 → vp_nar .byte v.toInt8.toInt32 = v := by
  intro v h1 h2
  obtain ⟨k, hk, rfl⟩ : ∃ k : Nat, k ≤ 126 ∧ v = nI k := ⟨(Int32.toInt v).toNat, by omega, Int32.toInt_inj.mp (by rw [nI_toInt (by omega)]; omega)⟩
  have : ∀ k, k ≤ 126 → vp_nar .byte (nI k).toInt8.toInt32 = nI k := by decide +kernel
  exact this k hk
theorem put_st {w : Int64} {z : Int32 → Nat → (Nat → Int32) → Nat × (Nat → Int32)} {k : Nat} {l : Int32} {p : Nat × (Nat → Int32)} (hp : p.1 ≤ 1000) : lp z (fX6_put_B3a w) (k + 1) l p.1 p.2 = if l < 0 then p else lp z (fX6_put_B3a w) k (l + (-8)) (one w l p).1 (one w l p).2 := by
  show fX6_put_B3a w (lp z (fX6_put_B3a w) k) l p.1 p.2 = _
  generalize lp z (fX6_put_B3a w) k = rc
  have e10 : Int32.toInt 10 = 10 := by decide
  have e32 : Int32.toInt 32 = 32 := by decide
  have e126 : Int32.toInt 126 = 126 := by decide
  unfold fX6_put_B3a fX6_put_J42a fX6_put_J38a fX6_put_J43a fX6_put_J84a
  by_cases h0 : l < 0
  · rw [if_pos h0, if_pos h0]
  rw [if_neg h0, if_neg h0, nI_clamp (by omega)]
  show (if bt w l = 10 then (if true = true then (if 1000 ≤ p.1 then rc (l + (-8)) p.1 p.2 else rc (l + (-8)) (p.1 + 1) (upd p.2 p.1 (vp_nar .byte (bt w l).toInt8.toInt32))) else rc (l + (-8)) p.1 p.2) else (if bt w l < 32 then (if false = true then (if 1000 ≤ p.1 then rc (l + (-8)) p.1 p.2 else rc (l + (-8)) (p.1 + 1) (upd p.2 p.1 (vp_nar .byte (bt w l).toInt8.toInt32))) else rc (l + (-8)) p.1 p.2) else (if (126 : Int32) < bt w l then (if false = true then (if 1000 ≤ p.1 then rc (l + (-8)) p.1 p.2 else rc (l + (-8)) (p.1 + 1) (upd p.2 p.1 (vp_nar .byte (bt w l).toInt8.toInt32))) else rc (l + (-8)) p.1 p.2) else (if true = true then (if 1000 ≤ p.1 then rc (l + (-8)) p.1 p.2 else rc (l + (-8)) (p.1 + 1) (upd p.2 p.1 (vp_nar .byte (bt w l).toInt8.toInt32))) else rc (l + (-8)) p.1 p.2)))) = _
  unfold one
  rw [if_pos (rfl : true = true), if_neg (by decide : ¬ false = true)]
  by_cases h1 : 1000 ≤ p.1
  · rw [if_pos h1, if_pos h1]
    repeat' split
    all_goals rfl
  rw [if_neg h1, if_neg h1]
  by_cases h2 : bt w l = 10
  · rw [if_pos h2, if_pos h2, nar_b _ (by rw [h2, e10]; decide) (by rw [h2, e10]; decide)]
  rw [if_neg h2, if_neg h2]
  by_cases h3 : bt w l < 32
  · rw [if_pos h3, if_pos h3]
  rw [if_neg h3, if_neg h3]
  by_cases h4 : (126 : Int32) < bt w l
  · rw [if_pos h4, if_pos h4]
  rw [if_neg h4, if_neg h4]
  rw [Int32.lt_iff_toInt_lt] at h3 h4
  rw [nar_b _ (by omega) (by omega)]
noncomputable def put8 (w : Int64) (p : Nat × (Nat → Int32)) : Nat × (Nat → Int32) := one w 0 (one w 8 (one w 16 (one w 24 (one w 32 (one w 40 (one w 48 (one w 56 p)))))))
theorem put_8 {w : Int64} {p : Nat × (Nat → Int32)} (hp : p.1 ≤ 1000) : fX6_put w p.1 p.2 = put8 w p ∧ (put8 w p).1 ≤ 1000 := by
  have h1 := one_le (w := w) (sh := 56) hp
  have h2 := one_le (w := w) (sh := 48) h1
  have h3 := one_le (w := w) (sh := 40) h2
  have h4 := one_le (w := w) (sh := 32) h3
  have h5 := one_le (w := w) (sh := 24) h4
  have h6 := one_le (w := w) (sh := 16) h5
  have h7 := one_le (w := w) (sh := 8) h6
  have h8 := one_le (w := w) (sh := 0) h7
  refine ⟨?_, h8⟩
  unfold fX6_put
  rw [show ((Int32.toInt (56 : Int32) - ((-8)) + 1).toNat) + 1 = 57 + 1 + 1 + 1 + 1 + 1 + 1 + 1 + 1 + 1 by decide]
  rw [put_st hp, if_neg (by decide), show (56 : Int32) + (-8) = 48 by decide, put_st h1, if_neg (by decide), show (48 : Int32) + (-8) = 40 by decide, put_st h2, if_neg (by decide), show (40 : Int32) + (-8) = 32 by decide, put_st h3, if_neg (by decide), show (32 : Int32) + (-8) = 24 by decide, put_st h4, if_neg (by decide), show (24 : Int32) + (-8) = 16 by decide, put_st h5, if_neg (by decide), show (16 : Int32) + (-8) = 8 by decide, put_st h6, if_neg (by decide), show (8 : Int32) + (-8) = 0 by decide, put_st h7, if_neg (by decide), show (0 : Int32) + (-8) = -8 by decide, put_st h8, if_pos (by decide)]
  rfl
theorem bn2_p {A B T : Type} (q : A × B) (F : A → B → T) : bn2 q F = F q.1 q.2 := rfl
theorem feed_8 {a b c : Int64} {p : Nat × (Nat → Int32)} (hp : p.1 ≤ 1000) : fX8_feed a b c p.1 p.2 = ((put8 c (put8 b (put8 a p))).1, (put8 c (put8 b (put8 a p))).2, nI (put8 c (put8 b (put8 a p))).1) := by
  obtain ⟨e1, h1⟩ := put_8 (w := a) hp
  obtain ⟨e2, h2⟩ := put_8 (w := b) h1
  obtain ⟨e3, h3⟩ := put_8 (w := c) h2
  unfold fX8_feed
  rw [e1, bn2_p, e2, bn2_p, e3, bn2_p]
theorem fed_st {a b c : Int64} {z : Nat → Nat → (Nat → Int32) → Int32 × Nat × (Nat → Int32) × Int32} {k j : Nat} {p : Nat × (Nat → Int32)} (hp : p.1 ≤ 1000) (hj : j < 24) (W : Int64) (sh : Int32) (hW : W = if 8 ≤ j then (if 16 ≤ j then c else b) else a) (hs : 56 - (8 * ((nI j) &&& 7)) = sh) : lp z (fX9_feed_B8a a b c) (k + 1) j p.1 p.2 = lp z (fX9_feed_B8a a b c) k (j + 1) (one W sh p).1 (one W sh p).2 := by
  show fX9_feed_B8a a b c (lp z (fX9_feed_B8a a b c) k) j p.1 p.2 = _
  generalize lp z (fX9_feed_B8a a b c) k = rc
  have key : fX9_feed_J39a j p.1 p.2 rc W = rc (j + 1) (one W sh p).1 (one W sh p).2 := by
    unfold fX9_feed_J39a fX9_feed_J93a fX9_feed_J114a
    rw [hs, nI_clamp (by omega)]
    show (if 1000 ≤ p.1 then rc (j + 1) p.1 p.2 else (if bt W sh = 10 then rc (j + 1) (p.1 + 1) (upd p.2 p.1 (bt W sh)) else (if bt W sh < 32 then rc (j + 1) p.1 p.2 else (if (126 : Int32) < bt W sh then rc (j + 1) p.1 p.2 else rc (j + 1) (p.1 + 1) (upd p.2 p.1 (bt W sh)))))) = _
    unfold one
    repeat' split
    all_goals rfl
  unfold fX9_feed_B8a
  rw [if_neg (by omega), ← key, hW]
  repeat' split
  all_goals rfl
theorem fed_9 {a b c : Int64} {p : Nat × (Nat → Int32)} (hp : p.1 ≤ 1000) : fX9_feed a b c p.1 p.2 = (0, (put8 c (put8 b (put8 a p))).1, (put8 c (put8 b (put8 a p))).2, nI (put8 c (put8 b (put8 a p))).1) := by
  have h1 := one_le (w := a) (sh := 56) hp
  have h2 := one_le (w := a) (sh := 48) h1
  have h3 := one_le (w := a) (sh := 40) h2
  have h4 := one_le (w := a) (sh := 32) h3
  have h5 := one_le (w := a) (sh := 24) h4
  have h6 := one_le (w := a) (sh := 16) h5
  have h7 := one_le (w := a) (sh := 8) h6
  have h8 := one_le (w := a) (sh := 0) h7
  have h9 := one_le (w := b) (sh := 56) h8
  have h10 := one_le (w := b) (sh := 48) h9
  have h11 := one_le (w := b) (sh := 40) h10
  have h12 := one_le (w := b) (sh := 32) h11
  have h13 := one_le (w := b) (sh := 24) h12
  have h14 := one_le (w := b) (sh := 16) h13
  have h15 := one_le (w := b) (sh := 8) h14
  have h16 := one_le (w := b) (sh := 0) h15
  have h17 := one_le (w := c) (sh := 56) h16
  have h18 := one_le (w := c) (sh := 48) h17
  have h19 := one_le (w := c) (sh := 40) h18
  have h20 := one_le (w := c) (sh := 32) h19
  have h21 := one_le (w := c) (sh := 24) h20
  have h22 := one_le (w := c) (sh := 16) h21
  have h23 := one_le (w := c) (sh := 8) h22
  have h24 := one_le (w := c) (sh := 0) h23
  unfold fX9_feed
  rw [show (24 + 1 - 0) + 1 = 1 + 1 + 1 + 1 + 1 + 1 + 1 + 1 + 1 + 1 + 1 + 1 + 1 + 1 + 1 + 1 + 1 + 1 + 1 + 1 + 1 + 1 + 1 + 1 + 1 + 1 by decide]
  rw [fed_st (j := 0) hp (by decide) a 56 ((if_neg (by decide)).symm) (by decide)]
  rw [fed_st (j := 1) h1 (by decide) a 48 ((if_neg (by decide)).symm) (by decide)]
  rw [fed_st (j := 2) h2 (by decide) a 40 ((if_neg (by decide)).symm) (by decide)]
  rw [fed_st (j := 3) h3 (by decide) a 32 ((if_neg (by decide)).symm) (by decide)]
  rw [fed_st (j := 4) h4 (by decide) a 24 ((if_neg (by decide)).symm) (by decide)]
  rw [fed_st (j := 5) h5 (by decide) a 16 ((if_neg (by decide)).symm) (by decide)]
  rw [fed_st (j := 6) h6 (by decide) a 8 ((if_neg (by decide)).symm) (by decide)]
  rw [fed_st (j := 7) h7 (by decide) a 0 ((if_neg (by decide)).symm) (by decide)]
  rw [fed_st (j := 8) h8 (by decide) b 56 (by rw [if_pos (by decide), if_neg (by decide)]) (by decide)]
  rw [fed_st (j := 9) h9 (by decide) b 48 (by rw [if_pos (by decide), if_neg (by decide)]) (by decide)]
  rw [fed_st (j := 10) h10 (by decide) b 40 (by rw [if_pos (by decide), if_neg (by decide)]) (by decide)]
  rw [fed_st (j := 11) h11 (by decide) b 32 (by rw [if_pos (by decide), if_neg (by decide)]) (by decide)]
  rw [fed_st (j := 12) h12 (by decide) b 24 (by rw [if_pos (by decide), if_neg (by decide)]) (by decide)]
  rw [fed_st (j := 13) h13 (by decide) b 16 (by rw [if_pos (by decide), if_neg (by decide)]) (by decide)]
  rw [fed_st (j := 14) h14 (by decide) b 8 (by rw [if_pos (by decide), if_neg (by decide)]) (by decide)]
  rw [fed_st (j := 15) h15 (by decide) b 0 (by rw [if_pos (by decide), if_neg (by decide)]) (by decide)]
  rw [fed_st (j := 16) h16 (by decide) c 56 (by rw [if_pos (by decide), if_pos (by decide)]) (by decide)]
  rw [fed_st (j := 17) h17 (by decide) c 48 (by rw [if_pos (by decide), if_pos (by decide)]) (by decide)]
  rw [fed_st (j := 18) h18 (by decide) c 40 (by rw [if_pos (by decide), if_pos (by decide)]) (by decide)]
  rw [fed_st (j := 19) h19 (by decide) c 32 (by rw [if_pos (by decide), if_pos (by decide)]) (by decide)]
  rw [fed_st (j := 20) h20 (by decide) c 24 (by rw [if_pos (by decide), if_pos (by decide)]) (by decide)]
  rw [fed_st (j := 21) h21 (by decide) c 16 (by rw [if_pos (by decide), if_pos (by decide)]) (by decide)]
  rw [fed_st (j := 22) h22 (by decide) c 8 (by rw [if_pos (by decide), if_pos (by decide)]) (by decide)]
  rw [fed_st (j := 23) h23 (by decide) c 0 (by rw [if_pos (by decide), if_pos (by decide)]) (by decide)]
  show fX9_feed_B8a a b c _ 24 _ _ = _
  unfold fX9_feed_B8a
  rw [if_pos (by decide)]
  rfl
theorem feed_eq {a b c : Int64} {n : Nat} {s : Nat → Int32} {u1 v1 : Nat} {u2 v2 : Nat → Int32} {r1 r2 v0 : Int32} (hn : n ≤ 1000) (h1 : (u1, u2, r1) = fX8_feed a b c n s) (h2 : (v0, v1, v2, r2) = fX9_feed a b c n s) : r1 = r2 ∧ u1 = v1 ∧ u2 = v2 := by
  have e1 := feed_8 (a := a) (b := b) (c := c) (p := (n, s)) hn
  have e2 := fed_9 (a := a) (b := b) (c := c) (p := (n, s)) hn
  have h1 := h1.trans e1
  have h2 := h2.trans e2
  injection h1 with a1 a2
  injection a2 with a2 a3
  injection h2 with b0 b1
  injection b1 with b1 b2
  injection b2 with b2 b3
  exact ⟨a3.trans b3.symm, a1.trans b1.symm, a2.trans b2.symm⟩
