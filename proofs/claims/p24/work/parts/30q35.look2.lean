/-! looks ahead: by both -/
set_option maxHeartbeats 2000000 in
theorem ps2_ {g ns wl : Nat} {be ho : Int32} {ki ty tp sk snw sup k9 o9 p9 c9 sn9 wc lf lt co : Nat → Int32} (hT : TQ2 g ns be ho ki ty tp sk snw sup k9 o9 p9 c9 sn9) {B wt : Nat} {ins ni mi ta lc : Int32} {y pc st hi pl ca ck ws wf kp kb ah ag su sb te tb bn vo s : Nat → Int32} (hB : B ≤ 1000000) (hR : RE g B p9 ins ni mi y pc st hi pl ca ck s) : ∃ ins9 ni9 mi9 ta9 lc9 b6 y9 pc9 st9 hi9 pl9 ca9 ck9 wt9 ws9 wf9 v1 v2 v3 v4 v5 v6 v7 v8 v9 v10 s9 r cn9, fX4_pass ins ni mi ta lc y pc st hi pl ca ck g ns be ho ki ty tp sk snw wl wt wc ws wf = (ins9, ni9, mi9, ta9, lc9, b6, y9, pc9, st9, hi9, pl9, ca9, ck9, wt9, ws9, wf9, r) ∧ fX9_passes (-1) sup k9 o9 p9 c9 sn9 lf lt co kp kb ah ag su sb te tb bn vo s = (cn9, v1, v2, v3, v4, v5, v6, v7, v8, v9, v10, s9, r) ∧ RE g (B + 1) p9 ins9 ni9 mi9 y9 pc9 st9 hi9 pl9 ca9 ck9 s9 ∧ (r = -1 ∨ ∃ c, c < g ∧ r = nI c ∧ lc9 = nI c) := by
  have hsn := sno_ hT (hR.1.2.2.2.2.2.2.2.2.2.2.2).1 (hR.1.2.2.2.2.2.2.2.2.2.2.2).2 hB
  obtain ⟨ins9, ni9, mi9, ta9, lc9, y9, pc9, st9, hi9, pl9, ca9, ck9, wt9, ws9, wf9, v1, v2, v3, v4, v5, v6, v7, v8, v9, v10, s9, r, e1, e2, e3, e4⟩ := mnE_ (sNow := -1) (sn := fX9_snowOf (s 1) sup sn9) (ta := ta) (lc := lc) (wl := wl) (wt := wt) (wc := wc) (ws := ws) (wf := wf) (lf := lf) (lt := lt) (co := co) (kp := kp) (kb := kb) (ah := ah) (ag := ag) (su := su) (sb := sb) (te := te) (tb := tb) (bn := bn) (vo := vo) hT hB hR (if_neg (by decide))
  unfold fX4_pass
  rw [bn1_, hsn, show fX9_snowOf mi sup sn9 = fX9_snowOf (s 1) sup sn9 by rw [hR.1.2.2.2.2.2.2.2.2.1], e1, bn17_]
  refine ⟨_, _, _, _, _, _, _, _, _, _, _, _, _, _, _, _, _, _, _, _, _, _, _, _, _, _, _, _, _, rfl, e2, e3, ?_⟩
  rcases e4 with ⟨q1, q2, q3, q4, q5, q6, q7, q8, q9, q10, q11, q12, q13, q14⟩ | ⟨c, q0, q1, q2, q3, q4, q5, q6, q7, q8⟩
  · exact Or.inl q1
  · exact Or.inr ⟨c, q0, q1, q2⟩
set_option maxHeartbeats 2000000 in
theorem nc_ {g ns wl : Nat} {be ho : Int32} {ki ty tp sk snw sup k9 o9 p9 c9 sn9 wc lf lt co : Nat → Int32} (hT : TQ2 g ns be ho ki ty tp sk snw sup k9 o9 p9 c9 sn9) {B wt : Nat} {ins ni mi ta lc cn : Int32} {sx : Bool} {y pc st hi pl ca ck ws wf kp kb ah ag su sb te tb bn vo s bf : Nat → Int32} (hB : B + 400 ≤ 1000000) (hR : RE g B p9 ins ni mi y pc st hi pl ca ck s) : ∃ i1 i2 i3 i4 i5 b6 f1 f2 f3 f4 f5 f6 f7 w1 w2 w3 a cn' tt v1 v2 v3 v4 v5 v6 v7 v8 v9 v10 s'' r, fX8_nextCook ins ni mi ta lc sx y pc st hi pl ca ck g ns be ho ki ty tp sk snw wl wt wc ws wf = (i1, i2, i3, i4, i5, b6, f1, f2, f3, f4, f5, f6, f7, w1, w2, w3, a) ∧ fX4_goOn 400 ins ni mi ta lc sx y pc st hi pl ca ck g ns be ho ki ty tp sk snw wl wt wc ws wf = (i1, i2, i3, i4, i5, b6, f1, f2, f3, f4, f5, f6, f7, w1, w2, w3, r) ∧ fX9_eats (-1) cn sup k9 o9 p9 c9 sn9 lf lt co kp kb ah ag su sb te tb bn vo s bf = (cn', a, tt, v1, v2, v3, v4, v5, v6, v7, v8, v9, v10, va_cpy bf s'' 0 0 46, r) := by
  obtain ⟨i1, i2, i3, i4, i5, b6, f1, f2, f3, f4, f5, f6, f7, w1, w2, w3, r, cn9', ct, tt, v1, v2, v3, v4, v5, v6, v7, v8, v9, v10, s9', e1, e2, e3⟩ := go_lp (wl := wl) (wc := wc) (lf := lf) (lt := lt) (co := co) (s0 := s) (bf := bf) (z := fun _ _ _ _ _ _ _ _ _ _ _ _ _ _ _ _ _ => ((0 : Int32), (0 : Int32), (0 : Int32), (0 : Int32), (0 : Int32), false, (fun _ => 0), (fun _ => 0), (fun _ => 0), (fun _ => 0), (fun _ => 0), (fun _ => 0), (fun _ => 0), 0, (fun _ => 0), (fun _ => 0), (0 : Int32))) (z' := fun _ _ _ _ _ _ _ _ _ _ _ _ _ _ => ((0 : Int32), (0 : Int32), (0 : Int32), (fun _ => 0), (fun _ => 0), (fun _ => 0), (fun _ => 0), (fun _ => 0), (fun _ => 0), (fun _ => 0), (fun _ => 0), (fun _ => 0), (fun _ => 0), (fun _ => 0), (0 : Int32))) hT ((2401 + 1 - 1) + 1) ((400 + 1 - 0) + 1) 0 B ins ni mi ta lc sx y pc st hi pl ca ck wt ws wf cn kp kb ah ag su sb te tb bn vo s (by omega) (by omega) (by omega) (by omega) hR
  have e1' : fX4_goOn 400 ins ni mi ta lc sx y pc st hi pl ca ck g ns be ho ki ty tp sk snw wl wt wc ws wf = (i1, i2, i3, i4, i5, b6, f1, f2, f3, f4, f5, f6, f7, w1, w2, w3, r) := e1
  have e2' : fX9_eats (-1) cn sup k9 o9 p9 c9 sn9 lf lt co kp kb ah ag su sb te tb bn vo s bf = (cn9', ct, tt, v1, v2, v3, v4, v5, v6, v7, v8, v9, v10, va_cpy bf s9' 0 0 46, r) := e2
  unfold fX8_nextCook fX8_nextCook_J29a
  rw [e1', bn17_, e2']
  rcases e3 with ⟨r1, r2⟩ | ⟨c, m, r1, r2, r3, r4, r5⟩
  · rw [if_pos r1, r2]
    exact ⟨_, _, _, _, _, _, _, _, _, _, _, _, _, _, _, _, _, _, _, _, _, _, _, _, _, _, _, _, _, _, _, rfl, rfl, rfl⟩
  · rw [if_neg (show ¬ (r = -1) from fun z9 => by
      have := congrArg Int32.toInt z9
      rw [r4, nI_toInt (by omega), show Int32.toInt (-1) = -1 by decide] at this; omega), r3, r2]
    exact ⟨_, _, _, _, _, _, _, _, _, _, _, _, _, _, _, _, _, _, _, _, _, _, _, _, _, _, _, _, _, _, _, rfl, rfl, rfl⟩
set_option maxHeartbeats 2000000 in
theorem la_lp {g ns wl : Nat} {be ho : Int32} {ki ty tp sk snw sup k9 o9 p9 c9 sn9 wc lf lt co : Nat → Int32} (hT : TQ2 g ns be ho ki ty tp sk snw sup k9 o9 p9 c9 sn9) {N : Nat} {q M : Int32} {s0 bf : Nat → Int32} {z : Nat → Nat → (Nat → Int32) → (Nat → Int32) → Int32 → Int32 → Int32 → Int32 → Int32 → Bool → (Nat → Int32) → (Nat → Int32) → (Nat → Int32) → (Nat → Int32) → (Nat → Int32) → (Nat → Int32) → (Nat → Int32) → Int32 × Int32 × Int32 × Int32 × Int32 × Bool × (Nat → Int32) × (Nat → Int32) × (Nat → Int32) × (Nat → Int32) × (Nat → Int32) × (Nat → Int32) × (Nat → Int32) × Nat × (Nat → Int32) × (Nat → Int32)} {z' : Nat → (Nat → Int32) → (Nat → Int32) → (Nat → Int32) → (Nat → Int32) → (Nat → Int32) → (Nat → Int32) → (Nat → Int32) → (Nat → Int32) → (Nat → Int32) → (Nat → Int32) → Int32 → (Nat → Int32) → Int32 × Int32 × (Nat → Int32) × (Nat → Int32) × (Nat → Int32) × (Nat → Int32) × (Nat → Int32) × (Nat → Int32) × (Nat → Int32) × (Nat → Int32) × (Nat → Int32) × (Nat → Int32) × (Nat → Int32) × (Nat → Int32) × Int32} (hM : M = nI N) (hN : N ≤ 60) : ∀ k k' n B wt ws wf ins ni mi ta lc sx y pc st hi pl ca ck cn kp kb ah ag su sb te tb bn vo s, n ≤ N → N - n < k → N - n < k' → B + (N - n) ≤ 1000000 → RE g B p9 ins ni mi y pc st hi pl ca ck s → ∃ i1 i2 i3 i4 i5 b6 f1 f2 f3 f4 f5 f6 f7 w1 w2 w3 cn' v1 v2 v3 v4 v5 v6 v7 v8 v9 v10 s9, lp z (fX8_lookAhead_B13a M g ns be ho ki ty tp sk snw wl wc) k n wt ws wf ins ni mi ta lc sx y pc st hi pl ca ck = (i1, i2, i3, i4, i5, b6, f1, f2, f3, f4, f5, f6, f7, w1, w2, w3) ∧ lp z' (fX9_later_B40a q M (-1) sup k9 o9 p9 c9 sn9 lf lt co s0 bf) k' n kp kb ah ag su sb te tb bn vo cn s = (0, cn', v1, v2, v3, v4, v5, v6, v7, v8, v9, v10, va_cpy (va_cpy s0 bf 0 0 46) s9 0 0 46, va_cpy s0 bf 0 0 46, s9 (Int32.toNatClampNeg (4 + q))) ∧ RE g (B + (N - n)) p9 i1 i2 i3 f1 f2 f3 f4 f5 f6 f7 s9 := by
  intro k
  induction k with
  | zero => intro k' n B wt ws wf ins ni mi ta lc sx y pc st hi pl ca ck cn kp kb ah ag su sb te tb bn vo s _ h; exact absurd h (Nat.not_lt_zero _)
  | succ k ih =>
    intro k' n B wt ws wf ins ni mi ta lc sx y pc st hi pl ca ck cn kp kb ah ag su sb te tb bn vo s hn hk hk' hB hR
    obtain ⟨k', rfl⟩ : ∃ q, k' = q + 1 := ⟨k' - 1, by omega⟩
    show ∃ i1 i2 i3 i4 i5 b6 f1 f2 f3 f4 f5 f6 f7 w1 w2 w3 cn' v1 v2 v3 v4 v5 v6 v7 v8 v9 v10 s9, fX8_lookAhead_B13a M g ns be ho ki ty tp sk snw wl wc (lp z (fX8_lookAhead_B13a M g ns be ho ki ty tp sk snw wl wc) k) n wt ws wf ins ni mi ta lc sx y pc st hi pl ca ck = (i1, i2, i3, i4, i5, b6, f1, f2, f3, f4, f5, f6, f7, w1, w2, w3) ∧ fX9_later_B40a q M (-1) sup k9 o9 p9 c9 sn9 lf lt co s0 bf (lp z' (fX9_later_B40a q M (-1) sup k9 o9 p9 c9 sn9 lf lt co s0 bf) k') n kp kb ah ag su sb te tb bn vo cn s = (0, cn', v1, v2, v3, v4, v5, v6, v7, v8, v9, v10, va_cpy (va_cpy s0 bf 0 0 46) s9 0 0 46, va_cpy s0 bf 0 0 46, s9 (Int32.toNatClampNeg (4 + q))) ∧ RE g (B + (N - n)) p9 i1 i2 i3 f1 f2 f3 f4 f5 f6 f7 s9
    have ih := ih k' (n + 1) (B + 1)
    generalize lp z (fX8_lookAhead_B13a M g ns be ho ki ty tp sk snw wl wc) k = rc at ih ⊢
    generalize lp z' (fX9_later_B40a q M (-1) sup k9 o9 p9 c9 sn9 lf lt co s0 bf) k' = rc' at ih ⊢
    unfold fX8_lookAhead_B13a fX9_later_B40a
    have eM : (M ≤ nI n) ↔ N ≤ n := by rw [hM]; exact nI_leI (by omega) (by omega)
    by_cases c : N ≤ n
    · rw [if_pos (eM.mpr c), if_pos (eM.mpr c)]
      exact ⟨_, _, _, _, _, _, _, _, _, _, _, _, _, _, _, _, _, _, _, _, _, _, _, _, _, _, _, _, rfl, rfl, RE_mono (by omega) hR⟩
    · rw [if_neg (fun z9 => c (eM.mp z9)), if_neg (fun z9 => c (eM.mp z9))]
      obtain ⟨ins9, ni9, mi9, ta9, lc9, b6, y9, pc9, st9, hi9, pl9, ca9, ck9, wt9, ws9, wf9, v1, v2, v3, v4, v5, v6, v7, v8, v9, v10, s9, r, cn9, e1, e2, e3, _⟩ := ps2_ (wl := wl) (wc := wc) (lf := lf) (lt := lt) (co := co) (wt := wt) (ta := ta) (lc := lc) (ws := ws) (wf := wf) (kp := kp) (kb := kb) (ah := ah) (ag := ag) (su := su) (sb := sb) (te := te) (tb := tb) (bn := bn) (vo := vo) hT (by omega) hR
      rw [e1, bn17_, e2, bn13_]
      obtain ⟨i1, i2, i3, i4, i5, b6, f1, f2, f3, f4, f5, f6, f7, w1, w2, w3, cn', x1, x2, x3, x4, x5, x6, x7, x8, x9, x10, s8, g1, g2, g3⟩ := ih _ _ _ _ _ _ _ _ _ _ _ _ _ _ _ _ _ _ _ _ _ _ _ _ _ _ _ _ (by omega) (by omega) (by omega) (by omega) e3
      exact ⟨_, _, _, _, _, _, _, _, _, _, _, _, _, _, _, _, _, _, _, _, _, _, _, _, _, _, _, _, g1, g2, RE_mono (by omega) g3⟩
set_option maxHeartbeats 2000000 in
theorem bo_lp {g ns wl : Nat} {be ho : Int32} {ki ty tp sk snw sup k9 o9 p9 c9 sn9 wc lf lt co : Nat → Int32} (hT : TQ2 g ns be ho ki ty tp sk snw sup k9 o9 p9 c9 sn9) {N : Nat} {q M : Int32} {s0 bf : Nat → Int32} {z : Nat → Nat → (Nat → Int32) → (Nat → Int32) → Int32 → Int32 → Int32 → Int32 → Int32 → Bool → (Nat → Int32) → (Nat → Int32) → (Nat → Int32) → (Nat → Int32) → (Nat → Int32) → (Nat → Int32) → (Nat → Int32) → Int32 × Int32 × Int32 × Int32 × Int32 × Bool × (Nat → Int32) × (Nat → Int32) × (Nat → Int32) × (Nat → Int32) × (Nat → Int32) × (Nat → Int32) × (Nat → Int32) × Nat × (Nat → Int32) × (Nat → Int32)} {z' : Nat → Int32 → (Nat → Int32) → (Nat → Int32) → (Nat → Int32) → (Nat → Int32) → (Nat → Int32) → (Nat → Int32) → (Nat → Int32) → (Nat → Int32) → (Nat → Int32) → (Nat → Int32) → (Nat → Int32) → Int32 × Int32 × (Nat → Int32) × (Nat → Int32) × (Nat → Int32) × (Nat → Int32) × (Nat → Int32) × (Nat → Int32) × (Nat → Int32) × (Nat → Int32) × (Nat → Int32) × (Nat → Int32) × (Nat → Int32) × (Nat → Int32) × Int32} (hM : M = nI N) (hN : N ≤ 60) : ∀ k k' n B wt ws wf ins ni mi ta lc sx y pc st hi pl ca ck cn kp kb ah ag su sb te tb bn vo s, n ≤ N → N - n < k → N - n < k' → B + (N - n) ≤ 1000000 → RE g B p9 ins ni mi y pc st hi pl ca ck s → ∃ i1 i2 i3 i4 i5 b6 f1 f2 f3 f4 f5 f6 f7 w1 w2 w3 cn' v1 v2 v3 v4 v5 v6 v7 v8 v9 v10 s9, lp z (fX8_lookAhead_B13a M g ns be ho ki ty tp sk snw wl wc) k n wt ws wf ins ni mi ta lc sx y pc st hi pl ca ck = (i1, i2, i3, i4, i5, b6, f1, f2, f3, f4, f5, f6, f7, w1, w2, w3) ∧ lp z' (fX9_boy_B32a M (-1) sup k9 o9 p9 c9 sn9 lf lt co s0 bf) k' n cn kp kb ah ag su sb te tb bn vo s = (0, cn', v1, v2, v3, v4, v5, v6, v7, v8, v9, v10, va_cpy (va_cpy s0 bf 0 0 46) s9 0 0 46, va_cpy s0 bf 0 0 46, fX9_bitsZ (fX9_onRoad sup s9)) ∧ RE g (B + (N - n)) p9 i1 i2 i3 f1 f2 f3 f4 f5 f6 f7 s9 := by
  intro k
  induction k with
  | zero => intro k' n B wt ws wf ins ni mi ta lc sx y pc st hi pl ca ck cn kp kb ah ag su sb te tb bn vo s _ h; exact absurd h (Nat.not_lt_zero _)
  | succ k ih =>
    intro k' n B wt ws wf ins ni mi ta lc sx y pc st hi pl ca ck cn kp kb ah ag su sb te tb bn vo s hn hk hk' hB hR
    obtain ⟨k', rfl⟩ : ∃ q, k' = q + 1 := ⟨k' - 1, by omega⟩
    show ∃ i1 i2 i3 i4 i5 b6 f1 f2 f3 f4 f5 f6 f7 w1 w2 w3 cn' v1 v2 v3 v4 v5 v6 v7 v8 v9 v10 s9, fX8_lookAhead_B13a M g ns be ho ki ty tp sk snw wl wc (lp z (fX8_lookAhead_B13a M g ns be ho ki ty tp sk snw wl wc) k) n wt ws wf ins ni mi ta lc sx y pc st hi pl ca ck = (i1, i2, i3, i4, i5, b6, f1, f2, f3, f4, f5, f6, f7, w1, w2, w3) ∧ fX9_boy_B32a M (-1) sup k9 o9 p9 c9 sn9 lf lt co s0 bf (lp z' (fX9_boy_B32a M (-1) sup k9 o9 p9 c9 sn9 lf lt co s0 bf) k') n cn kp kb ah ag su sb te tb bn vo s = (0, cn', v1, v2, v3, v4, v5, v6, v7, v8, v9, v10, va_cpy (va_cpy s0 bf 0 0 46) s9 0 0 46, va_cpy s0 bf 0 0 46, fX9_bitsZ (fX9_onRoad sup s9)) ∧ RE g (B + (N - n)) p9 i1 i2 i3 f1 f2 f3 f4 f5 f6 f7 s9
    have ih := ih k' (n + 1) (B + 1)
    generalize lp z (fX8_lookAhead_B13a M g ns be ho ki ty tp sk snw wl wc) k = rc at ih ⊢
    generalize lp z' (fX9_boy_B32a M (-1) sup k9 o9 p9 c9 sn9 lf lt co s0 bf) k' = rc' at ih ⊢
    unfold fX8_lookAhead_B13a fX9_boy_B32a
    have eM : (M ≤ nI n) ↔ N ≤ n := by rw [hM]; exact nI_leI (by omega) (by omega)
    by_cases c : N ≤ n
    · rw [if_pos (eM.mpr c), if_pos (eM.mpr c)]
      exact ⟨_, _, _, _, _, _, _, _, _, _, _, _, _, _, _, _, _, _, _, _, _, _, _, _, _, _, _, _, rfl, rfl, RE_mono (by omega) hR⟩
    · rw [if_neg (fun z9 => c (eM.mp z9)), if_neg (fun z9 => c (eM.mp z9))]
      obtain ⟨ins9, ni9, mi9, ta9, lc9, b6, y9, pc9, st9, hi9, pl9, ca9, ck9, wt9, ws9, wf9, v1, v2, v3, v4, v5, v6, v7, v8, v9, v10, s9, r, cn9, e1, e2, e3, _⟩ := ps2_ (wl := wl) (wc := wc) (lf := lf) (lt := lt) (co := co) (wt := wt) (ta := ta) (lc := lc) (ws := ws) (wf := wf) (kp := kp) (kb := kb) (ah := ah) (ag := ag) (su := su) (sb := sb) (te := te) (tb := tb) (bn := bn) (vo := vo) hT (by omega) hR
      rw [e1, bn17_, e2, bn13_]
      obtain ⟨i1, i2, i3, i4, i5, b6, f1, f2, f3, f4, f5, f6, f7, w1, w2, w3, cn', x1, x2, x3, x4, x5, x6, x7, x8, x9, x10, s8, g1, g2, g3⟩ := ih _ _ _ _ _ _ _ _ _ _ _ _ _ _ _ _ _ _ _ _ _ _ _ _ _ _ _ _ (by omega) (by omega) (by omega) (by omega) e3
      exact ⟨_, _, _, _, _, _, _, _, _, _, _, _, _, _, _, _, _, _, _, _, _, _, _, _, _, _, _, _, g1, g2, RE_mono (by omega) g3⟩
set_option maxHeartbeats 4000000 in
theorem me_lp {g ns wl : Nat} {be ho : Int32} {ki ty tp sk snw sup k9 o9 p9 c9 sn9 wc lf lt co : Nat → Int32} (hT : TQ2 g ns be ho ki ty tp sk snw sup k9 o9 p9 c9 sn9) {i j : Nat} {q q2 : Int32} {s0 bf : Nat → Int32} {z : Nat → Nat → (Nat → Int32) → (Nat → Int32) → Int32 → Int32 → Int32 → Int32 → Int32 → Bool → (Nat → Int32) → (Nat → Int32) → (Nat → Int32) → (Nat → Int32) → (Nat → Int32) → (Nat → Int32) → (Nat → Int32) → Int32 × Int32 × Int32 × Int32 × Int32 × Bool × (Nat → Int32) × (Nat → Int32) × (Nat → Int32) × (Nat → Int32) × (Nat → Int32) × (Nat → Int32) × (Nat → Int32) × Nat × (Nat → Int32) × (Nat → Int32) × Int32} {z' : Nat → (Nat → Int32) → (Nat → Int32) → (Nat → Int32) → (Nat → Int32) → (Nat → Int32) → (Nat → Int32) → (Nat → Int32) → (Nat → Int32) → (Nat → Int32) → (Nat → Int32) → Int32 → (Nat → Int32) → Int32 × Int32 × (Nat → Int32) × (Nat → Int32) × (Nat → Int32) × (Nat → Int32) × (Nat → Int32) × (Nat → Int32) × (Nat → Int32) × (Nat → Int32) × (Nat → Int32) × (Nat → Int32) × (Nat → Int32) × (Nat → Int32) × Int32} (hq : q = nI i) (hq2 : q2 = nI j) (hi' : i < g) (hj' : j < g) : ∀ k k' n B wt ws wf ins ni mi ta lc sx y pc st hi pl ca ck cn kp kb ah ag su sb te tb bn vo s, n ≤ 61 → 61 - n < k → 61 - n < k' → B + (61 - n) ≤ 1000000 → RE g B p9 ins ni mi y pc st hi pl ca ck s → ∃ i1 i2 i3 i4 i5 b6 f1 f2 f3 f4 f5 f6 f7 w1 w2 w3 cn' v1 v2 v3 v4 v5 v6 v7 v8 v9 v10 s9 r, lp z (fX8_meets_B36a q q2 g ns be ho ki ty tp sk snw wl wc) k n wt ws wf ins ni mi ta lc sx y pc st hi pl ca ck = (i1, i2, i3, i4, i5, b6, f1, f2, f3, f4, f5, f6, f7, w1, w2, w3, r) ∧ lp z' (fX9_meets_B43a q q2 (-1) sup k9 o9 p9 c9 sn9 lf lt co s0 bf) k' n kp kb ah ag su sb te tb bn vo cn s = (0, cn', v1, v2, v3, v4, v5, v6, v7, v8, v9, v10, va_cpy (va_cpy s0 bf 0 0 46) s9 0 0 46, va_cpy s0 bf 0 0 46, r) := by
  intro k
  induction k with
  | zero => intro k' n B wt ws wf ins ni mi ta lc sx y pc st hi pl ca ck cn kp kb ah ag su sb te tb bn vo s _ h; exact absurd h (Nat.not_lt_zero _)
  | succ k ih =>
    intro k' n B wt ws wf ins ni mi ta lc sx y pc st hi pl ca ck cn kp kb ah ag su sb te tb bn vo s hn hk hk' hB hR
    obtain ⟨k', rfl⟩ : ∃ q, k' = q + 1 := ⟨k' - 1, by omega⟩
    show ∃ i1 i2 i3 i4 i5 b6 f1 f2 f3 f4 f5 f6 f7 w1 w2 w3 cn' v1 v2 v3 v4 v5 v6 v7 v8 v9 v10 s9 r, fX8_meets_B36a q q2 g ns be ho ki ty tp sk snw wl wc (lp z (fX8_meets_B36a q q2 g ns be ho ki ty tp sk snw wl wc) k) n wt ws wf ins ni mi ta lc sx y pc st hi pl ca ck = (i1, i2, i3, i4, i5, b6, f1, f2, f3, f4, f5, f6, f7, w1, w2, w3, r) ∧ fX9_meets_B43a q q2 (-1) sup k9 o9 p9 c9 sn9 lf lt co s0 bf (lp z' (fX9_meets_B43a q q2 (-1) sup k9 o9 p9 c9 sn9 lf lt co s0 bf) k') n kp kb ah ag su sb te tb bn vo cn s = (0, cn', v1, v2, v3, v4, v5, v6, v7, v8, v9, v10, va_cpy (va_cpy s0 bf 0 0 46) s9 0 0 46, va_cpy s0 bf 0 0 46, r)
    have ih := ih k' (n + 1) (B + 1)
    generalize lp z (fX8_meets_B36a q q2 g ns be ho ki ty tp sk snw wl wc) k = rc at ih ⊢
    generalize lp z' (fX9_meets_B43a q q2 (-1) sup k9 o9 p9 c9 sn9 lf lt co s0 bf) k' = rc' at ih ⊢
    unfold fX8_meets_B36a fX8_meets_J76a fX9_meets_B43a fX9_meets_J87a fX9_meets_J111a fX9_meets_J76a
    have hg := hT.1.1
    by_cases c : 60 < n
    · rw [if_pos c, if_pos c, if_neg (by omega)]
      exact ⟨_, _, _, _, _, _, _, _, _, _, _, _, _, _, _, _, _, _, _, _, _, _, _, _, _, _, _, _, _, rfl, rfl⟩
    · rw [if_neg c, if_neg c]
      have hyi := (hR.1.2.1 i hi').1
      have hyj := (hR.1.2.1 j hj').1
      have ei : ipr s i = onR y i := by unfold ipr onR; rw [hyi]
      have d4 : ∀ m, m < g → Int32.toNatClampNeg (4 + nI m) = 4 + m := fun m hm => by rw [show (4 : Int32) + nI m = nI (4 + m) from nI_add 4 m, nI_clamp (by omega)]
      rw [bn1_, bn1_, hq, hq2, c_on (by omega) (hR.1.1 i (by omega)), r_in (by omega), ei, d4 i hi', d4 j hj', nI_clamp (n := i) (by omega), nI_clamp (n := j) (by omega), ← hyi, ← hyj]
      have go : ∃ i1 i2 i3 i4 i5 b6 f1 f2 f3 f4 f5 f6 f7 w1 w2 w3 cn' v1 v2 v3 v4 v5 v6 v7 v8 v9 v10 s9 r, bn17 (fX4_pass ins ni mi ta lc y pc st hi pl ca ck g ns be ho ki ty tp sk snw wl wt wc ws wf) (fun u_d_712 u_d_812 u_d_912 u_d_1012 u_d_1112 u_d_1212 u_d_yards12 u_d_paces12 u_d_stuck12 u_d_hirers12 u_d_places12 u_d_cameAt12 u_d_cooked12 u_tw_412 u_tw_stack12 u_tw_facts12 r12 => rc (n + 1) u_tw_412 u_tw_stack12 u_tw_facts12 u_d_712 u_d_812 u_d_912 u_d_1012 u_d_1112 u_d_1212 u_d_yards12 u_d_paces12 u_d_stuck12 u_d_hirers12 u_d_places12 u_d_cameAt12 u_d_cooked12) = (i1, i2, i3, i4, i5, b6, f1, f2, f3, f4, f5, f6, f7, w1, w2, w3, r) ∧ bn13 (fX9_passes (-1) sup k9 o9 p9 c9 sn9 lf lt co kp kb ah ag su sb te tb bn vo s) (fun u_y_5124 u_y_kept24 u_y_keptBy24 u_y_ahead24 u_y_against24 u_y_sum24 u_y_sumBy24 u_y_term24 u_y_termBy24 u_y_byNot24 u_y_valueOf24 u_y_s24 r24 => rc' (n + 1) u_y_kept24 u_y_keptBy24 u_y_ahead24 u_y_against24 u_y_sum24 u_y_sumBy24 u_y_term24 u_y_termBy24 u_y_byNot24 u_y_valueOf24 u_y_5124 u_y_s24) = (0, cn', v1, v2, v3, v4, v5, v6, v7, v8, v9, v10, va_cpy (va_cpy s0 bf 0 0 46) s9 0 0 46, va_cpy s0 bf 0 0 46, r) := by
        obtain ⟨ins9, ni9, mi9, ta9, lc9, b6, y9, pc9, st9, hi9, pl9, ca9, ck9, wt9, ws9, wf9, v1, v2, v3, v4, v5, v6, v7, v8, v9, v10, s9, r, cn9, e1, e2, e3, _⟩ := ps2_ (wl := wl) (wc := wc) (lf := lf) (lt := lt) (co := co) (wt := wt) (ta := ta) (lc := lc) (ws := ws) (wf := wf) (kp := kp) (kb := kb) (ah := ah) (ag := ag) (su := su) (sb := sb) (te := te) (tb := tb) (bn := bn) (vo := vo) hT (by omega) hR
        rw [e1, bn17_, e2, bn13_]
        exact ih _ _ _ _ _ _ _ _ _ _ _ _ _ _ _ _ _ _ _ _ _ _ _ _ _ _ _ _ (by omega) (by omega) (by omega) (by omega) e3
      cases e : onR y i with
      | false =>
        rw [if_neg (by decide), show (!false) = true from rfl, if_pos rfl]
        exact go
      | true =>
        rw [if_pos rfl, show (!true) = false from rfl, if_neg (show ¬ (false = true) by decide)]
        by_cases d : y i = y j
        · rw [if_pos d, if_pos d, if_pos (by omega)]
          exact ⟨_, _, _, _, _, _, _, _, _, _, _, _, _, _, _, _, _, _, _, _, _, _, _, _, _, _, _, _, _, rfl, rfl⟩
        · rw [if_neg d, if_neg d]
          exact go
theorem cpy_fr {s0 bf s'' : Nat → Int32} : ∀ j, j < 46 → s0 j = va_cpy (va_cpy s0 bf 0 0 46) s'' 0 0 46 j := fun j hj => by rw [cpy_lt hj, cpy_lt hj]
set_option maxHeartbeats 4000000 in
theorem wh2_ {g ns wl : Nat} {be ho : Int32} {ki ty tp sk snw sup k9 o9 p9 c9 sn9 wc lf lt co : Nat → Int32} (hT : TQ2 g ns be ho ki ty tp sk snw sup k9 o9 p9 c9 sn9) {B wt i : Nat} {q mo di dn dm dt dl cn : Int32} {sx : Bool} {dy dp ds dh dq dc dk y pc st hi pl ca ck ws wf kp kb ah ag su sb te tb bn vo s s0 bf : Nat → Int32} (hB : B + 400 ≤ 1000000) (hR : RE g B p9 di dn dm dy dp ds dh dq dc dk s0) (hf : ∀ j, j < 46 → s0 j = s j) (hq : q = nI i) (hi' : i < g) (hon : ¬ dy i = 0) : ∃ i1 i2 i3 i4 i5 b6 f1 f2 f3 f4 f5 f6 f7 w1 w2 w3 a cn' tt v1 v2 v3 v4 v5 v6 v7 v8 v9 v10 s'' r ds9, fX4_loseWheel q mo (va_cpy dy y 0 0 6) (va_cpy ds st 0 0 6) = (ds9, true) ∧ fX8_nextCook di dn dm dt dl sx (va_cpy dy y 0 0 6) (va_cpy dp pc 0 0 6) ds9 (va_cpy dh hi 0 0 6) (va_cpy dq pl 0 0 6) (va_cpy dc ca 0 0 6) (va_cpy dk ck 0 0 6) g ns be ho ki ty tp sk snw wl wt wc ws wf = (i1, i2, i3, i4, i5, b6, f1, f2, f3, f4, f5, f6, f7, w1, w2, w3, a) ∧ fX9_eats (-1) cn sup k9 o9 p9 c9 sn9 lf lt co kp kb ah ag su sb te tb bn vo (fX9_wheels q mo s) bf = (cn', a, tt, v1, v2, v3, v4, v5, v6, v7, v8, v9, v10, va_cpy bf s'' 0 0 46, r) := by
  have hg := hT.1.1
  have hC : RE g B p9 di dn dm (va_cpy dy y 0 0 6) (va_cpy dp pc 0 0 6) (va_cpy ds st 0 0 6) (va_cpy dh hi 0 0 6) (va_cpy dq pl 0 0 6) (va_cpy dc ca 0 0 6) (va_cpy dk ck 0 0 6) s := RE_cpy hg hf hR
  have hy0 : (va_cpy dy y 0 0 6) i = dy i := cpy_lt (by omega)
  have ho : fX4_isOnRoad q (va_cpy dy y 0 0 6) = true := by rw [hq, c_on (by omega) (hC.1.1 i (by omega))]; exact onR_t.mpr (by rw [hy0]; exact hon)
  have d22 : Int32.toNatClampNeg (22 + nI i) = 22 + i := by rw [show (22 : Int32) + nI i = nI (22 + i) from nI_add 22 i, nI_clamp (by omega)]
  have hs : (va_cpy ds st 0 0 6) i = s (22 + i) := (hC.1.2.1 i hi').2.2.2.1
  have hW : RE g B p9 di dn dm (va_cpy dy y 0 0 6) (va_cpy dp pc 0 0 6) (upd (va_cpy ds st 0 0 6) i (if (va_cpy ds st 0 0 6) i + mo < 60 then (va_cpy ds st 0 0 6) i + mo else 60)) (va_cpy dh hi 0 0 6) (va_cpy dq pl 0 0 6) (va_cpy dc ca 0 0 6) (va_cpy dk ck 0 0 6) (fX9_wheels q mo s) := by
    unfold fX9_wheels
    rw [hq, d22, ← hs]
    exact ⟨RD_wheel hi' hg hC.1, hC.2⟩
  obtain ⟨i1, i2, i3, i4, i5, b6, f1, f2, f3, f4, f5, f6, f7, w1, w2, w3, a, cn', tt, v1, v2, v3, v4, v5, v6, v7, v8, v9, v10, s'', r, e1, _, e2⟩ := nc_ (wl := wl) (wc := wc) (lf := lf) (lt := lt) (co := co) (wt := wt) (ta := dt) (lc := dl) (sx := sx) (ws := ws) (wf := wf) (cn := cn) (bf := bf) (kp := kp) (kb := kb) (ah := ah) (ag := ag) (su := su) (sb := sb) (te := te) (tb := tb) (bn := bn) (vo := vo) hT hB hW
  refine ⟨i1, i2, i3, i4, i5, b6, f1, f2, f3, f4, f5, f6, f7, w1, w2, w3, a, cn', tt, v1, v2, v3, v4, v5, v6, v7, v8, v9, v10, s'', r, _, ?_, e1, e2⟩
  unfold fX4_loseWheel
  rw [bn1_, ho, if_pos rfl, hq, nI_clamp (by omega)]
set_option maxHeartbeats 4000000 in
theorem de_lp {g ns wl : Nat} {be ho : Int32} {ki ty tp sk snw sup k9 o9 p9 c9 sn9 wc lf lt co : Nat → Int32} (hT : TQ2 g ns be ho ki ty tp sk snw sup k9 o9 p9 c9 sn9) {B i : Nat} {q di dn dm dt dl : Int32} {dy dp ds dh dq dc dk s0 bf : Nat → Int32} {z : Nat → Int32 → Int32 → Int32 → Int32 → Int32 → Bool → (Nat → Int32) → (Nat → Int32) → (Nat → Int32) → (Nat → Int32) → (Nat → Int32) → (Nat → Int32) → (Nat → Int32) → Nat → (Nat → Int32) → (Nat → Int32) → Int32 × Int32 × Int32 × Int32 × Int32 × Bool × (Nat → Int32) × (Nat → Int32) × (Nat → Int32) × (Nat → Int32) × (Nat → Int32) × (Nat → Int32) × (Nat → Int32) × Nat × (Nat → Int32) × (Nat → Int32) × Int32} {z' : Nat → (Nat → Int32) → (Nat → Int32) → (Nat → Int32) → (Nat → Int32) → (Nat → Int32) → (Nat → Int32) → (Nat → Int32) → (Nat → Int32) → (Nat → Int32) → (Nat → Int32) → Int32 → Int32 → Int32 → (Nat → Int32) → Int32 × Int32 × Int32 × Int32 × (Nat → Int32) × (Nat → Int32) × (Nat → Int32) × (Nat → Int32) × (Nat → Int32) × (Nat → Int32) × (Nat → Int32) × (Nat → Int32) × (Nat → Int32) × (Nat → Int32) × (Nat → Int32) × (Nat → Int32) × Int32} (hB : B + 400 ≤ 1000000) (hR : RE g B p9 di dn dm dy dp ds dh dq dc dk s0) (hq : q = nI i) (hi' : i < g) (hon : ¬ dy i = 0) : ∀ k k' n ins ni mi ta lc sx y pc st hi pl ca ck wt ws wf cn ct tt kp kb ah ag su sb te tb bn vo s, n ≤ 61 → 61 - n < k → 61 - n < k' → (∀ j, j < 46 → s0 j = s j) → ∃ i1 i2 i3 i4 i5 b6 f1 f2 f3 f4 f5 f6 f7 w1 w2 w3 cn' ct' tt' v1 v2 v3 v4 v5 v6 v7 v8 v9 v10 s9 bf' r, lp z (fX8_delay_B12a q di dn dm dt dl dy dp ds dh dq dc dk g ns be ho ki ty tp sk snw wl wc) k n ins ni mi ta lc sx y pc st hi pl ca ck wt ws wf = (i1, i2, i3, i4, i5, b6, f1, f2, f3, f4, f5, f6, f7, w1, w2, w3, r) ∧ lp z' (fX9_delay_B30a q (-1) sup k9 o9 p9 c9 sn9 lf lt co s0 bf) k' n kp kb ah ag su sb te tb bn vo cn ct tt s = (0, cn', ct', tt', v1, v2, v3, v4, v5, v6, v7, v8, v9, v10, s9, bf', r) := by
  intro k
  induction k with
  | zero => intro k' n ins ni mi ta lc sx y pc st hi pl ca ck wt ws wf cn ct tt kp kb ah ag su sb te tb bn vo s _ h; exact absurd h (Nat.not_lt_zero _)
  | succ k ih =>
    intro k' n ins ni mi ta lc sx y pc st hi pl ca ck wt ws wf cn ct tt kp kb ah ag su sb te tb bn vo s hn hk hk' hf
    obtain ⟨k', rfl⟩ : ∃ q, k' = q + 1 := ⟨k' - 1, by omega⟩
    show ∃ i1 i2 i3 i4 i5 b6 f1 f2 f3 f4 f5 f6 f7 w1 w2 w3 cn' ct' tt' v1 v2 v3 v4 v5 v6 v7 v8 v9 v10 s9 bf' r, fX8_delay_B12a q di dn dm dt dl dy dp ds dh dq dc dk g ns be ho ki ty tp sk snw wl wc (lp z (fX8_delay_B12a q di dn dm dt dl dy dp ds dh dq dc dk g ns be ho ki ty tp sk snw wl wc) k) n ins ni mi ta lc sx y pc st hi pl ca ck wt ws wf = (i1, i2, i3, i4, i5, b6, f1, f2, f3, f4, f5, f6, f7, w1, w2, w3, r) ∧ fX9_delay_B30a q (-1) sup k9 o9 p9 c9 sn9 lf lt co s0 bf (lp z' (fX9_delay_B30a q (-1) sup k9 o9 p9 c9 sn9 lf lt co s0 bf) k') n kp kb ah ag su sb te tb bn vo cn ct tt s = (0, cn', ct', tt', v1, v2, v3, v4, v5, v6, v7, v8, v9, v10, s9, bf', r)
    have ih := ih k' (n + 1)
    generalize lp z (fX8_delay_B12a q di dn dm dt dl dy dp ds dh dq dc dk g ns be ho ki ty tp sk snw wl wc) k = rc at ih ⊢
    generalize lp z' (fX9_delay_B30a q (-1) sup k9 o9 p9 c9 sn9 lf lt co s0 bf) k' = rc' at ih ⊢
    unfold fX8_delay_B12a fX9_delay_B30a fX4_copyFrom
    by_cases c : 60 < n
    · rw [if_pos c, if_pos (by omega)]
      exact ⟨_, _, _, _, _, _, _, _, _, _, _, _, _, _, _, _, _, _, _, _, _, _, _, _, _, _, _, _, _, _, _, _, rfl, rfl⟩
    · rw [if_neg c, if_neg (by omega)]
      obtain ⟨i1, i2, i3, i4, i5, b6, f1, f2, f3, f4, f5, f6, f7, w1, w2, w3, a, cn', tt', v1, v2, v3, v4, v5, v6, v7, v8, v9, v10, s'', r, ds9, e0, e1, e2⟩ := wh2_ (wl := wl) (wc := wc) (lf := lf) (lt := lt) (co := co) (wt := wt) (mo := nI n) (dt := dt) (dl := dl) (sx := sx) (ws := ws) (wf := wf) (cn := cn) (bf := va_cpy s0 bf 0 0 46) (y := y) (pc := pc) (st := st) (hi := hi) (pl := pl) (ca := ca) (ck := ck) (kp := kp) (kb := kb) (ah := ah) (ag := ag) (su := su) (sb := sb) (te := te) (tb := tb) (bn := bn) (vo := vo) hT hB hR hf hq hi' hon
      rw [bn12_, e0, bn2_, e1, bn17_, bn1_, e2, bn15_]
      by_cases d : a = q
      · rw [if_pos d, if_pos d]
        exact ⟨_, _, _, _, _, _, _, _, _, _, _, _, _, _, _, _, _, _, _, _, _, _, _, _, _, _, _, _, _, _, _, _, rfl, rfl⟩
      · rw [if_neg d, if_neg d]
        exact ih _ _ _ _ _ _ _ _ _ _ _ _ _ _ _ _ _ _ _ _ _ _ _ _ _ _ _ _ _ _ (by omega) (by omega) (by omega) cpy_fr
