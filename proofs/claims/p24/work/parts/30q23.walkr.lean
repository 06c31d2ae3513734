/-! a minute of the reference: all go on, then whoever is in is counted -/
theorem upd_same {f : Nat → Int32} {k : Nat} {v : Int32} (h : v = f k) : upd f k v = f := by
  funext i
  by_cases e : i = k
  · rw [e, upd_e]; exact h
  · rw [upd_n e]
def SS (a b : Nat) (N M f : Nat → Int32) (q : Nat) : Nat → Int32 := fun j => if a ≤ j ∧ j < a + q then N (j - a) else if b ≤ j ∧ j < b + q then M (j - b) else f j
theorem SS_0 {a b : Nat} {N M f : Nat → Int32} : SS a b N M f 0 = f := by
  funext j
  unfold SS
  rw [if_neg (by omega), if_neg (by omega)]
theorem SS_a {a b q i : Nat} {N M f : Nat → Int32} (h : i < q) : SS a b N M f q (a + i) = N i := by
  unfold SS
  rw [if_pos (by omega), show a + i - a = i by omega]
theorem SS_b {a b q i : Nat} {N M f : Nat → Int32} (hq : q ≤ 6) (hab : a + 6 ≤ b) (h : i < q) : SS a b N M f q (b + i) = M i := by
  unfold SS
  rw [if_neg (by omega), if_pos (by omega), show b + i - b = i by omega]
theorem SS_n {a b q j : Nat} {N M f : Nat → Int32} (h1 : ¬ (a ≤ j ∧ j < a + q)) (h2 : ¬ (b ≤ j ∧ j < b + q)) : SS a b N M f q j = f j := by
  unfold SS
  rw [if_neg h1, if_neg h2]
theorem SS_s {a b q : Nat} {N M f : Nat → Int32} (hq : q < 6) (hab : a + 6 ≤ b) : SS a b N M f (q + 1) = upd (upd (SS a b N M f q) (a + q) (N q)) (b + q) (M q) := by
  funext j
  by_cases e1 : j = b + q
  · rw [e1, upd_e, SS_b (by omega) hab (by omega)]
  · rw [upd_n e1]
    by_cases e2 : j = a + q
    · rw [e2, upd_e, SS_a (by omega)]
    · rw [upd_n e2]
      unfold SS
      by_cases a1 : a ≤ j ∧ j < a + q
      · rw [if_pos a1, if_pos (by omega)]
      · rw [if_neg a1, if_neg (by omega)]
        by_cases b1 : b ≤ j ∧ j < b + q
        · rw [if_pos b1, if_pos (by omega)]
        · rw [if_neg b1, if_neg (by omega)]
set_option maxHeartbeats 2000000 in
theorem go_1 {g : Nat} {be sn sNow ins : Int32} {y st pc ki hi sup k9 p9 sn9 s : Nat → Int32} {hb : Nat → Bool} (hg : g ≤ 6) (hs : sup 0 = nI g) (hbe : sup 1 = be) (hy : ∀ i, i < 6 → 0 ≤ Int32.toInt (y i)) (hys : ∀ i, i < g → y i = s (4 + i)) (hst : ∀ i, i < g → st i = s (22 + i)) (hpc : ∀ i, i < g → pc i = (if p9 i + s (28 + i) < 40 then p9 i + s (28 + i) else 40)) (hk : ∀ i, i < g → ki i = k9 i) (hins : ins = nI (g - cnt (onR y) g)) (hhr : ∀ q, q < g → (hi q = -1 ∧ s (34 + q) = 0 ∨ ∃ j, j < g ∧ hi q = nI j ∧ s (34 + q) = nI (j + 1))) (hsn : (if (0 : Int32) ≤ sNow then sNow else fX9_snowOf (s 1) sup sn9) = sn) (hhb : ∀ i, i < g → onR y i = true → hb i = hold g y ki hi ins i) {q : Nat} (hq : q < g) (hon : onR y q = true) : fX9_goes (nI q) (nI (BS (onR y) g)) sNow sup k9 p9 sn9 (SS 4 22 (NY be sn hb y st pc) (NS y st) s q) = (SS 4 22 (NY be sn hb y st pc) (NS y st) s (q + 1)) := by
  have c4 : (4 : Int32) + nI q = nI (4 + q) := nI_add 4 q
  have c22 : (22 : Int32) + nI q = nI (22 + q) := nI_add 22 q
  have c28 : (28 : Int32) + nI q = nI (28 + q) := nI_add 28 q
  have d4 : Int32.toNatClampNeg (nI (4 + q)) = 4 + q := nI_clamp (by omega)
  have d22 : Int32.toNatClampNeg (nI (22 + q)) = 22 + q := nI_clamp (by omega)
  have d28 : Int32.toNatClampNeg (nI (28 + q)) = 28 + q := nI_clamp (by omega)
  have dq : Int32.toNatClampNeg (nI q) = q := nI_clamp (by omega)
  have v4 : (SS 4 22 (NY be sn hb y st pc) (NS y st) s q) (4 + q) = y q := by rw [SS_n (by omega) (by omega), hys q hq]
  have v22 : (SS 4 22 (NY be sn hb y st pc) (NS y st) s q) (22 + q) = st q := by rw [SS_n (by omega) (by omega), hst q hq]
  have v28 : (SS 4 22 (NY be sn hb y st pc) (NS y st) s q) (28 + q) = s (28 + q) := SS_n (by omega) (by omega)
  have v34 : (SS 4 22 (NY be sn hb y st pc) (NS y st) s q) (34 + q) = s (34 + q) := SS_n (by omega) (by omega)
  have v1 : (SS 4 22 (NY be sn hb y st pc) (NS y st) s q) 1 = s 1 := SS_n (by omega) (by omega)
  have hh : fX9_holds (nI q) (nI (BS (onR y) g)) sup k9 (SS 4 22 (NY be sn hb y st pc) (NS y st) s q) = hold g y ki hi ins q := holds_ hg hs hq hy hk hins (by rw [v34]; exact hhr q hq)
  have hp : fX9_paceOf (nI q) p9 (SS 4 22 (NY be sn hb y st pc) (NS y st) s q) = pc q := by
    unfold fX9_paceOf
    rw [c28, d28, dq, v28]; exact (hpc q hq).symm
  have st1 := SS_s (a := 4) (b := 22) (N := (NY be sn hb y st pc)) (M := (NS y st)) (f := s) (q := q) (by omega) (by decide)
  unfold fX9_goes
  rw [c22, d22, v22]
  by_cases h0 : st q ≤ 0
  · have eS : NS y st q = (SS 4 22 (NY be sn hb y st pc) (NS y st) s q) (22 + q) := by rw [v22]; unfold NS; rw [if_pos hon, if_pos h0]
    have eY : (NY be sn hb y st pc) q = tgt be sn (hold g y ki hi ins q) (y q) (pc q) := by unfold NY; rw [if_pos hon, if_pos h0, hhb q hq hon]
    have fin : ∀ r, r = sn → fX9_goes_J56a (nI q) (nI (BS (onR y) g)) sup k9 (SS 4 22 (NY be sn hb y st pc) (NS y st) s q) (pc q) r = (SS 4 22 (NY be sn hb y st pc) (NS y st) s (q + 1)) := by
      intro r hr
      unfold fX9_goes_J56a fX9_goes_J91a
      rw [bn1_, hh, c4, d4, v4, show Int32.toNatClampNeg 1 = 1 by decide, hbe, hr, st1]
      rw [upd_same (f := upd (SS 4 22 (NY be sn hb y st pc) (NS y st) s q) (4 + q) ((NY be sn hb y st pc) q)) (k := 22 + q) (v := NS y st q) (by rw [upd_n (by omega)]; exact eS), eY]
      unfold tgt nyv
      cases hold g y ki hi ins q with
      | true => rw [if_pos rfl, if_pos rfl]
      | false => rw [if_neg (show ¬ (false = true) by decide), if_neg (show ¬ (false = true) by decide)]
    rw [if_pos h0, bn1_, hp]
    by_cases hn : (0 : Int32) ≤ sNow
    · rw [if_pos hn] at hsn ⊢
      exact fin _ hsn
    · rw [if_neg hn] at hsn ⊢
      rw [bn1_, show Int32.toNatClampNeg 1 = 1 by decide, v1]
      exact fin _ hsn
  · have eY : (NY be sn hb y st pc) q = (SS 4 22 (NY be sn hb y st pc) (NS y st) s q) (4 + q) := by rw [v4]; unfold NY; rw [if_pos hon, if_neg h0]
    have eS : NS y st q = st q - 1 := by unfold NS; rw [if_pos hon, if_neg h0]
    rw [if_neg h0, st1, upd_same (f := (SS 4 22 (NY be sn hb y st pc) (NS y st) s q)) (k := 4 + q) (v := (NY be sn hb y st pc) q) eY, eS]
set_option maxHeartbeats 2000000 in
theorem ph_1 {g : Nat} {be sn sNow ins : Int32} {y st pc ki hi sup k9 o9 p9 c9 sn9 lf lt co kp kb ah ag su sb te tb bn vo s : Nat → Int32} {hb : Nat → Bool} {z : Nat → (Nat → Int32) → Int32 × (Nat → Int32) × (Nat → Int32) × (Nat → Int32) × (Nat → Int32) × (Nat → Int32) × (Nat → Int32) × (Nat → Int32) × (Nat → Int32) × (Nat → Int32) × (Nat → Int32) × (Nat → Int32) × Int32} (hg : g ≤ 6) (hs : sup 0 = nI g) (hbe : sup 1 = be) (hy : ∀ i, i < 6 → 0 ≤ Int32.toInt (y i)) (hys : ∀ i, i < g → y i = s (4 + i)) (hst : ∀ i, i < g → st i = s (22 + i)) (hpc : ∀ i, i < g → pc i = (if p9 i + s (28 + i) < 40 then p9 i + s (28 + i) else 40)) (hk : ∀ i, i < g → ki i = k9 i) (hins : ins = nI (g - cnt (onR y) g)) (hhr : ∀ q, q < g → (hi q = -1 ∧ s (34 + q) = 0 ∨ ∃ j, j < g ∧ hi q = nI j ∧ s (34 + q) = nI (j + 1))) (hsn : (if (0 : Int32) ≤ sNow then sNow else fX9_snowOf (s 1) sup sn9) = sn) (hhb : ∀ i, i < g → onR y i = true → hb i = hold g y ki hi ins i) : ∀ k q, q ≤ g → 7 - q < k → lp z (fX9_passes_B24a sNow sup k9 o9 p9 c9 sn9 lf lt co kp kb ah ag su sb te tb bn vo (nI (BS (onR y) g)) (nI (cnt (onR y) g))) k q (SS 4 22 (NY be sn hb y st pc) (NS y st) s q) = lp (fun _ _ _ _ => ((0 : Int32), (fun _ => 0), (fun _ => 0), (fun _ => 0), (fun _ => 0), (fun _ => 0), (fun _ => 0), (fun _ => 0), (fun _ => 0), (fun _ => 0), (fun _ => 0), (fun _ => 0), (0 : Int32))) (fX9_passes_B57a sup k9 o9 c9 lf lt co kp kb ah ag su sb te tb bn vo (nI (BS (onR y) g))) ((6 + 1 - 0) + 1) (nI g - nI (cnt (onR y) g)) 0 (0 : Int32) (SS 4 22 (NY be sn hb y st pc) (NS y st) s g) := by
  intro k
  induction k with
  | zero => intro q _ h; exact absurd h (Nat.not_lt_zero _)
  | succ k ih =>
    intro q hq hk'
    show fX9_passes_B24a sNow sup k9 o9 p9 c9 sn9 lf lt co kp kb ah ag su sb te tb bn vo (nI (BS (onR y) g)) (nI (cnt (onR y) g)) (lp z (fX9_passes_B24a sNow sup k9 o9 p9 c9 sn9 lf lt co kp kb ah ag su sb te tb bn vo (nI (BS (onR y) g)) (nI (cnt (onR y) g))) k) q (SS 4 22 (NY be sn hb y st pc) (NS y st) s q) = _
    have ih := ih (q + 1)
    generalize lp z (fX9_passes_B24a sNow sup k9 o9 p9 c9 sn9 lf lt co kp kb ah ag su sb te tb bn vo (nI (BS (onR y) g)) (nI (cnt (onR y) g))) k = rc at ih ⊢
    unfold fX9_passes_B24a fX9_passes_J49a
    rw [show Int32.toNatClampNeg 0 = 0 by decide, hs]
    by_cases c : g ≤ q
    · rw [if_pos ((nI_leI (by omega) (by omega)).mpr c), show q = g by omega]
    · have ih := ih (by omega) (by omega)
      have hbit := (BS_bit (p := onR y) hg (show q < g by omega)).1
      rw [if_neg (fun z => c ((nI_leI (a := g) (b := q) (by omega) (by omega)).mp z))]
      cases e1 : onR y q with
      | true =>
        rw [if_pos (hbit.mpr e1), bn1_, go_1 hg hs hbe hy hys hst hpc hk hins hhr hsn hhb (by omega) e1]
        exact ih
      | false =>
        rw [if_neg (fun z => by rw [hbit.mp z] at e1; exact Bool.noConfusion e1)]
        have st1 := SS_s (a := 4) (b := 22) (N := (NY be sn hb y st pc)) (M := (NS y st)) (f := s) (q := q) (by omega) (by decide)
        rw [upd_same (f := (SS 4 22 (NY be sn hb y st pc) (NS y st) s q)) (k := 4 + q) (v := (NY be sn hb y st pc) q) (by rw [SS_n (by omega) (by omega), ← hys q (by omega)]; unfold NY; rw [if_neg (by rw [e1]; decide)]), upd_same (f := (SS 4 22 (NY be sn hb y st pc) (NS y st) s q)) (k := 22 + q) (v := NS y st q) (by rw [SS_n (by omega) (by omega), ← hst q (by omega)]; unfold NS; rw [if_neg (by rw [e1]; decide)])] at st1
        rw [← st1]
        exact st1 ▸ ih
set_option maxHeartbeats 2000000 in
theorem ph_2 {g m0 : Nat} {be sn : Int32} {y st pc sup k9 o9 c9 lf lt co kp kb ah ag su sb te tb bn vo s : Nat → Int32} {hb : Nat → Bool} {z : Int32 → Nat → Int32 → (Nat → Int32) → Int32 × (Nat → Int32) × (Nat → Int32) × (Nat → Int32) × (Nat → Int32) × (Nat → Int32) × (Nat → Int32) × (Nat → Int32) × (Nat → Int32) × (Nat → Int32) × (Nat → Int32) × (Nat → Int32) × Int32} (hg : g ≤ 6) (hs : sup 0 = nI g) (rc0 : Int32 → Nat → Int32 → (Nat → Int32) → Int32 × (Nat → Int32) × (Nat → Int32) × (Nat → Int32) × (Nat → Int32) × (Nat → Int32) × (Nat → Int32) × (Nat → Int32) × (Nat → Int32) × (Nat → Int32) × (Nat → Int32) × (Nat → Int32) × Int32) : ∀ k q, q ≤ g → 7 - q < k → lp z (fX9_passes_B57a sup k9 o9 c9 lf lt co kp kb ah ag su sb te tb bn vo (nI (BS (onR y) g))) k (nI (m0 + cnt (CM be sn hb y st pc) q)) q (nI (BS (CM be sn hb y st pc) q)) (SS 10 16 (PLf m0 (fun i => s (10 + i)) be sn hb y st pc) (CAf (s 1) (fun i => s (16 + i)) be sn hb y st pc) (SS 4 22 (NY be sn hb y st pc) (NS y st) s g) q) = fX9_passes_B57a sup k9 o9 c9 lf lt co kp kb ah ag su sb te tb bn vo (nI (BS (onR y) g)) rc0 (nI (m0 + cnt (CM be sn hb y st pc) g)) g (nI (BS (CM be sn hb y st pc) g)) (SS 10 16 (PLf m0 (fun i => s (10 + i)) be sn hb y st pc) (CAf (s 1) (fun i => s (16 + i)) be sn hb y st pc) (SS 4 22 (NY be sn hb y st pc) (NS y st) s g) g) := by
  intro k
  induction k with
  | zero => intro q _ h; exact absurd h (Nat.not_lt_zero _)
  | succ k ih =>
    intro q hq hk'
    show fX9_passes_B57a sup k9 o9 c9 lf lt co kp kb ah ag su sb te tb bn vo (nI (BS (onR y) g)) (lp z (fX9_passes_B57a sup k9 o9 c9 lf lt co kp kb ah ag su sb te tb bn vo (nI (BS (onR y) g))) k) (nI (m0 + cnt (CM be sn hb y st pc) q)) q (nI (BS (CM be sn hb y st pc) q)) (SS 10 16 (PLf m0 (fun i => s (10 + i)) be sn hb y st pc) (CAf (s 1) (fun i => s (16 + i)) be sn hb y st pc) (SS 4 22 (NY be sn hb y st pc) (NS y st) s g) q) = _
    have ih := ih (q + 1)
    generalize lp z (fX9_passes_B57a sup k9 o9 c9 lf lt co kp kb ah ag su sb te tb bn vo (nI (BS (onR y) g))) k = rc at ih ⊢
    by_cases c : g ≤ q
    · have e : q = g := by omega
      rw [e]
      unfold fX9_passes_B57a
      rw [show Int32.toNatClampNeg 0 = 0 by decide, hs, if_pos ((nI_leI (a := g) (b := g) (by omega) (by omega)).mpr (Nat.le_refl g)), if_pos ((nI_leI (a := g) (b := g) (by omega) (by omega)).mpr (Nat.le_refl g))]
    · have ih := ih (by omega) (by omega)
      rw [← ih]
      generalize fX9_passes_B57a sup k9 o9 c9 lf lt co kp kb ah ag su sb te tb bn vo (nI (BS (onR y) g)) rc0 (nI (m0 + cnt (CM be sn hb y st pc) g)) g (nI (BS (CM be sn hb y st pc) g)) (SS 10 16 (PLf m0 (fun i => s (10 + i)) be sn hb y st pc) (CAf (s 1) (fun i => s (16 + i)) be sn hb y st pc) (SS 4 22 (NY be sn hb y st pc) (NS y st) s g) g) = R at ih
      have hbit := (BS_bit (p := onR y) hg (show q < g by omega)).2
      have st2 := SS_s (a := 10) (b := 16) (N := (PLf m0 (fun i => s (10 + i)) be sn hb y st pc)) (M := (CAf (s 1) (fun i => s (16 + i)) be sn hb y st pc)) (f := (SS 4 22 (NY be sn hb y st pc) (NS y st) s g)) (q := q) (by omega) (by decide)
      have v10 : (SS 10 16 (PLf m0 (fun i => s (10 + i)) be sn hb y st pc) (CAf (s 1) (fun i => s (16 + i)) be sn hb y st pc) (SS 4 22 (NY be sn hb y st pc) (NS y st) s g) q) (10 + q) = s (10 + q) := by rw [SS_n (by omega) (by omega), SS_n (by omega) (by omega)]
      have v16 : (SS 10 16 (PLf m0 (fun i => s (10 + i)) be sn hb y st pc) (CAf (s 1) (fun i => s (16 + i)) be sn hb y st pc) (SS 4 22 (NY be sn hb y st pc) (NS y st) s g) q) (16 + q) = s (16 + q) := by rw [SS_n (by omega) (by omega), SS_n (by omega) (by omega)]
      have v4 : (SS 10 16 (PLf m0 (fun i => s (10 + i)) be sn hb y st pc) (CAf (s 1) (fun i => s (16 + i)) be sn hb y st pc) (SS 4 22 (NY be sn hb y st pc) (NS y st) s g) q) (4 + q) = (NY be sn hb y st pc) q := by rw [SS_n (by omega) (by omega), SS_a (by omega)]
      have v1 : (SS 10 16 (PLf m0 (fun i => s (10 + i)) be sn hb y st pc) (CAf (s 1) (fun i => s (16 + i)) be sn hb y st pc) (SS 4 22 (NY be sn hb y st pc) (NS y st) s g) q) 1 = s 1 := by rw [SS_n (by omega) (by omega), SS_n (by omega) (by omega)]
      have same : (CM be sn hb y st pc) q = false → (rc (nI (m0 + cnt (CM be sn hb y st pc) q)) (q + 1) (nI (BS (CM be sn hb y st pc) q)) (SS 10 16 (PLf m0 (fun i => s (10 + i)) be sn hb y st pc) (CAf (s 1) (fun i => s (16 + i)) be sn hb y st pc) (SS 4 22 (NY be sn hb y st pc) (NS y st) s g) q) = rc (nI (m0 + cnt (CM be sn hb y st pc) (q + 1))) (q + 1) (nI (BS (CM be sn hb y st pc) (q + 1))) (SS 10 16 (PLf m0 (fun i => s (10 + i)) be sn hb y st pc) (CAf (s 1) (fun i => s (16 + i)) be sn hb y st pc) (SS 4 22 (NY be sn hb y st pc) (NS y st) s g) (q + 1))) := by
        intro e
        rw [upd_same (f := (SS 10 16 (PLf m0 (fun i => s (10 + i)) be sn hb y st pc) (CAf (s 1) (fun i => s (16 + i)) be sn hb y st pc) (SS 4 22 (NY be sn hb y st pc) (NS y st) s g) q)) (k := 10 + q) (v := (PLf m0 (fun i => s (10 + i)) be sn hb y st pc) q) (by rw [v10]; unfold PLf; rw [if_neg (by rw [e]; decide)]), upd_same (f := (SS 10 16 (PLf m0 (fun i => s (10 + i)) be sn hb y st pc) (CAf (s 1) (fun i => s (16 + i)) be sn hb y st pc) (SS 4 22 (NY be sn hb y st pc) (NS y st) s g) q)) (k := 16 + q) (v := (CAf (s 1) (fun i => s (16 + i)) be sn hb y st pc) q) (by rw [v16]; unfold CAf; rw [if_neg (by rw [e]; decide)])] at st2
        rw [cnt_s0 e, BS_s0 e, st2]
      unfold fX9_passes_B57a fX9_passes_J126a
      rw [show Int32.toNatClampNeg 0 = 0 by decide, hs, if_neg (fun z => c ((nI_leI (a := g) (b := q) (by omega) (by omega)).mp z))]
      cases e1 : onR y q with
      | false =>
        rw [if_pos (hbit.mpr e1)]
        exact same (by unfold CM; rw [e1, Bool.false_and])
      | true =>
        rw [if_neg (fun z => by rw [hbit.mp z] at e1; exact Bool.noConfusion e1), bn1_, r_in (by omega)]
        have ei : ipr (SS 10 16 (PLf m0 (fun i => s (10 + i)) be sn hb y st pc) (CAf (s 1) (fun i => s (16 + i)) be sn hb y st pc) (SS 4 22 (NY be sn hb y st pc) (NS y st) s g) q) q = decide (¬ (NY be sn hb y st pc) q = 0) := by unfold ipr; rw [v4]
        rw [ei]
        by_cases e2 : (NY be sn hb y st pc) q = 0
        · have eC : (CM be sn hb y st pc) q = true := by unfold CM; rw [e1, decide_eq_true e2]; rfl
          rw [decide_eq_false (fun z => z e2), show (!false) = true from rfl, if_pos rfl, nI_clamp (by omega), nI_clamp (by omega), show Int32.toNatClampNeg 1 = 1 by decide, upd_n (by omega), v1, BS_s1 (by omega) eC, cnt_s1 eC, show nI (m0 + cnt (CM be sn hb y st pc) q) + 1 = nI (m0 + (cnt (CM be sn hb y st pc) q + 1)) from nI_add (m0 + cnt (CM be sn hb y st pc) q) 1, st2]
          rw [show (PLf m0 (fun i => s (10 + i)) be sn hb y st pc) q = nI (m0 + cnt (CM be sn hb y st pc) q) from by unfold PLf; rw [if_pos eC], show (CAf (s 1) (fun i => s (16 + i)) be sn hb y st pc) q = s 1 from by unfold CAf; rw [if_pos eC]]
        · rw [decide_eq_true e2, show (!true) = false from rfl, if_neg (by decide)]
          exact same (by unfold CM; rw [e1, decide_eq_false e2]; rfl)
set_option maxHeartbeats 2000000 in
theorem ps_ {g m0 : Nat} {be sn sNow ins : Int32} {y st pc ki hi sup k9 o9 p9 c9 sn9 lf lt co kp kb ah ag su sb te tb bn vo s : Nat → Int32} {hb : Nat → Bool} (rc0 : Int32 → Nat → Int32 → (Nat → Int32) → Int32 × (Nat → Int32) × (Nat → Int32) × (Nat → Int32) × (Nat → Int32) × (Nat → Int32) × (Nat → Int32) × (Nat → Int32) × (Nat → Int32) × (Nat → Int32) × (Nat → Int32) × (Nat → Int32) × Int32) (hg : g ≤ 6) (hs : sup 0 = nI g) (hbe : sup 1 = be) (hy : ∀ i, i < 6 → 0 ≤ Int32.toInt (y i)) (hys : ∀ i, i < g → y i = s (4 + i)) (hst : ∀ i, i < g → st i = s (22 + i)) (hpc : ∀ i, i < g → pc i = (if p9 i + s (28 + i) < 40 then p9 i + s (28 + i) else 40)) (hk : ∀ i, i < g → ki i = k9 i) (hins : ins = nI (g - cnt (onR y) g)) (hhr : ∀ q, q < g → (hi q = -1 ∧ s (34 + q) = 0 ∨ ∃ j, j < g ∧ hi q = nI j ∧ s (34 + q) = nI (j + 1))) (hsn : (if (0 : Int32) ≤ sNow then sNow else fX9_snowOf (s 1) sup sn9) = sn) (hhb : ∀ i, i < g → onR y i = true → hb i = hold g y ki hi ins i) (hm : m0 = g - cnt (onR y) g) : fX9_passes sNow sup k9 o9 p9 c9 sn9 lf lt co kp kb ah ag su sb te tb bn vo s = fX9_passes_B57a sup k9 o9 c9 lf lt co kp kb ah ag su sb te tb bn vo (nI (BS (onR y) g)) rc0 (nI (m0 + cnt (CM be sn hb y st pc) g)) g (nI (BS (CM be sn hb y st pc) g)) (SS 10 16 (PLf m0 (fun i => s (10 + i)) be sn hb y st pc) (CAf (s 1) (fun i => s (16 + i)) be sn hb y st pc) (SS 4 22 (NY be sn hb y st pc) (NS y st) s g) g) := by
  have hip : BS (ipr s) g = BS (onR y) g := BS_congr g (fun i hi => by unfold ipr onR; rw [hys i hi])
  unfold fX9_passes
  rw [bn1_, bn1_, on_ hg hs, hip, bits_ _ (BS_64 hg), cnt_6 hg]
  have h1 := ph_1 (o9 := o9) (c9 := c9) (lf := lf) (lt := lt) (co := co) (kp := kp) (kb := kb) (ah := ah) (ag := ag) (su := su) (sb := sb) (te := te) (tb := tb) (bn := bn) (vo := vo) (z := fun _ _ => ((0 : Int32), (fun _ => 0), (fun _ => 0), (fun _ => 0), (fun _ => 0), (fun _ => 0), (fun _ => 0), (fun _ => 0), (fun _ => 0), (fun _ => 0), (fun _ => 0), (fun _ => 0), (0 : Int32))) hg hs hbe hy hys hst hpc hk hins hhr hsn hhb ((6 + 1 - 0) + 1) 0 (by omega) (by omega)
  rw [SS_0] at h1
  rw [h1]
  have hc := cnt_le (p := onR y) g
  have e0 : nI g - nI (cnt (onR y) g) = nI (m0 + cnt (CM be sn hb y st pc) 0) := by
    rw [show m0 + cnt (CM be sn hb y st pc) 0 = m0 from rfl, hm]
    refine Int32.toInt_inj.mp ?_
    rw [tI_sub (nI_toInt (by omega)) (nI_toInt (by omega)) (by omega) (by omega), nI_toInt (by omega)]; omega
  have h2 := ph_2 (g := g) (m0 := m0) (be := be) (sn := sn) (y := y) (st := st) (pc := pc) (hb := hb) (s := s) (k9 := k9) (o9 := o9) (c9 := c9) (lf := lf) (lt := lt) (co := co) (kp := kp) (kb := kb) (ah := ah) (ag := ag) (su := su) (sb := sb) (te := te) (tb := tb) (bn := bn) (vo := vo) (z := (fun _ _ _ _ => ((0 : Int32), (fun _ => 0), (fun _ => 0), (fun _ => 0), (fun _ => 0), (fun _ => 0), (fun _ => 0), (fun _ => 0), (fun _ => 0), (fun _ => 0), (fun _ => 0), (fun _ => 0), (0 : Int32)))) hg hs rc0 ((6 + 1 - 0) + 1) 0 (by omega) (by omega)
  rw [SS_0] at h2
  rw [e0]
  exact h2
