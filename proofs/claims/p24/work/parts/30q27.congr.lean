/-! rows that are alike where it counts -/
def I9_fr (a b : Nat → Int32) : Prop := ∀ j, j < 46 → a j = b j
theorem I9_frR {a : Nat → Int32} : I9_fr a a := fun _ _ => rfl
theorem cpy_lt {f g : Nat → Int32} {n j : Nat} (h : j < n) : va_cpy f g 0 0 n j = f j := by
  unfold va_cpy
  rw [if_pos (by omega), show 0 + (j - 0) = j by omega]
theorem I9_frE {b x : Nat → Int32} : I9_fr (va_cpy b x 0 0 46) b := fun j hj => cpy_lt hj
theorem I9_frT {u s b : Nat → Int32} (h : I9_fr u (va_cpy s b 0 0 46)) : I9_fr u s := fun j hj => (h j hj).trans (cpy_lt hj)
theorem I9_frC {s b x : Nat → Int32} : I9_fr (va_cpy (va_cpy s b 0 0 46) x 0 0 46) s := fun j hj => (cpy_lt hj).trans (cpy_lt hj)
theorem onR_congr {g : Nat} {y y' : Nat → Int32} (h : ∀ i, i < g → y i = y' i) : cnt (onR y) g = cnt (onR y') g := cnt_congr g (fun i hi => by unfold onR; rw [h i hi])
theorem PI_congr {g m : Nat} {y y' pl pl' : Nat → Int32} (hg : g ≤ 6) (hy : ∀ i, i < 6 → y i = y' i) (hp : ∀ i, i < 6 → pl i = pl' i) (h : PI g m y pl) : PI g m y' pl' := by
  obtain ⟨h1, h2, h3, h4⟩ := h
  refine ⟨fun i hi => ?_, fun q hq z => ?_, fun q q' hq hq' z z' e => ?_, fun q hq h0 z => ?_⟩
  · obtain ⟨q, a1, a2, a3⟩ := h1 i hi
    exact ⟨q, a1, by rw [← hy q (by omega)]; exact a2, by rw [← hp q (by omega)]; exact a3⟩
  · obtain ⟨i, a1, a2⟩ := h2 q hq (by rw [hy q (by omega)]; exact z)
    exact ⟨i, a1, by rw [← hp q (by omega)]; exact a2⟩
  · exact h3 q q' hq hq' (by rw [hy q (by omega)]; exact z) (by rw [hy q' (by omega)]; exact z') (by rw [hp q (by omega), hp q' (by omega)]; exact e)
  · rw [← hp q hq]
    exact h4 q hq h0 (by rw [hy q hq]; exact z)
theorem RD_congr {g B : Nat} {p9 p9' : Nat → Int32} {ins ni mi : Int32} {y pc st hi pl ca ck s y' pc' st' hi' pl' ca' ck' s' : Nat → Int32} (hg : g ≤ 6) (hp : ∀ i, i < g → p9 i = p9' i) (hs : ∀ j, j < 46 → s j = s' j) (e1 : ∀ i, i < 6 → y i = y' i) (e2 : ∀ i, i < 6 → pc i = pc' i) (e3 : ∀ i, i < 6 → st i = st' i) (e4 : ∀ i, i < 6 → hi i = hi' i) (e5 : ∀ i, i < 6 → pl i = pl' i) (e6 : ∀ i, i < 6 → ca i = ca' i) (e7 : ∀ i, i < 6 → ck i = ck' i) (h : RD g B p9 ins ni mi y pc st hi pl ca ck s) : RD g B p9' ins ni mi y' pc' st' hi' pl' ca' ck' s' := by
  obtain ⟨r1, r2, r3, r4, r5, r6, r7, r8, r9, r10, r11, r12⟩ := h
  have ec := onR_congr (g := g) (y := y) (y' := y') (fun i hi => e1 i (by omega))
  refine ⟨fun i hi => by rw [← e1 i hi]; exact r1 i hi, fun i hi => ?_, fun q hq => ?_, by rw [← ec]; exact r4, by rw [← ec]; exact PI_congr hg e1 e5 r5, fun q a b => ?_, by rw [← hs 0 (by omega)]; exact r7, by rw [← hs 3 (by omega)]; exact r8, by rw [← hs 1 (by omega)]; exact r9, fun i hi => ?_, fun i hi => ?_, r12⟩
  · obtain ⟨a1, a2, a3, a4, a5, a6⟩ := r2 i hi
    rw [← e1 i (by omega), ← e5 i (by omega), ← e6 i (by omega), ← e3 i (by omega), ← e2 i (by omega), ← e7 i (by omega), ← hp i hi, ← hs (4 + i) (by omega), ← hs (10 + i) (by omega), ← hs (16 + i) (by omega), ← hs (22 + i) (by omega), ← hs (28 + i) (by omega), ← hs (40 + i) (by omega)]
    exact ⟨a1, a2, a3, a4, a5, a6⟩
  · rw [← e4 q (by omega), ← hs (34 + q) (by omega)]
    exact r3 q hq
  · rw [← e1 q b, ← e4 q b, ← e6 q b, ← e7 q b]
    exact r6 q a b
  · rw [← hs (28 + i) (by omega), ← hp i hi]
    exact r10 i hi
  · rw [← e7 i (by omega)]
    exact r11 i hi
theorem RD_mono {g B B' : Nat} {p9 : Nat → Int32} {ins ni mi : Int32} {y pc st hi pl ca ck s : Nat → Int32} (hB : B ≤ B') (h : RD g B p9 ins ni mi y pc st hi pl ca ck s) : RD g B' p9 ins ni mi y pc st hi pl ca ck s := by
  obtain ⟨r1, r2, r3, r4, r5, r6, r7, r8, r9, r10, r11, r12⟩ := h
  exact ⟨r1, r2, r3, r4, r5, r6, r7, r8, r9, r10, fun i hi => ⟨(r11 i hi).1, by have := (r11 i hi).2; omega⟩, ⟨r12.1, by have := r12.2; omega⟩⟩
theorem RD_fr {g B : Nat} {p9 : Nat → Int32} {ins ni mi : Int32} {y pc st hi pl ca ck s s' : Nat → Int32} (hg : g ≤ 6) (hs : I9_fr s' s) (h : RD g B p9 ins ni mi y pc st hi pl ca ck s) : RD g B p9 ins ni mi y pc st hi pl ca ck s' :=
  RD_congr hg (fun _ _ => rfl) (fun j hj => (hs j hj).symm) (fun _ _ => rfl) (fun _ _ => rfl) (fun _ _ => rfl) (fun _ _ => rfl) (fun _ _ => rfl) (fun _ _ => rfl) (fun _ _ => rfl) h
/-! answers that RD alone gives -/
theorem isG_ {g : Nat} {sup : Nat → Int32} {q : Int32} (hg : g ≤ 6) (hs : sup 0 = nI g) : fX8_isGuest q g = fX9_isGuest q sup ∧ (fX9_isGuest q sup = true ↔ ∃ i, i < g ∧ q = nI i) := by
  unfold fX8_isGuest fX8_isGuest_J19a fX9_isGuest fX9_isGuest_J18a
  rw [show Int32.toNatClampNeg 0 = 0 by decide, hs]
  refine ⟨rfl, ?_⟩
  by_cases c1 : q < 0
  · rw [if_pos c1]
    refine ⟨fun z => Bool.noConfusion z, fun ⟨i, a1, a2⟩ => ?_⟩
    rw [a2] at c1
    exact absurd c1 (nI_n0 (by omega))
  · rw [if_neg c1]
    rw [Int32.lt_iff_toInt_lt, show Int32.toInt 0 = 0 by decide] at c1
    by_cases c2 : nI g ≤ q
    · rw [if_pos c2]
      refine ⟨fun z => Bool.noConfusion z, fun ⟨i, a1, a2⟩ => ?_⟩
      rw [a2] at c2
      have := (nI_leI (a := g) (b := i) (by omega) (by omega)).mp c2
      omega
    · rw [if_neg c2]
      rw [Int32.le_iff_toInt_le, nI_toInt (by omega)] at c2
      exact ⟨fun _ => ⟨(Int32.toInt q).toNat, by omega, Int32.toInt_inj.mp (by rw [nI_toInt (by omega)]; omega)⟩, fun _ => rfl⟩
theorem near_lp {g : Nat} {ya : Int32} {y sup s : Nat → Int32} {z : Int32 → Nat → Int32} {z' : Int32 → Nat → Int32 × Int32} (hg : g ≤ 6) (hs : sup 0 = nI g) (hy : ∀ i, i < 6 → 0 ≤ Int32.toInt (y i)) (hys : ∀ i, i < g → y i = s (4 + i)) : ∀ k q b, q ≤ g → 7 - q < k → lp z' (fX9_near_B22a ya sup s) k b q = (0, lp z (fX4_onRoadWithin_B5a g ya y) k b q) := by
  intro k
  induction k with
  | zero => intro q b _ h; exact absurd h (Nat.not_lt_zero _)
  | succ k ih =>
    intro q b hq hk
    show fX9_near_B22a ya sup s (lp z' (fX9_near_B22a ya sup s) k) b q = (0, fX4_onRoadWithin_B5a g ya y (lp z (fX4_onRoadWithin_B5a g ya y) k) b q)
    have ih := ih (q + 1)
    generalize lp z' (fX9_near_B22a ya sup s) k = r1 at ih ⊢
    generalize lp z (fX4_onRoadWithin_B5a g ya y) k = r2 at ih ⊢
    unfold fX9_near_B22a fX9_near_J59a fX9_near_J60a fX4_onRoadWithin_B5a fX4_onRoadWithin_J38a
    rw [show Int32.toNatClampNeg 0 = 0 by decide, hs]
    by_cases c : g ≤ q
    · rw [if_pos ((nI_leI (by omega) (by omega)).mpr c), if_pos c]
    · have e0 : b ||| 0 = b := Int32.or_zero
      rw [if_neg (fun z => c ((nI_leI (a := g) (b := q) (by omega) (by omega)).mp z)), if_neg c, bn1_, bn1_, r_in (by omega), c_on (by omega) (hy q (by omega)), nI_clamp (n := 4 + q) (by omega), nI_clamp (n := q) (by omega), ← hys q (by omega)]
      have ei : ipr s q = onR y q := by unfold ipr onR; rw [hys q (by omega)]
      rw [ei]
      cases onR y q with
      | false =>
        rw [show (!false) = true from rfl, if_pos rfl, if_neg (by decide), e0]
        exact ih b (by omega) (by omega)
      | true =>
        rw [show (!true) = false from rfl, if_neg (by decide), if_pos rfl]
        by_cases d : ya < y q
        · rw [if_pos d, if_pos d, e0]
          exact ih b (by omega) (by omega)
        · rw [if_neg d, if_neg d]
          exact ih _ (by omega) (by omega)
theorem near_ {g : Nat} {ya : Int32} {y sup s : Nat → Int32} (hg : g ≤ 6) (hs : sup 0 = nI g) (hy : ∀ i, i < 6 → 0 ≤ Int32.toInt (y i)) (hys : ∀ i, i < g → y i = s (4 + i)) : (0, fX8_near ya g y) = fX9_near ya sup s := by
  unfold fX8_near fX9_near fX4_onRoadWithin
  simp only [bn1_]
  rw [wi_]
  by_cases c : fX9_within ya 0 300 = true
  · rw [if_pos c, if_pos c]
    exact (near_lp hg hs hy hys _ 0 0 (by omega) (by omega)).symm
  · rw [if_neg c, if_neg c]
