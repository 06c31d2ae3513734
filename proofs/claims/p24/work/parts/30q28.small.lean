/-! guest, held, fair; a wheel, running, hiring: by both -/
theorem ofN {v : Int32} {b : Nat} (h0 : 0 ≤ Int32.toInt v) (h1 : Int32.toInt v ≤ (b : Int)) (hb : b ≤ 1000000) : ∃ N : Nat, N ≤ b ∧ v = nI N := ⟨(Int32.toInt v).toNat, by omega, Int32.toInt_inj.mp (by rw [nI_toInt (by omega)]; omega)⟩
set_option maxHeartbeats 1000000 in
theorem guest_ {g B : Nat} {q wh : Int32} {ki sk sup k9 c9 p9 y pc st hi pl ca ck s : Nat → Int32} {ins ni mi : Int32} (hg : g ≤ 6) (hs : sup 0 = nI g) (hk : ∀ i, i < g → ki i = k9 i) (hc : ∀ i, i < g → sk i = c9 i) (hR : RD g B p9 ins ni mi y pc st hi pl ca ck s) : (0, fX8_guest q wh g ki sk y pc st hi pl ck) = fX9_guest q wh sup k9 p9 c9 s := by
  obtain ⟨r1, r2, r3, r4, r5, r6, r7, r8, r9, r10, r11, r12⟩ := hR
  obtain ⟨g1, g2⟩ := isG_ (q := q) hg hs
  unfold fX8_guest fX9_guest fX9_guest_J23a fX9_guest_J79a fX9_guest_J112a fX9_guest_J142a
  simp only [bn1_]
  rw [g1]
  by_cases hG : fX9_isGuest q sup = true
  · obtain ⟨i, hi', e⟩ := g2.mp hG
    subst e
    have f : ∀ a : Nat, a ≤ 40 → Int32.toNatClampNeg (nI a + nI i) = a + i := fun a ha => by rw [nI_add a i, nI_clamp (by omega)]
    have f4 : Int32.toNatClampNeg (4 + nI i) = 4 + i := f 4 (by decide)
    have f10 : Int32.toNatClampNeg (10 + nI i) = 10 + i := f 10 (by decide)
    have f22 : Int32.toNatClampNeg (22 + nI i) = 22 + i := f 22 (by decide)
    have f28 : Int32.toNatClampNeg (28 + nI i) = 28 + i := f 28 (by decide)
    have f34 : Int32.toNatClampNeg (34 + nI i) = 34 + i := f 34 (by decide)
    have f40 : Int32.toNatClampNeg (40 + nI i) = 40 + i := f 40 (by decide)
    obtain ⟨a1, a2, a3, a4, a5, a6⟩ := r2 i hi'
    unfold fX9_paceOf
    rw [if_pos hG, if_pos hG, nI_clamp (n := i) (by omega), f4, f10, f22, f28, f34, f40, hk i hi', a1, ← a5, hc i hi', a2, a4, a6]
    by_cases hw : fX9_within wh 0 7 = true
    · have hr := wi_t.mp hw
      rw [show Int32.toInt 0 = 0 by decide, show Int32.toInt 7 = 7 by decide] at hr
      obtain ⟨N, hN, hNe⟩ := ofN (b := 7) hr.1 hr.2 (by decide)
      rw [if_pos hw, hNe]
      rcases (show N = 0 ∨ N = 1 ∨ N = 2 ∨ N = 3 ∨ N = 4 ∨ N = 5 ∨ N = 6 ∨ N = 7 by omega) with e | e | e | e | e | e | e | e
      · subst e
        rw [if_pos (show nI 0 = 0 by decide), if_neg (show ¬ ((4 : Int32) ≤ nI 0) by decide), if_pos (show nI 0 = 0 by decide)]
      · subst e
        rw [if_neg (show ¬ (nI 1 = 0) by decide), if_pos (show nI 1 = 1 by decide), if_neg (show ¬ ((4 : Int32) ≤ nI 1) by decide), if_neg (show ¬ (nI 1 = 0) by decide), if_pos (show nI 1 = 1 by decide)]
      · subst e
        rw [if_neg (show ¬ (nI 2 = 0) by decide), if_neg (show ¬ (nI 2 = 1) by decide), if_pos (show nI 2 = 2 by decide), if_neg (show ¬ ((4 : Int32) ≤ nI 2) by decide), if_neg (show ¬ (nI 2 = 0) by decide), if_neg (show ¬ (nI 2 = 1) by decide), if_pos (show nI 2 = 2 by decide)]
      · subst e
        rw [if_neg (show ¬ (nI 3 = 0) by decide), if_neg (show ¬ (nI 3 = 1) by decide), if_neg (show ¬ (nI 3 = 2) by decide), if_pos (show nI 3 = 3 by decide), if_neg (show ¬ ((4 : Int32) ≤ nI 3) by decide), if_neg (show ¬ (nI 3 = 0) by decide), if_neg (show ¬ (nI 3 = 1) by decide), if_neg (show ¬ (nI 3 = 2) by decide)]
      · subst e
        rw [if_neg (show ¬ (nI 4 = 0) by decide), if_neg (show ¬ (nI 4 = 1) by decide), if_neg (show ¬ (nI 4 = 2) by decide), if_neg (show ¬ (nI 4 = 3) by decide), if_pos (show nI 4 = 4 by decide), if_pos (show (4 : Int32) ≤ nI 4 by decide), if_neg (show ¬ ((6 : Int32) ≤ nI 4) by decide), if_pos (show nI 4 = 4 by decide)]
      · subst e
        rw [if_neg (show ¬ (nI 5 = 0) by decide), if_neg (show ¬ (nI 5 = 1) by decide), if_neg (show ¬ (nI 5 = 2) by decide), if_neg (show ¬ (nI 5 = 3) by decide), if_neg (show ¬ (nI 5 = 4) by decide), if_pos (show nI 5 = 5 by decide), if_pos (show (4 : Int32) ≤ nI 5 by decide), if_neg (show ¬ ((6 : Int32) ≤ nI 5) by decide), if_neg (show ¬ (nI 5 = 4) by decide)]
      · subst e
        rw [if_neg (show ¬ (nI 6 = 0) by decide), if_neg (show ¬ (nI 6 = 1) by decide), if_neg (show ¬ (nI 6 = 2) by decide), if_neg (show ¬ (nI 6 = 3) by decide), if_neg (show ¬ (nI 6 = 4) by decide), if_neg (show ¬ (nI 6 = 5) by decide), if_pos (show nI 6 = 6 by decide), if_pos (show (4 : Int32) ≤ nI 6 by decide), if_pos (show (6 : Int32) ≤ nI 6 by decide), if_pos (show nI 6 = 6 by decide)]
        rcases r3 i hi' with ⟨b1, b2⟩ | ⟨j, b1, b2, b3⟩
        · rw [b1, b2]; rfl
        · rw [b2, b3, show nI (j + 1) - 1 = nI j from by
            refine Int32.toInt_inj.mp ?_
            rw [tI_sub (nI_toInt (by omega)) (show Int32.toInt 1 = 1 by decide) (by omega) (by omega), nI_toInt (by omega)]; omega]
      · subst e
        rw [if_neg (show ¬ (nI 7 = 0) by decide), if_neg (show ¬ (nI 7 = 1) by decide), if_neg (show ¬ (nI 7 = 2) by decide), if_neg (show ¬ (nI 7 = 3) by decide), if_neg (show ¬ (nI 7 = 4) by decide), if_neg (show ¬ (nI 7 = 5) by decide), if_neg (show ¬ (nI 7 = 6) by decide), if_pos (show nI 7 = 7 by decide), if_pos (show (4 : Int32) ≤ nI 7 by decide), if_pos (show (6 : Int32) ≤ nI 7 by decide), if_neg (show ¬ (nI 7 = 6) by decide)]
    · have hr : ∀ k : Nat, k ≤ 7 → ¬ wh = nI k := fun k hk' e => hw (wi_t.mpr (by rw [e, nI_toInt (by omega), show Int32.toInt 0 = 0 by decide, show Int32.toInt 7 = 7 by decide]; omega))
      rw [if_neg hw, if_neg (show ¬ (wh = 0) from hr 0 (by decide)), if_neg (show ¬ (wh = 1) from hr 1 (by decide)), if_neg (show ¬ (wh = 2) from hr 2 (by decide)), if_neg (show ¬ (wh = 3) from hr 3 (by decide)), if_neg (show ¬ (wh = 4) from hr 4 (by decide)), if_neg (show ¬ (wh = 5) from hr 5 (by decide)), if_neg (show ¬ (wh = 6) from hr 6 (by decide)), if_neg (show ¬ (wh = 7) from hr 7 (by decide))]
  · rw [if_neg hG, if_neg hG]
theorem fair_lp {g : Nat} {ck sup s : Nat → Int32} {z : Int32 → Int32 → Nat → Int32} {z' : Int32 → Int32 → Nat → Int32 × Int32} (hg : g ≤ 6) (hs : sup 0 = nI g) (hc : ∀ i, i < g → ck i = s (40 + i)) : ∀ k k' q a b, q ≤ g → 7 - q < k → 7 - q < k' → lp z' (fX9_fair_B30a sup s) k' a b q = (0, lp z (fX8_fair_B26a g ck) k a b q) := by
  intro k
  induction k with
  | zero => intro k' q a b _ h; exact absurd h (Nat.not_lt_zero _)
  | succ k ih =>
    intro k' q a b hq hk hk'
    obtain ⟨k', rfl⟩ : ∃ q, k' = q + 1 := ⟨k' - 1, by omega⟩
    show fX9_fair_B30a sup s (lp z' (fX9_fair_B30a sup s) k') a b q = (0, fX8_fair_B26a g ck (lp z (fX8_fair_B26a g ck) k) a b q)
    have ih := ih k' (q + 1)
    generalize lp z' (fX9_fair_B30a sup s) k' = r1 at ih ⊢
    generalize lp z (fX8_fair_B26a g ck) k = r2 at ih ⊢
    unfold fX9_fair_B30a fX8_fair_B26a
    rw [show Int32.toNatClampNeg 0 = 0 by decide, hs]
    by_cases c : g ≤ q
    · rw [if_pos ((nI_leI (by omega) (by omega)).mpr c), if_pos c]
    · rw [if_neg (fun z => c ((nI_leI (a := g) (b := q) (by omega) (by omega)).mp z)), if_neg c, nI_clamp (n := 40 + q) (by omega), nI_clamp (n := q) (by omega), ← hc q (by omega)]
      exact ih _ _ (by omega) (by omega) (by omega)
theorem fair_ {g : Nat} {ck sup s : Nat → Int32} (hg : g ≤ 6) (hs : sup 0 = nI g) (hc : ∀ i, i < g → ck i = s (40 + i)) (h0 : ∀ i, i < g → 0 ≤ Int32.toInt (ck i)) : (0, fX8_fair g ck) = fX9_fair sup s := by
  unfold fX8_fair fX9_fair fX9_fair_J27a
  rw [show Int32.toNatClampNeg 0 = 0 by decide, hs]
  have e0 : (nI g = 0) ↔ g = 0 := nI_eq (a := g) (b := 0) (by omega) (by omega)
  by_cases c : g = 0
  · rw [if_pos c, if_pos (e0.mpr c)]
    show _ = fX9_fair_B30a sup s _ 0 0 0
    unfold fX9_fair_B30a
    rw [show Int32.toNatClampNeg 0 = 0 by decide, hs, c, if_pos (by decide)]
    rfl
  · rw [if_neg c, if_neg (fun z => c (e0.mp z)), show Int32.toNatClampNeg 40 = 40 by decide]
    show _ = fX9_fair_B30a sup s (lp (fun _ _ _ => ((0 : Int32), (0 : Int32))) (fX9_fair_B30a sup s) (6 + 1 - 0)) 0 (s 40) 0
    have hf := fair_lp (z := fun _ _ _ => (0 : Int32)) (z' := fun _ _ _ => ((0 : Int32), (0 : Int32))) hg hs hc ((6 + 1 - 1) + 1) (6 + 1 - 0) 1 (ck 0) (ck 0) (by omega) (by omega) (by omega)
    generalize lp (fun _ _ _ => ((0 : Int32), (0 : Int32))) (fX9_fair_B30a sup s) (6 + 1 - 0) = r1 at hf ⊢
    unfold fX9_fair_B30a
    have h4 : s 40 = ck 0 := (hc 0 (by omega)).symm
    rw [show Int32.toNatClampNeg 0 = 0 by decide, hs, if_neg (show ¬ (nI g ≤ nI 0) from fun z => by have := (nI_leI (a := g) (b := 0) (by omega) (by omega)).mp z; omega), nI_clamp (n := 40 + 0) (by decide), h4, if_neg (show ¬ (ck 0 < ck 0) from fun z => by rw [Int32.lt_iff_toInt_lt] at z; omega)]
    have hm : (if (0 : Int32) < ck 0 then ck 0 else 0) = ck 0 := by
      by_cases d : (0 : Int32) < ck 0
      · rw [if_pos d]
      · rw [if_neg d]
        rw [Int32.lt_iff_toInt_lt, show Int32.toInt 0 = 0 by decide] at d
        have := h0 0 (by omega)
        exact Int32.toInt_inj.mp (by rw [show Int32.toInt 0 = 0 by decide]; omega)
    rw [hm]
    exact hf.symm
set_option maxRecDepth 100000 in
theorem and_ : ∀ a, a < 64 → ∀ b, b < 64 → (nI a &&& nI b) = nI (a &&& b) := by decide +kernel
theorem BS_and {p q : Nat → Bool} {n : Nat} : BS p n &&& BS q n = BS (fun i => p i && q i) n := by
  refine Nat.eq_of_testBit_eq (fun i => ?_)
  rw [Nat.testBit_and, BS_tb, BS_tb, BS_tb]
  cases decide (i < n) <;> cases p i <;> cases q i <;> rfl
theorem orw_lp {g : Nat} {mo : Int32} {y : Nat → Int32} {z : Int32 → Nat → Int32} (hg : g ≤ 6) (hy : ∀ i, i < 6 → 0 ≤ Int32.toInt (y i)) : ∀ k q, q ≤ g → 7 - q < k → lp z (fX4_onRoadWithin_B5a g mo y) k (nI (BS (fun i => onR y i && decide (¬ mo < y i)) q)) q = nI (BS (fun i => onR y i && decide (¬ mo < y i)) g) := by
  intro k
  induction k with
  | zero => intro q _ h; exact absurd h (Nat.not_lt_zero _)
  | succ k ih =>
    intro q hq hk
    show fX4_onRoadWithin_B5a g mo y (lp z (fX4_onRoadWithin_B5a g mo y) k) (nI (BS (fun i => onR y i && decide (¬ mo < y i)) q)) q = _
    have ih := ih (q + 1)
    generalize lp z (fX4_onRoadWithin_B5a g mo y) k = rc at ih ⊢
    unfold fX4_onRoadWithin_B5a fX4_onRoadWithin_J38a
    by_cases c : g ≤ q
    · rw [if_pos c, show g = q by omega]
    · have ih := ih (by omega) (by omega)
      rw [if_neg c, bn1_, c_on (by omega) (hy q (by omega)), nI_clamp (by omega)]
      cases e1 : onR y q with
      | false =>
        rw [if_neg (by decide)]
        rw [BS_s0 (p := fun i => onR y i && decide (¬ mo < y i)) (by show (onR y q && decide (¬ mo < y q)) = false; rw [e1, Bool.false_and])] at ih
        exact ih
      | true =>
        rw [if_pos rfl]
        by_cases d : mo < y q
        · rw [if_pos d]
          rw [BS_s0 (p := fun i => onR y i && decide (¬ mo < y i)) (by show (onR y q && decide (¬ mo < y q)) = false; rw [decide_eq_false (fun z => z d), Bool.and_false])] at ih
          exact ih
        · rw [if_neg d, BS_s1 (p := fun i => onR y i && decide (¬ mo < y i)) (by omega) (by show (onR y q && decide (¬ mo < y q)) = true; rw [e1, decide_eq_true d]; rfl)]
          exact ih
theorem orw_ {g : Nat} {mo : Int32} {y : Nat → Int32} (hg : g ≤ 6) (hy : ∀ i, i < 6 → 0 ≤ Int32.toInt (y i)) : fX4_onRoadWithin g mo y = nI (BS (fun i => onR y i && decide (¬ mo < y i)) g) := by
  unfold fX4_onRoadWithin
  exact orw_lp hg hy _ 0 (by omega) (by omega)
theorem held_lp {g : Nat} {be ins : Int32} {sup k9 ki hi y s : Nat → Int32} {z : Int32 → Nat → Int32 × Int32} (hg : g ≤ 6) (hs : sup 0 = nI g) (hbe : sup 1 = be) (hy : ∀ i, i < 6 → 0 ≤ Int32.toInt (y i)) (hys : ∀ i, i < g → y i = s (4 + i)) (hk : ∀ i, i < g → ki i = k9 i) (hins : ins = nI (g - cnt (onR y) g)) (hhr : ∀ q, q < g → (hi q = -1 ∧ s (34 + q) = 0 ∨ ∃ j, j < g ∧ hi q = nI j ∧ s (34 + q) = nI (j + 1))) : ∀ k q, q ≤ g → 7 - q < k → lp z (fX9_held_B14a sup k9 s (nI (BS (onR y) g))) k (nI (BS (fun i => hld g y ki hi ins i && (onR y i && decide (¬ be < y i))) q)) q = (0, nI (BS (fun i => hld g y ki hi ins i && (onR y i && decide (¬ be < y i))) g)) := by
  intro k
  induction k with
  | zero => intro q _ h; exact absurd h (Nat.not_lt_zero _)
  | succ k ih =>
    intro q hq hk'
    show fX9_held_B14a sup k9 s (nI (BS (onR y) g)) (lp z (fX9_held_B14a sup k9 s (nI (BS (onR y) g))) k) (nI (BS (fun i => hld g y ki hi ins i && (onR y i && decide (¬ be < y i))) q)) q = _
    have ih := ih (q + 1)
    generalize lp z (fX9_held_B14a sup k9 s (nI (BS (onR y) g))) k = rc at ih ⊢
    unfold fX9_held_B14a fX9_held_J66a fX9_held_J67a
    rw [show Int32.toNatClampNeg 0 = 0 by decide, show Int32.toNatClampNeg 1 = 1 by decide, hs, hbe]
    by_cases c : g ≤ q
    · rw [if_pos ((nI_leI (by omega) (by omega)).mpr c), show g = q by omega]
    · have ih := ih (by omega) (by omega)
      have hbit := (BS_bit (p := onR y) hg (show q < g by omega)).1
      have hb64 := BS_64 (p := fun i => hld g y ki hi ins i && (onR y i && decide (¬ be < y i))) (n := q) (by omega)
      rw [if_neg (fun z => c ((nI_leI (a := g) (b := q) (by omega) (by omega)).mp z)), nI_clamp (by omega), ← hys q (by omega), holds_ hg hs (by omega) hy hk hins (hhr q (by omega)), bn1_, or0 _ hb64]
      have hp : (fun i => hld g y ki hi ins i && (onR y i && decide (¬ be < y i))) q = (hold g y ki hi ins q && onR y q && (onR y q && decide (¬ be < y q))) := rfl
      cases e1 : onR y q with
      | false =>
        rw [if_neg (fun z => by rw [hbit.mp z] at e1; exact Bool.noConfusion e1)]
        rw [e1, Bool.and_false, Bool.false_and] at hp
        rw [BS_s0 hp] at ih
        exact ih
      | true =>
        rw [if_pos (hbit.mpr e1)]
        rw [e1, Bool.and_true, Bool.true_and] at hp
        by_cases d : be < y q
        · rw [if_pos d]
          rw [decide_eq_false (fun z => z d), Bool.and_false] at hp
          rw [BS_s0 hp] at ih
          exact ih
        · rw [if_neg d]
          rw [decide_eq_true d, Bool.and_true] at hp
          cases e2 : hold g y ki hi ins q with
          | false =>
            rw [if_neg (by decide)]
            rw [e2] at hp
            rw [BS_s0 hp] at ih
            exact ih
          | true =>
            rw [if_pos rfl]
            rw [e2] at hp
            rw [BS_s1 (by omega) hp]
            exact ih
theorem held_ {g : Nat} {be ins : Int32} {sup k9 ki hi y s : Nat → Int32} (hg : g ≤ 6) (hs : sup 0 = nI g) (hbe : sup 1 = be) (hy : ∀ i, i < 6 → 0 ≤ Int32.toInt (y i)) (hys : ∀ i, i < g → y i = s (4 + i)) (hk : ∀ i, i < g → ki i = k9 i) (hins : ins = nI (g - cnt (onR y) g)) (hhr : ∀ q, q < g → (hi q = -1 ∧ s (34 + q) = 0 ∨ ∃ j, j < g ∧ hi q = nI j ∧ s (34 + q) = nI (j + 1))) : (0, fX8_held g be ki ins y hi) = fX9_held sup k9 s := by
  have hip : BS (ipr s) g = BS (onR y) g := BS_congr g (fun i hi => by unfold ipr onR; rw [hys i hi])
  unfold fX8_held fX9_held
  rw [bn1_, bn1_, bn1_, hb_ hg hy, orw_ hg hy, and_ _ (BS_64 hg) _ (BS_64 hg), BS_and, on_ hg hs, hip]
  exact (held_lp hg hs hbe hy hys hk hins hhr _ 0 (by omega) (by omega)).symm
/-- on the road: by both -/
theorem onr_ {g : Nat} {sup y s : Nat → Int32} {q : Int32} (hg : g ≤ 6) (hs : sup 0 = nI g) (hy : ∀ i, i < 6 → 0 ≤ Int32.toInt (y i)) (hys : ∀ i, i < g → y i = s (4 + i)) (hy6 : ∀ i, g ≤ i → i < 6 → y i = 0) : fX8_isGuestOnRoad q g y = fX9_isOnRoad q sup s ∧ fX4_isOnRoad q y = fX9_isOnRoad q sup s ∧ (fX9_isOnRoad q sup s = true ↔ ∃ i, i < g ∧ q = nI i ∧ ¬ y i = 0) := by
  obtain ⟨g1, g2⟩ := isG_ (q := q) hg hs
  unfold fX8_isGuestOnRoad fX8_isGuestOnRoad_J23a fX9_isOnRoad fX9_isOnRoad_J20a
  simp only [bn1_]
  rw [g1]
  by_cases hG : fX9_isGuest q sup = true
  · obtain ⟨i, hi', e⟩ := g2.mp hG
    subst e
    have ei : ipr s i = onR y i := by unfold ipr onR; rw [hys i hi']
    rw [if_pos hG, if_pos hG, c_on (by omega) (hy i (by omega)), r_in (by omega), ei]
    cases e1 : onR y i with
    | true =>
      rw [if_pos rfl, show (!true) = false from rfl, if_neg (by decide)]
      exact ⟨rfl, rfl, fun _ => ⟨i, hi', rfl, onR_t.mp e1⟩, fun _ => rfl⟩
    | false =>
      rw [if_neg (by decide), show (!false) = true from rfl, if_pos rfl]
      refine ⟨rfl, rfl, fun z => Bool.noConfusion z, fun ⟨j, a1, a2, a3⟩ => ?_⟩
      have := (nI_eq (a := i) (b := j) (by omega) (by omega)).mp a2
      subst this
      exact absurd (onR_f.mp e1) a3
  · rw [if_neg hG, if_neg hG]
    have hf : fX4_isOnRoad q y = false := by
      cases e : fX4_isOnRoad q y with
      | false => rfl
      | true =>
        unfold fX4_isOnRoad fX4_isOnRoad_J23a at e
        by_cases c1 : q < 0
        · rw [if_pos c1] at e; exact Bool.noConfusion e
        · rw [if_neg c1] at e
          by_cases c2 : (6 : Int32) ≤ q
          · rw [if_pos c2] at e; exact Bool.noConfusion e
          · rw [if_neg c2] at e
            rw [Int32.lt_iff_toInt_lt, show Int32.toInt 0 = 0 by decide] at c1
            rw [Int32.le_iff_toInt_le, show Int32.toInt 6 = 6 by decide] at c2
            obtain ⟨N, hN, hNe⟩ := ofN (v := q) (b := 5) (by omega) (by omega) (by decide)
            subst hNe
            have hng : g ≤ N := by
              refine Nat.le_of_not_lt (fun z => hG (g2.mpr ⟨N, z, rfl⟩))
            rw [nI_clamp (by omega), hy6 N hng (by omega), if_pos (by decide)] at e
            exact Bool.noConfusion e
    exact ⟨rfl, hf, fun z => Bool.noConfusion z, fun ⟨i, a1, a2, _⟩ => absurd (g2.mpr ⟨i, a1, a2⟩) hG⟩
theorem RD_wheel {g B i : Nat} {p9 : Nat → Int32} {ins ni mi v : Int32} {y pc st hi pl ca ck s : Nat → Int32} (hi' : i < g) (hg : g ≤ 6) (h : RD g B p9 ins ni mi y pc st hi pl ca ck s) : RD g B p9 ins ni mi y pc (upd st i v) hi pl ca ck (upd s (22 + i) v) := by
  obtain ⟨r1, r2, r3, r4, r5, r6, r7, r8, r9, r10, r11, r12⟩ := h
  refine ⟨r1, fun q hq => ?_, fun q hq => by rw [upd_n (by omega)]; exact r3 q hq, r4, r5, r6, by rw [upd_n (by omega)]; exact r7, by rw [upd_n (by omega)]; exact r8, by rw [upd_n (by omega)]; exact r9, fun q hq => by rw [upd_n (by omega)]; exact r10 q hq, r11, r12⟩
  obtain ⟨a1, a2, a3, a4, a5, a6⟩ := r2 q hq
  refine ⟨by rw [upd_n (by omega)]; exact a1, by rw [upd_n (by omega)]; exact a2, by rw [upd_n (by omega)]; exact a3, ?_, by rw [upd_n (by omega)]; exact a5, by rw [upd_n (by omega)]; exact a6⟩
  by_cases e : q = i
  · rw [e, upd_e, upd_e]
  · rw [upd_n e, upd_n (by omega)]; exact a4
theorem RD_run {g B i : Nat} {p9 : Nat → Int32} {ins ni mi mo : Int32} {y pc st hi pl ca ck s : Nat → Int32} (hi' : i < g) (hg : g ≤ 6) (hm0 : 0 ≤ Int32.toInt mo) (hm9 : Int32.toInt mo ≤ 9) (hp0 : 0 ≤ Int32.toInt (p9 i)) (hp : Int32.toInt (p9 i) ≤ 30) (h : RD g B p9 ins ni mi y pc st hi pl ca ck s) : RD g B p9 ins ni mi y (upd pc i (if pc i + mo < 40 then pc i + mo else 40)) st hi pl ca ck (upd s (28 + i) (if s (28 + i) + mo < 40 - p9 i then s (28 + i) + mo else 40 - p9 i)) := by
  obtain ⟨r1, r2, r3, r4, r5, r6, r7, r8, r9, r10, r11, r12⟩ := h
  obtain ⟨q0, q1⟩ := r10 i hi'
  have e40 : Int32.toInt 40 = 40 := by decide
  have t1 : Int32.toInt (s (28 + i) + mo) = Int32.toInt (s (28 + i)) + Int32.toInt mo := tI_add rfl rfl (by omega) (by omega)
  have t2 : Int32.toInt (40 - p9 i) = 40 - Int32.toInt (p9 i) := tI_sub e40 rfl (by omega) (by omega)
  have t3 : Int32.toInt (p9 i + s (28 + i)) = Int32.toInt (p9 i) + Int32.toInt (s (28 + i)) := tI_add rfl rfl (by omega) (by omega)
  have hpc : Int32.toInt (pc i) = Int32.toInt (p9 i) + Int32.toInt (s (28 + i)) := by
    rw [(r2 i hi').2.2.2.2.1]
    by_cases c : p9 i + s (28 + i) < 40
    · rw [if_pos c]; exact t3
    · rw [if_neg c, e40]
      rw [Int32.lt_iff_toInt_lt, t3, e40] at c
      omega
  have t4 : Int32.toInt (pc i + mo) = Int32.toInt (pc i) + Int32.toInt mo := tI_add rfl rfl (by omega) (by omega)
  have hw : 0 ≤ Int32.toInt (if s (28 + i) + mo < 40 - p9 i then s (28 + i) + mo else 40 - p9 i) ∧ Int32.toInt (if s (28 + i) + mo < 40 - p9 i then s (28 + i) + mo else 40 - p9 i) + Int32.toInt (p9 i) ≤ 40 := by
    by_cases c : s (28 + i) + mo < 40 - p9 i
    · rw [if_pos c, t1]
      rw [Int32.lt_iff_toInt_lt, t1, t2] at c
      omega
    · rw [if_neg c, t2]; omega
  have hv : (if pc i + mo < 40 then pc i + mo else 40) = (if p9 i + (if s (28 + i) + mo < 40 - p9 i then s (28 + i) + mo else 40 - p9 i) < 40 then p9 i + (if s (28 + i) + mo < 40 - p9 i then s (28 + i) + mo else 40 - p9 i) else 40) := by
    refine Int32.toInt_inj.mp ?_
    by_cases c : s (28 + i) + mo < 40 - p9 i
    · have t5 : Int32.toInt (p9 i + (s (28 + i) + mo)) = Int32.toInt (p9 i) + (Int32.toInt (s (28 + i)) + Int32.toInt mo) := by rw [tI_add rfl t1 (by omega) (by omega)]
      have c' := c
      rw [Int32.lt_iff_toInt_lt, t1, t2] at c'
      rw [if_pos c, if_pos (show pc i + mo < 40 by rw [Int32.lt_iff_toInt_lt, t4, e40]; omega), if_pos (show p9 i + (s (28 + i) + mo) < 40 by rw [Int32.lt_iff_toInt_lt, t5, e40]; omega), t4, t5]
      omega
    · have t5 : Int32.toInt (p9 i + (40 - p9 i)) = 40 := by rw [tI_add rfl t2 (by omega) (by omega)]; omega
      have c' := c
      rw [Int32.lt_iff_toInt_lt, t1, t2] at c'
      rw [if_neg c, if_neg (show ¬ (pc i + mo < 40) by rw [Int32.lt_iff_toInt_lt, t4, e40]; omega), if_neg (show ¬ (p9 i + (40 - p9 i) < 40) by rw [Int32.lt_iff_toInt_lt, t5, e40]; omega)]
  refine ⟨r1, fun q hq => ?_, fun q hq => by rw [upd_n (by omega)]; exact r3 q hq, r4, r5, r6, by rw [upd_n (by omega)]; exact r7, by rw [upd_n (by omega)]; exact r8, by rw [upd_n (by omega)]; exact r9, fun q hq => ?_, r11, r12⟩
  · obtain ⟨a1, a2, a3, a4, a5, a6⟩ := r2 q hq
    refine ⟨by rw [upd_n (by omega)]; exact a1, by rw [upd_n (by omega)]; exact a2, by rw [upd_n (by omega)]; exact a3, by rw [upd_n (by omega)]; exact a4, ?_, by rw [upd_n (by omega)]; exact a6⟩
    by_cases e : q = i
    · rw [e, upd_e, upd_e]; exact hv
    · rw [upd_n e, upd_n (by omega)]; exact a5
  · by_cases e : q = i
    · rw [e, upd_e]; exact hw
    · rw [upd_n (by omega)]; exact r10 q hq
theorem RD_hire {g B i j : Nat} {p9 : Nat → Int32} {ins ni mi : Int32} {y pc st hi pl ca ck s : Nat → Int32} (hi' : i < g) (hj : j < g) (hg : g ≤ 6) (h : RD g B p9 ins ni mi y pc st hi pl ca ck s) : RD g B p9 ins ni mi y pc st (upd hi j (nI i)) pl ca ck (upd s (34 + j) (nI i + 1)) := by
  obtain ⟨r1, r2, r3, r4, r5, r6, r7, r8, r9, r10, r11, r12⟩ := h
  refine ⟨r1, fun q hq => ?_, fun q hq => ?_, r4, r5, fun q a b => ⟨(r6 q a b).1, fun h0 => ⟨by rw [upd_n (by omega)]; exact ((r6 q a b).2.1 h0).1, ((r6 q a b).2.1 h0).2⟩, (r6 q a b).2.2⟩, by rw [upd_n (by omega)]; exact r7, by rw [upd_n (by omega)]; exact r8, by rw [upd_n (by omega)]; exact r9, fun q hq => by rw [upd_n (by omega)]; exact r10 q hq, r11, r12⟩
  · obtain ⟨a1, a2, a3, a4, a5, a6⟩ := r2 q hq
    exact ⟨by rw [upd_n (by omega)]; exact a1, by rw [upd_n (by omega)]; exact a2, by rw [upd_n (by omega)]; exact a3, by rw [upd_n (by omega)]; exact a4, by rw [upd_n (by omega)]; exact a5, by rw [upd_n (by omega)]; exact a6⟩
  · by_cases e : q = j
    · rw [e, upd_e, upd_e]
      exact Or.inr ⟨i, hi', rfl, nI_add i 1⟩
    · rw [upd_n e, upd_n (by omega)]; exact r3 q hq
