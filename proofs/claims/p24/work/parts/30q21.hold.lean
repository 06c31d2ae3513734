/-! who holds back: by both -/
def onR (y : Nat → Int32) (q : Nat) : Bool := decide (¬ y q = 0)
theorem onR_t {y : Nat → Int32} {q : Nat} : onR y q = true ↔ ¬ y q = 0 := decide_eq_true_iff
theorem onR_f {y : Nat → Int32} {q : Nat} : onR y q = false ↔ y q = 0 := by
  unfold onR; rw [decide_eq_false_iff_not]; exact ⟨fun h => Decidable.byContradiction h, fun h z => z h⟩
theorem pos_0 {v : Int32} (h : 0 ≤ Int32.toInt v) : v ≤ 0 ↔ v = 0 := by
  rw [Int32.le_iff_toInt_le, show Int32.toInt 0 = 0 by decide, ← Int32.toInt_inj, show Int32.toInt 0 = 0 by decide]
  omega
theorem nI_n0 {n : Nat} (h : n < 1000000) : ¬ (nI n < 0) := by
  rw [Int32.lt_iff_toInt_lt, nI_toInt (by omega), show Int32.toInt 0 = 0 by decide]; omega
theorem c_on {y : Nat → Int32} {q : Nat} (hq : q < 6) (h : 0 ≤ Int32.toInt (y q)) : fX4_isOnRoad (nI q) y = onR y q := by
  unfold fX4_isOnRoad fX4_isOnRoad_J23a
  rw [if_neg (nI_n0 (by omega)), if_neg (show ¬ ((6 : Int32) ≤ nI q) from fun z => by have := (nI_leI (a := 6) (b := q) (by omega) (by omega)).mp z; omega), nI_clamp (by omega)]
  by_cases e : y q = 0
  · rw [if_pos ((pos_0 h).mpr e), onR_f.mpr e]
  · rw [if_neg (fun z => e ((pos_0 h).mp z)), onR_t.mpr e]
theorem c_onN {y : Nat → Int32} : fX4_isOnRoad (-1) y = false := by
  unfold fX4_isOnRoad fX4_isOnRoad_J23a
  rw [if_pos (by decide)]
def oth (y ki : Nat → Int32) : Nat → Bool
  | 0 => false
  | n + 1 => oth y ki n || (onR y n && decide (¬ ki n = 3))
theorem oth_t {y ki : Nat → Int32} : ∀ n, oth y ki n = true ↔ ∃ i, i < n ∧ ¬ y i = 0 ∧ ¬ ki i = 3
  | 0 => ⟨fun h => Bool.noConfusion h, fun ⟨i, h, _⟩ => absurd h (Nat.not_lt_zero _)⟩
  | n + 1 => by
    show (oth y ki n || (onR y n && decide (¬ ki n = 3))) = true ↔ _
    rw [Bool.or_eq_true, Bool.and_eq_true, oth_t n, onR_t, decide_eq_true_iff]
    constructor
    · rintro (⟨i, h1, h2⟩ | h)
      · exact ⟨i, by omega, h2⟩
      · exact ⟨n, by omega, h⟩
    · rintro ⟨i, h1, h2⟩
      by_cases e : i = n
      · subst e; exact Or.inr h2
      · exact Or.inl ⟨i, by omega, h2⟩
theorem so_lp {g : Nat} {y ki : Nat → Int32} {z : Nat → Bool} (hg : g ≤ 6) (hy : ∀ q, q < 6 → 0 ≤ Int32.toInt (y q)) : ∀ k q, q ≤ g → 7 - q < k → oth y ki q = false → lp z (fX4_isSomeoneOutWhoIsNotGreat_B2a y g ki) k q = oth y ki g := by
  intro k
  induction k with
  | zero => intro q _ h; exact absurd h (Nat.not_lt_zero _)
  | succ k ih =>
    intro q hq hk ho
    show fX4_isSomeoneOutWhoIsNotGreat_B2a y g ki (lp z (fX4_isSomeoneOutWhoIsNotGreat_B2a y g ki) k) q = _
    have ih := ih (q + 1)
    generalize lp z (fX4_isSomeoneOutWhoIsNotGreat_B2a y g ki) k = rc at ih ⊢
    unfold fX4_isSomeoneOutWhoIsNotGreat_B2a fX4_isSomeoneOutWhoIsNotGreat_J30a
    by_cases c : g ≤ q
    · rw [if_pos c, show g = q by omega, ho]
    · rw [if_neg c, bn1_, c_on (by omega) (hy q (by omega)), nI_clamp (by omega)]
      have ho' : oth y ki (q + 1) = (onR y q && decide (¬ ki q = 3)) := by
        show (oth y ki q || (onR y q && decide (¬ ki q = 3))) = _
        rw [ho, Bool.false_or]
      cases e1 : onR y q with
      | false =>
        rw [if_neg (by decide)]
        exact ih (by omega) (by omega) (by rw [ho', e1, Bool.false_and])
      | true =>
        rw [if_pos rfl]
        by_cases e2 : ki q = 3
        · rw [if_pos e2]
          exact ih (by omega) (by omega) (by rw [ho', e1, decide_eq_false (fun z => z e2), Bool.and_false])
        · rw [if_neg e2]
          exact ((oth_t g).mpr ⟨q, by omega, onR_t.mp e1, e2⟩).symm
theorem so_ {g : Nat} {y ki : Nat → Int32} (hg : g ≤ 6) (hy : ∀ q, q < 6 → 0 ≤ Int32.toInt (y q)) : fX4_isSomeoneOutWhoIsNotGreat y g ki = oth y ki g := by
  unfold fX4_isSomeoneOutWhoIsNotGreat
  exact so_lp hg hy _ 0 (by omega) (by omega) rfl
theorem tree_ {T : Type} {A B : T} {u4 u : Bool} {p2 p0 p1 p3 : Prop} [Decidable p2] [Decidable p0] [Decidable p1] [Decidable p3] : (if u4 = true then A else if p2 then (if p0 then (if p1 then A else (if p3 then (if u = true then A else B) else B)) else (if p3 then (if u = true then A else B) else B)) else (if p3 then (if u = true then A else B) else B)) = if (u4 || ((decide p2 && decide p0 && decide p1) || (decide p3 && u))) = true then A else B := by
  cases u4 <;> cases u <;> by_cases h2 : p2 <;> by_cases h0 : p0 <;> by_cases h1 : p1 <;> by_cases h3 : p3 <;> simp [h2, h0, h1, h3]
/-- the class's own words -/
noncomputable def hold (g : Nat) (y ki hi : Nat → Int32) (ins : Int32) (q : Nat) : Bool := fX4_isOnRoad (hi q) y || ((decide (ki q = 2) && decide (ins = 0) && decide (1 < g)) || (decide (ki q = 3) && oth y ki g))
noncomputable def hld (g : Nat) (y ki hi : Nat → Int32) (ins : Int32) (q : Nat) : Bool := hold g y ki hi ins q && onR y q
theorem hb_lp {g : Nat} {y ki hi : Nat → Int32} {ins : Int32} {u : Bool} {z : Int32 → Nat → Int32} (hg : g ≤ 6) (hy : ∀ q, q < 6 → 0 ≤ Int32.toInt (y q)) (hu : u = oth y ki g) : ∀ k q, q ≤ g → 7 - q < k → lp z (fX4_holdingBack_B11a ins y hi g ki u) k (nI (BS (hld g y ki hi ins) q)) q = nI (BS (hld g y ki hi ins) g) := by
  intro k
  induction k with
  | zero => intro q _ h; exact absurd h (Nat.not_lt_zero _)
  | succ k ih =>
    intro q hq hk
    show fX4_holdingBack_B11a ins y hi g ki u (lp z (fX4_holdingBack_B11a ins y hi g ki u) k) (nI (BS (hld g y ki hi ins) q)) q = _
    have ih := ih (q + 1)
    generalize lp z (fX4_holdingBack_B11a ins y hi g ki u) k = rc at ih ⊢
    unfold fX4_holdingBack_B11a fX4_holdingBack_J60a fX4_holdingBack_J75a fX4_holdingBack_J79a
    by_cases c : g ≤ q
    · rw [if_pos c, show g = q by omega]
    · have ih := ih (by omega) (by omega)
      rw [if_neg c, bn1_, nI_clamp (by omega), tree_, hu]
      have eh : hld g y ki hi ins q = (hold g y ki hi ins q && onR y q) := rfl
      show (if hold g y ki hi ins q = true then _ else _) = _
      unfold fX4_holdingBack_J80a fX4_holdingBack_J103a
      cases e1 : hold g y ki hi ins q with
      | false =>
        rw [if_neg (by decide), if_neg (by decide)]
        rw [e1, Bool.false_and] at eh
        rw [BS_s0 eh] at ih
        exact ih
      | true =>
        rw [if_pos rfl, if_pos rfl, bn1_, c_on (by omega) (hy q (by omega))]
        rw [e1, Bool.true_and] at eh
        cases e2 : onR y q with
        | false =>
          rw [if_neg (by decide)]
          rw [e2] at eh
          rw [BS_s0 eh] at ih
          exact ih
        | true =>
          rw [if_pos rfl]
          rw [e2] at eh
          rw [BS_s1 (by omega) eh]
          exact ih
theorem hb_ {g : Nat} {y ki hi : Nat → Int32} {ins : Int32} (hg : g ≤ 6) (hy : ∀ q, q < 6 → 0 ≤ Int32.toInt (y q)) : fX4_holdingBack ins y hi g ki = nI (BS (hld g y ki hi ins) g) := by
  unfold fX4_holdingBack
  rw [bn1_, so_ hg hy]
  exact hb_lp hg hy rfl _ 0 (by omega) (by omega)
/-! the reference's -/
def ipr (s : Nat → Int32) (q : Nat) : Bool := decide (¬ s (4 + q) = 0)
theorem r_in {s : Nat → Int32} {q : Nat} (hq : q < 6) : fX9_isIn (nI q) s = !(ipr s q) := by
  unfold fX9_isIn fX9_isIn_J16a ipr
  rw [show (4 : Int32) + nI q = nI (4 + q) from nI_add 4 q, nI_clamp (by omega)]
  by_cases e : s (4 + q) = 0
  · rw [if_pos e, decide_eq_false (fun z => z e)]; rfl
  · rw [if_neg e, decide_eq_true e]; rfl
theorem on_lp {g : Nat} {sup s : Nat → Int32} {z : Int32 → Nat → Int32} (hg : g ≤ 6) (hs : sup 0 = nI g) : ∀ k q, q ≤ g → 7 - q < k → lp z (fX9_onRoad_B4a sup s) k (nI (BS (ipr s) q)) q = nI (BS (ipr s) g) := by
  intro k
  induction k with
  | zero => intro q _ h; exact absurd h (Nat.not_lt_zero _)
  | succ k ih =>
    intro q hq hk
    show fX9_onRoad_B4a sup s (lp z (fX9_onRoad_B4a sup s) k) (nI (BS (ipr s) q)) q = _
    have ih := ih (q + 1)
    generalize lp z (fX9_onRoad_B4a sup s) k = rc at ih ⊢
    unfold fX9_onRoad_B4a fX9_onRoad_J30a
    rw [show Int32.toNatClampNeg 0 = 0 by decide, hs]
    by_cases c : g ≤ q
    · rw [if_pos ((nI_leI (by omega) (by omega)).mpr c), show g = q by omega]
    · have ih := ih (by omega) (by omega)
      rw [if_neg (fun z => c ((nI_leI (a := g) (b := q) (by omega) (by omega)).mp z)), bn1_, r_in (by omega)]
      cases e1 : ipr s q with
      | false =>
        rw [show (!false) = true from rfl, if_pos rfl, or0 _ (BS_64 (by omega))]
        rw [BS_s0 e1] at ih
        exact ih
      | true =>
        rw [show (!true) = false from rfl, if_neg (by decide), BS_s1 (by omega) e1]
        exact ih
theorem on_ {g : Nat} {sup s : Nat → Int32} (hg : g ≤ 6) (hs : sup 0 = nI g) : fX9_onRoad sup s = nI (BS (ipr s) g) := by
  unfold fX9_onRoad
  exact on_lp hg hs _ 0 (by omega) (by omega)
theorem gr_lp {g : Nat} {sup ki : Nat → Int32} {z : Int32 → Nat → Int32} (hg : g ≤ 6) (hs : sup 0 = nI g) : ∀ k q, q ≤ g → 7 - q < k → lp z (fX9_greats_B4a sup ki) k (nI (BS (fun i => decide (ki i = 3)) q)) q = nI (BS (fun i => decide (ki i = 3)) g) := by
  intro k
  induction k with
  | zero => intro q _ h; exact absurd h (Nat.not_lt_zero _)
  | succ k ih =>
    intro q hq hk
    show fX9_greats_B4a sup ki (lp z (fX9_greats_B4a sup ki) k) (nI (BS (fun i => decide (ki i = 3)) q)) q = _
    have ih := ih (q + 1)
    generalize lp z (fX9_greats_B4a sup ki) k = rc at ih ⊢
    unfold fX9_greats_B4a fX9_greats_J32a
    rw [show Int32.toNatClampNeg 0 = 0 by decide, hs]
    by_cases c : g ≤ q
    · rw [if_pos ((nI_leI (by omega) (by omega)).mpr c), show g = q by omega]
    · have ih := ih (by omega) (by omega)
      rw [if_neg (fun z => c ((nI_leI (a := g) (b := q) (by omega) (by omega)).mp z)), nI_clamp (by omega)]
      by_cases e1 : ki q = 3
      · rw [if_pos e1, BS_s1 (p := fun i => decide (ki i = 3)) (by omega) (decide_eq_true e1)]
        exact ih
      · rw [if_neg e1, or0 _ (BS_64 (by omega))]
        rw [BS_s0 (p := fun i => decide (ki i = 3)) (decide_eq_false e1)] at ih
        exact ih
theorem gr_ {g : Nat} {sup ki : Nat → Int32} (hg : g ≤ 6) (hs : sup 0 = nI g) : fX9_greats sup ki = nI (BS (fun i => decide (ki i = 3)) g) := by
  unfold fX9_greats
  exact gr_lp hg hs _ 0 (by omega) (by omega)
/-- whether one holds back: both say the same, of whoever is on the road -/
theorem holds_ {g q : Nat} {sup k9 s y ki hi : Nat → Int32} {ins : Int32} (hg : g ≤ 6) (hs : sup 0 = nI g) (hq : q < g) (hy : ∀ i, i < 6 → 0 ≤ Int32.toInt (y i)) (hk : ∀ i, i < g → ki i = k9 i) (hins : ins = nI (g - cnt (onR y) g)) (hhr : hi q = -1 ∧ s (34 + q) = 0 ∨ ∃ j, j < g ∧ hi q = nI j ∧ s (34 + q) = nI (j + 1)) : fX9_holds (nI q) (nI (BS (onR y) g)) sup k9 s = hold g y ki hi ins q := by
  unfold fX9_holds fX9_holds_J38a fX9_holds_J61a fX9_holds_J96a fX9_holds_J97a hold
  rw [show Int32.toNatClampNeg 0 = 0 by decide, hs, nI_clamp (by omega), ← hk q hq, gr_ hg hs, bn1_, show (34 : Int32) + nI q = nI (34 + q) from nI_add 34 q, nI_clamp (n := 34 + q) (by omega)]
  have hc := cnt_le (p := onR y) g
  have e0 : (nI (BS (onR y) g) = (1 <<< (nI g &&& 31)) - 1) ↔ ins = 0 := by
    rw [BS_full hg, hins]
    have : (nI (g - cnt (onR y) g) = 0) ↔ g - cnt (onR y) g = 0 := nI_eq (a := g - cnt (onR y) g) (b := 0) (by omega) (by omega)
    rw [this]; omega
  have e1 : (nI g ≤ 1) ↔ ¬ 1 < g := by
    have := nI_leI (a := g) (b := 1) (by omega) (by omega)
    exact this.trans ⟨fun z => by omega, fun z => by omega⟩
  have e3 : ((nI (BS (onR y) g) &&& (nI (BS (fun i => decide (k9 i = 3)) g) ^^^ (-1))) = 0) ↔ oth y ki g = false := by
    rw [BS_sub hg]
    constructor
    · intro z
      cases e : oth y ki g with
      | false => rfl
      | true =>
        obtain ⟨i, h1, h2, h3⟩ := (oth_t g).mp e
        have := z i h1 (onR_t.mpr h2)
        rw [decide_eq_true_iff, ← hk i h1] at this
        exact absurd this h3
    · intro z i hi hp
      rw [decide_eq_true_iff]
      refine Decidable.byContradiction (fun h3 => ?_)
      have := (oth_t (y := y) (ki := ki) g).mpr ⟨i, hi, onR_t.mp hp, fun h => h3 (by rw [← hk i hi]; exact h)⟩
      rw [z] at this
      exact Bool.noConfusion this
  have e4 : (if s (34 + q) ≤ 0 then false else (if ((nI (BS (onR y) g) >>> ((s (34 + q) - 1) &&& 31)) &&& 1) = 1 then true else false)) = fX4_isOnRoad (hi q) y := by
    rcases hhr with ⟨a1, a2⟩ | ⟨j, a1, a2, a3⟩
    · rw [a1, a2, c_onN, if_pos (by decide)]
    · rw [a2, a3, c_on (by omega) (hy j (by omega)), if_neg (show ¬ (nI (j + 1) ≤ 0) from fun z => by have := (nI_leI (a := j + 1) (b := 0) (by omega) (by omega)).mp z; omega), show nI (j + 1) - 1 = nI j from by
        refine Int32.toInt_inj.mp ?_
        rw [tI_sub (nI_toInt (by omega)) (show Int32.toInt 1 = 1 by decide) (by omega) (by omega), nI_toInt (by omega)]; omega]
      have hb := (BS_bit (p := onR y) hg a1).1
      cases e : onR y j with
      | true => rw [if_pos (hb.mpr e)]
      | false => rw [if_neg (fun z => by rw [hb.mp z] at e; exact Bool.noConfusion e)]
  rw [e4]
  generalize (nI (BS (onR y) g) &&& (nI (BS (fun i => decide (k9 i = 3)) g) ^^^ (-1))) = X3 at e3 ⊢
  cases fX4_isOnRoad (hi q) y with
  | true =>
    rw [Bool.true_or]
    by_cases h2 : ki q = 2 <;> by_cases h3 : ki q = 3 <;> by_cases h0 : ins = 0 <;> by_cases h1 : 1 < g <;> cases ho : oth y ki g <;> simp [h2, h3, e0, h0, e1, h1, e3, ho]
  | false =>
    rw [Bool.false_or]
    by_cases h2 : ki q = 2 <;> by_cases h3 : ki q = 3 <;> by_cases h0 : ins = 0 <;> by_cases h1 : 1 < g <;> cases ho : oth y ki g <;> simp [h2, h3, e0, h0, e1, h1, e3, ho]
