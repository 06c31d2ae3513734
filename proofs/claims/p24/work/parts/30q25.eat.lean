/-! a night begins: in both -/
def SIX (off s : Nat → Int32) (i : Nat) : Prop := s (4 + i) = off i ∧ s (10 + i) = -1 ∧ s (16 + i) = -1 ∧ s (22 + i) = 0 ∧ s (28 + i) = 0 ∧ s (34 + i) = 0
theorem sets_lp {g : Nat} {sup off s0 : Nat → Int32} {z : Nat → (Nat → Int32) → (Nat → Int32)} (hg : g ≤ 6) (hs : sup 0 = nI g) : ∀ k q s, q ≤ g → 7 - q < k → (∀ i, i < q → SIX off s i) → (∀ j, j < 4 ∨ 40 ≤ j → s j = s0 j) → ∃ s', lp z (fX9_sets_B2a sup off) k q s = s' ∧ (∀ i, i < g → SIX off s' i) ∧ s' 1 = 0 ∧ (∀ j, ¬ j = 1 → j < 4 ∨ 40 ≤ j → s' j = s0 j) := by
  intro k
  induction k with
  | zero => intro q s _ h; exact absurd h (Nat.not_lt_zero _)
  | succ k ih =>
    intro q s hq hk h1 h2
    show ∃ s', fX9_sets_B2a sup off (lp z (fX9_sets_B2a sup off) k) q s = s' ∧ _
    have ih := ih (q + 1)
    generalize lp z (fX9_sets_B2a sup off) k = rc at ih ⊢
    unfold fX9_sets_B2a
    rw [show Int32.toNatClampNeg 0 = 0 by decide, show Int32.toNatClampNeg 1 = 1 by decide, hs]
    by_cases c : g ≤ q
    · rw [if_pos ((nI_leI (by omega) (by omega)).mpr c)]
      refine ⟨_, rfl, fun i hi => ?_, upd_e, fun j hj1 hj2 => by rw [upd_n hj1]; exact h2 j hj2⟩
      obtain ⟨a1, a2, a3, a4, a5, a6⟩ := h1 i (by omega)
      exact ⟨by rw [upd_n (by omega)]; exact a1, by rw [upd_n (by omega)]; exact a2, by rw [upd_n (by omega)]; exact a3, by rw [upd_n (by omega)]; exact a4, by rw [upd_n (by omega)]; exact a5, by rw [upd_n (by omega)]; exact a6⟩
    · rw [if_neg (fun z => c ((nI_leI (a := g) (b := q) (by omega) (by omega)).mp z)), nI_clamp (n := 4 + q) (by omega), nI_clamp (n := q) (by omega), nI_clamp (n := 10 + q) (by omega), nI_clamp (n := 16 + q) (by omega), nI_clamp (n := 22 + q) (by omega), nI_clamp (n := 28 + q) (by omega), nI_clamp (n := 34 + q) (by omega)]
      refine ih _ (by omega) (by omega) (fun i hi => ?_) (fun j hj => ?_)
      · by_cases e : i = q
        · subst e
          refine ⟨?_, ?_, ?_, ?_, ?_, ?_⟩
          · rw [upd_n (by omega), upd_n (by omega), upd_n (by omega), upd_n (by omega), upd_n (by omega), upd_e]
          · rw [upd_n (by omega), upd_n (by omega), upd_n (by omega), upd_n (by omega), upd_e]
          · rw [upd_n (by omega), upd_n (by omega), upd_n (by omega), upd_e]
          · rw [upd_n (by omega), upd_n (by omega), upd_e]
          · rw [upd_n (by omega), upd_e]
          · rw [upd_e]
        · obtain ⟨a1, a2, a3, a4, a5, a6⟩ := h1 i (by omega)
          have n : ∀ j, ¬ j = 4 + q → ¬ j = 10 + q → ¬ j = 16 + q → ¬ j = 22 + q → ¬ j = 28 + q → ¬ j = 34 + q → (upd (upd (upd (upd (upd (upd s (4 + q) (off q)) (10 + q) (-1)) (16 + q) (-1)) (22 + q) 0) (28 + q) 0) (34 + q) 0) j = s j := fun j b1 b2 b3 b4 b5 b6 => by rw [upd_n b6, upd_n b5, upd_n b4, upd_n b3, upd_n b2, upd_n b1]
          exact ⟨by rw [n _ (by omega) (by omega) (by omega) (by omega) (by omega) (by omega)]; exact a1, by rw [n _ (by omega) (by omega) (by omega) (by omega) (by omega) (by omega)]; exact a2, by rw [n _ (by omega) (by omega) (by omega) (by omega) (by omega) (by omega)]; exact a3, by rw [n _ (by omega) (by omega) (by omega) (by omega) (by omega) (by omega)]; exact a4, by rw [n _ (by omega) (by omega) (by omega) (by omega) (by omega) (by omega)]; exact a5, by rw [n _ (by omega) (by omega) (by omega) (by omega) (by omega) (by omega)]; exact a6⟩
      · rw [upd_n (by omega), upd_n (by omega), upd_n (by omega), upd_n (by omega), upd_n (by omega), upd_n (by omega)]
        exact h2 j hj
theorem sets_ {g : Nat} {sup off s : Nat → Int32} (hg : g ≤ 6) (hs : sup 0 = nI g) : ∃ s', fX9_sets sup off s = s' ∧ (∀ i, i < g → SIX off s' i) ∧ s' 1 = 0 ∧ (∀ j, ¬ j = 1 → j < 4 ∨ 40 ≤ j → s' j = s j) := by
  unfold fX9_sets
  exact sets_lp hg hs _ 0 s (by omega) (by omega) (fun i hi => absurd hi (Nat.not_lt_zero _)) (fun _ _ => rfl)
theorem fresh_lp {g : Nat} {sup off : Nat → Int32} {z : Nat → (Nat → Int32) → (Nat → Int32)} (hg : g ≤ 6) (hs : sup 0 = nI g) : ∀ k q s, q ≤ 46 → 47 - q < k → (∀ j, j < q → s j = 0) → ∃ s', lp z (fX9_fresh0_B2a sup off) k q s = s' ∧ (∀ i, i < g → SIX off s' i) ∧ (∀ j, j < 4 ∨ (40 ≤ j ∧ j < 46) → s' j = 0) := by
  intro k
  induction k with
  | zero => intro q s _ h; exact absurd h (Nat.not_lt_zero _)
  | succ k ih =>
    intro q s hq hk h1
    show ∃ s', fX9_fresh0_B2a sup off (lp z (fX9_fresh0_B2a sup off) k) q s = s' ∧ _
    have ih := ih (q + 1)
    generalize lp z (fX9_fresh0_B2a sup off) k = rc at ih ⊢
    unfold fX9_fresh0_B2a
    by_cases c : 46 ≤ q
    · rw [if_pos c, bn1_]
      obtain ⟨s', a1, a2, a3, a4⟩ := sets_ (off := off) (s := s) hg hs
      refine ⟨s', a1, a2, fun j hj => ?_⟩
      by_cases e : j = 1
      · rw [e]; exact a3
      · rw [a4 j e (by omega)]; exact h1 j (by omega)
    · rw [if_neg c, nI_clamp (by omega)]
      refine ih _ (by omega) (by omega) (fun j hj => ?_)
      by_cases e : j = q
      · rw [e, upd_e]
      · rw [upd_n e]; exact h1 j (by omega)
theorem fresh_ {g : Nat} {sup off s : Nat → Int32} (hg : g ≤ 6) (hs : sup 0 = nI g) : ∃ s', fX9_fresh0 sup off s = s' ∧ (∀ i, i < g → SIX off s' i) ∧ (∀ j, j < 4 ∨ (40 ≤ j ∧ j < 46) → s' j = 0) := by
  unfold fX9_fresh0
  exact fresh_lp hg hs _ 0 s (by omega) (by omega) (fun i hi => absurd hi (Nat.not_lt_zero _))
/-- the class's -/
def ifg (g : Nat) (f : Nat → Int32) (i : Nat) : Int32 := if i < g then f i else 0
theorem bg_lp {g : Nat} {ty tp y p st hi pl ca : Nat → Int32} {z : Nat → (Nat → Int32) → (Nat → Int32) → (Nat → Int32) → (Nat → Int32) → (Nat → Int32) → (Nat → Int32) → Int32 × Int32 × (Nat → Int32) × (Nat → Int32) × (Nat → Int32) × (Nat → Int32) × (Nat → Int32) × (Nat → Int32)} : ∀ k q, q ≤ 6 → 7 - q < k → lp z (fX4_beginNight_B12a g ty tp) k q (SEQ (ifg g ty) y q) (SEQ (ifg g tp) p q) (SEQ (fun _ => 0) st q) (SEQ (fun _ => -1) hi q) (SEQ (fun _ => -1) pl q) (SEQ (fun _ => -1) ca q) = (0, 0, SEQ (ifg g ty) y 6, SEQ (ifg g tp) p 6, SEQ (fun _ => 0) st 6, SEQ (fun _ => -1) hi 6, SEQ (fun _ => -1) pl 6, SEQ (fun _ => -1) ca 6) := by
  intro k
  induction k with
  | zero => intro q _ h; exact absurd h (Nat.not_lt_zero _)
  | succ k ih =>
    intro q hq hk
    show fX4_beginNight_B12a g ty tp (lp z (fX4_beginNight_B12a g ty tp) k) q (SEQ (ifg g ty) y q) (SEQ (ifg g tp) p q) (SEQ (fun _ => 0) st q) (SEQ (fun _ => -1) hi q) (SEQ (fun _ => -1) pl q) (SEQ (fun _ => -1) ca q) = _
    have ih := ih (q + 1)
    generalize lp z (fX4_beginNight_B12a g ty tp) k = rc at ih ⊢
    unfold fX4_beginNight_B12a fX4_beginNight_J31a fX4_beginNight_J51a fX4_beginNight_J71a
    by_cases c : 6 ≤ q
    · rw [if_pos c, show q = 6 by omega]
    · have ih := ih (by omega) (by omega)
      have s0 : upd (SEQ (fun _ => 0) st q) q 0 = SEQ (fun _ => 0) st (q + 1) := SEQ_s (N := fun _ => 0)
      have s1 : upd (SEQ (fun _ => -1) hi q) q (-1) = SEQ (fun _ => -1) hi (q + 1) := SEQ_s (N := fun _ => -1)
      have s2 : upd (SEQ (fun _ => -1) pl q) q (-1) = SEQ (fun _ => -1) pl (q + 1) := SEQ_s (N := fun _ => -1)
      have s3 : upd (SEQ (fun _ => -1) ca q) q (-1) = SEQ (fun _ => -1) ca (q + 1) := SEQ_s (N := fun _ => -1)
      rw [if_neg c, nI_clamp (by omega), s0, s1, s2, s3]
      by_cases d : g ≤ q
      · rw [if_pos d, if_neg (by decide), if_neg (by decide)]
        have y0 := SEQ_s (N := ifg g ty) (f := y) (q := q)
        rw [show ifg g ty q = 0 from if_neg (by omega)] at y0
        have p0 := SEQ_s (N := ifg g tp) (f := p) (q := q)
        rw [show ifg g tp q = 0 from if_neg (by omega)] at p0
        rw [y0, p0]
        exact ih
      · rw [if_neg d, if_pos rfl, if_pos rfl]
        rw [show ty q = ifg g ty q from (if_pos (by omega)).symm, show tp q = ifg g tp q from (if_pos (by omega)).symm, SEQ_s, SEQ_s]
        exact ih
theorem bg_ {g : Nat} {ty tp y p st hi pl ca : Nat → Int32} : fX4_beginNight y p st hi pl ca g ty tp = (0, 0, SEQ (ifg g ty) y 6, SEQ (ifg g tp) p 6, SEQ (fun _ => 0) st 6, SEQ (fun _ => -1) hi 6, SEQ (fun _ => -1) pl 6, SEQ (fun _ => -1) ca 6) := by
  unfold fX4_beginNight
  have h := bg_lp (g := g) (ty := ty) (tp := tp) (y := y) (p := p) (st := st) (hi := hi) (pl := pl) (ca := ca) (z := fun _ _ _ _ _ _ _ => ((0 : Int32), (0 : Int32), (fun _ => 0), (fun _ => 0), (fun _ => 0), (fun _ => 0), (fun _ => 0), (fun _ => 0))) ((6 + 1 - 0) + 1) 0 (by omega) (by omega)
  rw [SEQ_0, SEQ_0, SEQ_0, SEQ_0, SEQ_0, SEQ_0] at h
  exact h
/-- how it is, in both: no taste -/
def RD (g B : Nat) (p9 : Nat → Int32) (ins ni mi : Int32) (y pc st hi pl ca ck s : Nat → Int32) : Prop :=
  (∀ i, i < 6 → 0 ≤ Int32.toInt (y i)) ∧ (∀ i, i < g → y i = s (4 + i) ∧ pl i = s (10 + i) ∧ ca i = s (16 + i) ∧ st i = s (22 + i) ∧ pc i = (if p9 i + s (28 + i) < 40 then p9 i + s (28 + i) else 40) ∧ ck i = s (40 + i)) ∧ (∀ q, q < g → (hi q = -1 ∧ s (34 + q) = 0 ∨ ∃ j, j < g ∧ hi q = nI j ∧ s (34 + q) = nI (j + 1))) ∧ ins = nI (g - cnt (onR y) g) ∧ PI g (g - cnt (onR y) g) y pl ∧ (∀ q, g ≤ q → q < 6 → y q = 0 ∧ (0 < g → hi q = -1 ∧ ca q = -1) ∧ ck q = 0) ∧ ni = s 0 ∧ ni = s 3 ∧ mi = s 1 ∧ (∀ i, i < g → 0 ≤ Int32.toInt (s (28 + i)) ∧ Int32.toInt (s (28 + i)) + Int32.toInt (p9 i) ≤ 40) ∧ (∀ i, i < g → 0 ≤ Int32.toInt (ck i) ∧ Int32.toInt (ck i) ≤ (B : Int)) ∧ (0 ≤ Int32.toInt mi ∧ Int32.toInt mi ≤ (B : Int))
/-- what is told: the ranges that a minute wants -/
def TQ (g : Nat) (be : Int32) (ki ty tp sup k9 o9 p9 : Nat → Int32) : Prop := g ≤ 6 ∧ sup 0 = nI g ∧ sup 1 = be ∧ 0 ≤ Int32.toInt be ∧ (∀ i, i < g → ki i = k9 i ∧ ty i = o9 i ∧ tp i = p9 i ∧ 1 ≤ Int32.toInt (ty i) ∧ 0 ≤ Int32.toInt (tp i) ∧ Int32.toInt (tp i) ≤ 30)
/-- all as told, in both -/
theorem RD_new {g B : Nat} {be ni : Int32} {ki ty tp sup k9 o9 p9 y p st hi pl ca ck s : Nat → Int32} (hT : TQ g be ki ty tp sup k9 o9 p9) (h6 : ∀ i, i < g → SIX o9 s i) (h1 : s 1 = 0) (h0 : ni = s 0) (h3 : ni = s 3) (hck : ∀ i, i < g → ck i = s (40 + i)) (hc6 : ∀ q, g ≤ q → q < 6 → ck q = 0) (hckB : ∀ i, i < g → 0 ≤ Int32.toInt (ck i) ∧ Int32.toInt (ck i) ≤ (B : Int)) : RD g B p9 0 ni 0 (SEQ (ifg g ty) y 6) (SEQ (ifg g tp) p 6) (SEQ (fun _ => 0) st 6) (SEQ (fun _ => -1) hi 6) (SEQ (fun _ => -1) pl 6) (SEQ (fun _ => -1) ca 6) ck s := by
  obtain ⟨hg, hs, hb, hb0, hq⟩ := hT
  have yl : ∀ i, i < g → SEQ (ifg g ty) y 6 i = ty i := fun i hi => by rw [SEQ_lt (by omega)]; exact if_pos hi
  have yg : ∀ i, g ≤ i → i < 6 → SEQ (ifg g ty) y 6 i = 0 := fun i h1 h2 => by rw [SEQ_lt h2]; exact if_neg (by omega)
  have yn : ∀ i, i < g → ¬ SEQ (ifg g ty) y 6 i = 0 := fun i hi z => by
    have := (hq i hi).2.2.2.1
    rw [← yl i hi, z, show Int32.toInt 0 = 0 by decide] at this
    omega
  have hcn : cnt (onR (SEQ (ifg g ty) y 6)) g = g := (cnt_all g).mpr (fun i hi => onR_t.mpr (yn i hi))
  refine ⟨fun i hi => ?_, fun i hi => ?_, fun q hq' => Or.inl ⟨SEQ_lt (by omega), (h6 q hq').2.2.2.2.2⟩, ?_, ?_, fun q a b => ⟨yg q a b, fun _ => ⟨SEQ_lt b, SEQ_lt b⟩, hc6 q a b⟩, h0, h3, h1.symm, fun i hi => ?_, hckB, ⟨by decide, by rw [show Int32.toInt 0 = 0 by decide]; omega⟩⟩
  · by_cases c : i < g
    · rw [yl i c]; have := (hq i c).2.2.2.1; omega
    · rw [yg i (by omega) hi]; decide
  · obtain ⟨a1, a2, a3, a4, a5, a6⟩ := h6 i hi
    obtain ⟨b1, b2, b3, b4, b5, b6⟩ := hq i hi
    refine ⟨by rw [yl i hi, a1, b2], by rw [SEQ_lt (by omega), a2], by rw [SEQ_lt (by omega), a3], by rw [SEQ_lt (by omega), a4], ?_, hck i hi⟩
    have e : SEQ (ifg g tp) p 6 i = tp i := by rw [SEQ_lt (by omega)]; exact if_pos hi
    have e0 : p9 i + s (28 + i) = p9 i := by
      refine Int32.toInt_inj.mp ?_
      rw [a5, tI_add rfl (show Int32.toInt 0 = 0 by decide) (by rw [← b3]; omega) (by rw [← b3]; omega), Int.add_zero]
    rw [e, e0, b3, if_pos (by rw [Int32.lt_iff_toInt_lt, show Int32.toInt 40 = 40 by decide, ← b3]; omega)]
  · rw [hcn, Nat.sub_self]; decide
  · rw [hcn, Nat.sub_self]
    exact ⟨fun i hi => absurd hi (Nat.not_lt_zero _), fun q hq' z => absurd z (yn q hq'), fun q q' a _ z _ _ => absurd z (yn q a), fun q a _ _ => SEQ_lt a⟩
  · rw [(h6 i hi).2.2.2.2.1, show Int32.toInt 0 = 0 by decide]
    have := (hq i hi).2.2.2.2.2
    rw [(hq i hi).2.2.1] at this
    omega
