/-! the class's tokens, over its pure functions -/
theorem bn1_ {A T : Type} (p : A) (F : A → T) : bn1 p F = F p := rfl
theorem cL (x : Int32) : fX6_isLetter x = isL x := by
  have e1 : Int32.toInt 97 = 97 := by decide
  have e2 : Int32.toInt 122 = 122 := by decide
  unfold fX6_isLetter fX6_isLetter_J16a fX6_isLetter_J17a isL
  by_cases h1 : x < 97
  · rw [if_pos h1]
    rw [Int32.lt_iff_toInt_lt] at h1
    rw [decide_eq_false (p := 97 ≤ Int32.toInt x) (by omega), Bool.false_and]
  · rw [if_neg h1]
    rw [Int32.lt_iff_toInt_lt] at h1
    rw [decide_eq_true (p := 97 ≤ Int32.toInt x) (by omega), Bool.true_and]
    by_cases h2 : (122 : Int32) < x
    · rw [if_pos h2]
      rw [Int32.lt_iff_toInt_lt] at h2
      rw [decide_eq_false (p := Int32.toInt x ≤ 122) (by omega)]
    · rw [if_neg h2]
      rw [Int32.lt_iff_toInt_lt] at h2
      rw [decide_eq_true (p := Int32.toInt x ≤ 122) (by omega)]
theorem cD (x : Int32) : fX6_isDigit x = isD x := by
  have e1 : Int32.toInt 48 = 48 := by decide
  have e2 : Int32.toInt 57 = 57 := by decide
  unfold fX6_isDigit fX6_isDigit_J16a fX6_isDigit_J17a isD
  by_cases h1 : x < 48
  · rw [if_pos h1]
    rw [Int32.lt_iff_toInt_lt] at h1
    rw [decide_eq_false (p := 48 ≤ Int32.toInt x) (by omega), Bool.false_and]
  · rw [if_neg h1]
    rw [Int32.lt_iff_toInt_lt] at h1
    rw [decide_eq_true (p := 48 ≤ Int32.toInt x) (by omega), Bool.true_and]
    by_cases h2 : (57 : Int32) < x
    · rw [if_pos h2]
      rw [Int32.lt_iff_toInt_lt] at h2
      rw [decide_eq_false (p := Int32.toInt x ≤ 57) (by omega)]
    · rw [if_neg h2]
      rw [Int32.lt_iff_toInt_lt] at h2
      rw [decide_eq_true (p := Int32.toInt x ≤ 57) (by omega)]
theorem adv_sp {n : Nat} {L : Int64} {s : Nat → Int32} {w : Nat → Int64} {f : Nat → Int32} {z : Nat → Nat × Int32 × Int32 × Int32 × Int64} (hn : n ≤ 1000) : ∀ k p, p ≤ n → 1000 + 1 - p < k → lp z (fX6_advance_B0a n L s w f) k p = fX6_advance_J52a n L s w f (tB s n p) := by
  have e1 : Int32.toInt 10 = 10 := by decide
  have e2 : Int32.toInt 32 = 32 := by decide
  intro k
  induction k with
  | zero => intro p _ h; exact absurd h (Nat.not_lt_zero _)
  | succ k ih =>
    intro p hp h
    show fX6_advance_B0a n L s w f (lp z (fX6_advance_B0a n L s w f) k) p = _
    generalize lp z (fX6_advance_B0a n L s w f) k = rc at ih ⊢
    unfold fX6_advance_B0a fX6_advance_J39a
    rw [nI_clamp (by omega)]
    by_cases h1 : n ≤ p
    · rw [if_pos h1]
      unfold tB
      rw [runE_stop (fun q => absurd q.1 (by omega))]
    · rw [if_neg h1]
      by_cases h2 : s p = 10
      · rw [if_pos h2, ih (p + 1) (by omega) (by omega)]
        unfold tB
        rw [runE_step (p := p) (by omega) (isB_t.mpr (Or.inr (by rw [h2]; exact e1)))]
      · rw [if_neg h2]
        by_cases h3 : s p = 32
        · rw [if_pos h3, ih (p + 1) (by omega) (by omega)]
          unfold tB
          rw [runE_step (p := p) (by omega) (isB_t.mpr (Or.inl (by rw [h3]; exact e2)))]
        · rw [if_neg h3]
          unfold tB
          rw [runE_stop (p := p)]
          intro q
          rcases isB_t.mp q.2 with y | y
          · exact h3 (Int32.toInt_inj.mp (y.trans e2.symm))
          · exact h2 (Int32.toInt_inj.mp (y.trans e1.symm))
theorem lr_len {s : Nat → Int32} {b : Nat} : ∀ m, (lr s b m).length = m
  | 0 => rfl
  | m + 1 => congrArg (· + 1) (lr_len m)
theorem pw8 {β : Int} (h : 1 ≤ β) : ∀ {m : Nat}, m ≤ 8 → β ^ m ≤ β ^ 8 := by
  intro m hm
  obtain ⟨d, hd⟩ : ∃ d, m + d = 8 := ⟨8 - m, by omega⟩
  rw [← hd, Int.pow_add]
  have h1 : (1 : Int) ≤ β ^ d := Int.pow_pos (by omega)
  have h2 : 0 ≤ β ^ m := Int.le_of_lt (Int.pow_pos (by omega))
  have h3 := Int.mul_le_mul_of_nonneg_left h1 h2
  rw [Int.mul_one] at h3
  exact h3
theorem Er8 {β : Int} (h : 27 ≤ β) {l : List Int} (ho : okl l) (hl : l.length ≤ 8) : 0 ≤ Er β l ∧ Er β l < β ^ 8 :=
  ⟨Er_nn h ho, Int.lt_of_lt_of_le (Er_lt h ho) (pw8 (by omega) hl)⟩
theorem i64_ma {a B : Int64} {c : Int32} {A C b : Int} (ha : Int64.toInt a = A) (hB : Int64.toInt B = b) (hc : Int32.toInt c = C) (h1 : 0 ≤ A * b) (h2 : A * b < 4611686018427387904) (h3 : -2147483648 ≤ C) (h4 : C < 2147483648) : Int64.toInt (a * B + c.toInt64) = A * b + C := by
  rw [Int64.toInt_add, Int64.toInt_mul, ha, hB, Int32.toInt_toInt64, hc]
  rw [Int.bmod_eq_of_le (n := A * b) (by omega) (by omega)]
  exact Int.bmod_eq_of_le (by omega) (by omega)
theorem wl_ {acc : Int64} {c : Int32} {A : Int} (ha : Int64.toInt acc = A) (h0 : 0 ≤ A) (h1 : A < 1099511627776) (hc : isL c = true) : Int64.toInt (fX6_withLetter acc c) = A * 32 + (Int32.toInt c - 96) := by
  have hc := isL_t.mp hc
  unfold fX6_withLetter
  have e1 : Int32.toInt (c - 97) = Int32.toInt c - 97 := tI_sub rfl (by decide) (by omega) (by omega)
  have e2 : Int32.toInt (c - 97 + 1) = Int32.toInt c - 97 + 1 := tI_add e1 (by decide) (by omega) (by omega)
  rw [i64_ma (A := A) (b := 32) ha (by decide) e2 (by omega) (by omega) (by omega) (by omega)]
  omega
theorem rw_lp {n b : Nat} {pl v : Int32} {s : Nat → Int32} {w : Nat → Int64} {z : Nat → Int64 → Nat × Int32 × Int32 × Int64} (hn : n ≤ 1000) : ∀ k m acc, b + m ≤ n → 1000 + 1 - (b + m) < k → (∀ q, b ≤ q → q < b + m → isL (s q) = true) → (m ≤ 8 → Int64.toInt acc = Er 32 (lr s b m)) → ∃ L', lp z (fX6_readWord_B5a n pl v s w) k (b + m) acc = fX6_readWord_J64a pl v w (runE isL s n (b + m)) L' ∧ (runE isL s n (b + m) - b ≤ 8 → Int64.toInt L' = Er 32 (lr s b (runE isL s n (b + m) - b))) := by
  intro k
  induction k with
  | zero => intro m acc _ h; exact absurd h (Nat.not_lt_zero _)
  | succ k ih =>
    intro m acc hp h hl ha
    show ∃ L', fX6_readWord_B5a n pl v s w (lp z (fX6_readWord_B5a n pl v s w) k) (b + m) acc = _ ∧ _
    generalize lp z (fX6_readWord_B5a n pl v s w) k = rc at ih ⊢
    unfold fX6_readWord_B5a
    rw [bn1_, bn1_, nI_clamp (by omega), cL]
    by_cases h1 : n ≤ b + m
    · rw [if_pos h1, runE_stop (fun q => absurd q.1 (by omega))]
      exact ⟨acc, rfl, fun q => by rw [show b + m - b = m by omega] at q ⊢; exact ha q⟩
    · rw [if_neg h1]
      by_cases h2 : isL (s (b + m)) = true
      · rw [if_pos h2, runE_step (p := b + m) (by omega) h2]
        refine ih (m + 1) _ (by omega) (by omega) (fun q q1 q2 => ?_) (fun q => ?_)
        · by_cases e : q = b + m
          · rw [e]; exact h2
          · exact hl q q1 (by omega)
        · have h8 := Er8 (β := 32) (by decide) (okl_lr hl) (by rw [lr_len]; omega)
          rw [wl_ (ha (by omega)) h8.1 (by have := h8.2; omega) h2]
          rfl
      · rw [if_neg h2, runE_stop (p := b + m) (fun q => h2 q.2)]
        exact ⟨acc, rfl, fun q => by rw [show b + m - b = m by omega] at q ⊢; exact ha q⟩
/-- which of the words it is -/
def fnd (w : Nat → Int64) (L : Int64) : Nat → Nat → Int32 → Int32
  | 0, _, v => v
  | r + 1, j, v => fnd w L r (j + 1) (if w j = L then nI j else v)
theorem wd_lp {e : Nat} {L : Int64} {w : Nat → Int64} {z : Nat → Int32 → Nat × Int32 × Int32 × Int64} : ∀ k j v, j ≤ 23 → 24 - j < k → lp z (fX6_readWord_B89a w e L 1) k j v = (e, 1, fnd w L (23 - j) j v, L) := by
  intro k
  induction k with
  | zero => intro j v _ h; exact absurd h (Nat.not_lt_zero _)
  | succ k ih =>
    intro j v hj h
    show fX6_readWord_B89a w e L 1 (lp z (fX6_readWord_B89a w e L 1) k) j v = _
    generalize lp z (fX6_readWord_B89a w e L 1) k = rc at ih ⊢
    unfold fX6_readWord_B89a fX6_readWord_J125a fX6_readWord_J131a
    rw [nI_clamp (by omega), if_pos (rfl : (1 : Int32) = 1)]
    by_cases h1 : 23 ≤ j
    · rw [if_pos h1, show 23 - j = 0 by omega]; rfl
    · rw [if_neg h1, show 23 - j = (23 - (j + 1)) + 1 by omega]
      show _ = (e, 1, fnd w L (23 - (j + 1)) (j + 1) (if w j = L then nI j else v), L)
      by_cases h2 : w j = L
      · rw [if_pos ((lg_cmp_eq _ _).mpr h2), if_pos h2]
        exact ih (j + 1) _ (by omega) (by omega)
      · rw [if_neg (fun q => h2 ((lg_cmp_eq _ _).mp q)), if_neg h2]
        exact ih (j + 1) _ (by omega) (by omega)
theorem fnd_no {w : Nat → Int64} {L : Int64} : ∀ {r j : Nat} {v : Int32}, (∀ i, j ≤ i → i < j + r → ¬ w i = L) → fnd w L r j v = v
  | 0, _, _, _ => rfl
  | r + 1, j, v, h => by
    show fnd w L r (j + 1) (if w j = L then nI j else v) = v
    rw [if_neg (h j (by omega) (by omega))]
    exact fnd_no (fun i h1 h2 => h i (by omega) (by omega))
theorem fnd_yes {w : Nat → Int64} {L : Int64} {i0 : Nat} : ∀ {r j : Nat} {v : Int32}, (∀ i, j ≤ i → i < j + r → (w i = L ↔ i = i0)) → j ≤ i0 → i0 < j + r → fnd w L r j v = nI i0
  | 0, j, _, _, h1, h2 => absurd h2 (by omega)
  | r + 1, j, v, h, h1, h2 => by
    show fnd w L r (j + 1) (if w j = L then nI j else v) = nI i0
    by_cases e : j = i0
    · rw [if_pos ((h j (by omega) (by omega)).mpr e), e]
      exact fnd_no (fun i k1 k2 q => absurd ((h i (by omega) (by omega)).mp q) (by omega))
    · exact fnd_yes (fun i k1 k2 => h i (by omega) (by omega)) (by omega) (by omega)
/-- the number of a word: its place among the words, NONE -/
def WV (l : List Int) (v : Int32) : Prop := (∃ j, j < 23 ∧ l = wd j ∧ v = nI j) ∨ ((∀ j, j < 23 → ¬ l = wd j) ∧ v = -1)
def WT (w : Nat → Int64) : Prop := ∀ j, j < 23 → Int64.toInt (w j) = Er 32 (wd j)
theorem fnd_wv {w : Nat → Int64} {L : Int64} {l : List Int} (hw : WT w) (ho : okl l) (hL : Int64.toInt L = Er 32 l) : WV l (fnd w L 23 0 (-1)) := by
  have key : ∀ i, i < 23 → (w i = L ↔ l = wd i) := by
    intro i hi
    constructor
    · intro q
      have h1 := hw i hi
      rw [q, hL] at h1
      exact (wd_32 ho hi).mp h1
    · intro q
      apply Int64.toInt_inj.mp
      rw [hw i hi, hL, q]
  by_cases h : ∃ j, j < 23 ∧ l = wd j
  · obtain ⟨j, hj, e⟩ := h
    refine Or.inl ⟨j, hj, e, fnd_yes (fun i _ hi => ?_) (by omega) (by omega)⟩
    rw [key i (by omega)]
    constructor
    · intro q; exact wd_inj i (by omega) j hj (q.symm.trans e)
    · intro q; rw [q]; exact e
  · exact Or.inr ⟨fun j hj e => h ⟨j, hj, e⟩, fnd_no (fun i _ hi q => h ⟨i, by omega, (key i (by omega)).mp q⟩)⟩
/-- a number's value -/
def nv (s : Nat → Int32) (b : Nat) : Nat → Int
  | 0 => 0
  | m + 1 => nv s b m * 10 + (Int32.toInt (s (b + m)) - 48)
theorem nv_b {s : Nat → Int32} {b : Nat} : ∀ {m : Nat}, (∀ q, b ≤ q → q < b + m → isD (s q) = true) → 0 ≤ nv s b m ∧ nv s b m < 10 ^ m
  | 0, _ => ⟨Int.le_refl 0, by show (0 : Int) < 10 ^ 0; rw [Int.pow_zero]; decide⟩
  | m + 1, h => by
    have h1 := nv_b (m := m) (fun q a1 a2 => h q a1 (by omega))
    have h2 := isD_t.mp (h (b + m) (by omega) (by omega))
    show 0 ≤ nv s b m * 10 + (Int32.toInt (s (b + m)) - 48) ∧ nv s b m * 10 + (Int32.toInt (s (b + m)) - 48) < 10 ^ (m + 1)
    rw [Int.pow_succ]
    omega
theorem nv_4 {s : Nat → Int32} {b m : Nat} (h : ∀ q, b ≤ q → q < b + m → isD (s q) = true) (hm : m ≤ 4) : 0 ≤ nv s b m ∧ nv s b m ≤ 9999 := by
  have h1 := nv_b h
  have h2 : (10 : Int) ^ m ≤ 10000 := by
    have : ∀ m, m ≤ 4 → (10 : Int) ^ m ≤ 10000 := by decide
    exact this m hm
  omega
theorem nv_s {acc c : Int32} {A : Int} (ha : Int32.toInt acc = A) (h0 : 0 ≤ A) (h1 : A ≤ 9999) (hc : isD c = true) : Int32.toInt ((acc * 10 + c) - 48) = A * 10 + (Int32.toInt c - 48) := by
  have hc := isD_t.mp hc
  have e1 : Int32.toInt (acc * 10) = A * 10 := tI_mul ha (by decide) (by omega) (by omega)
  have e2 : Int32.toInt (acc * 10 + c) = A * 10 + Int32.toInt c := tI_add e1 rfl (by omega) (by omega)
  rw [tI_sub e2 (show Int32.toInt 48 = 48 by decide) (by omega) (by omega)]
  omega
theorem rn_lp {n b : Nat} {pl : Int32} {s : Nat → Int32} {z : Nat → Int32 → Nat × Int32 × Int32} (hn : n ≤ 1000) : ∀ k m acc, b + m ≤ n → 1000 + 1 - (b + m) < k → (∀ q, b ≤ q → q < b + m → isD (s q) = true) → (m ≤ 4 → Int32.toInt acc = nv s b m) → ∃ v, lp z (fX6_readNumber_B5a n pl s) k (b + m) acc = fX6_readNumber_J68a pl (runE isD s n (b + m)) v ∧ (runE isD s n (b + m) - b ≤ 4 → Int32.toInt v = nv s b (runE isD s n (b + m) - b)) := by
  intro k
  induction k with
  | zero => intro m acc _ h; exact absurd h (Nat.not_lt_zero _)
  | succ k ih =>
    intro m acc hp h hl ha
    show ∃ v, fX6_readNumber_B5a n pl s (lp z (fX6_readNumber_B5a n pl s) k) (b + m) acc = _ ∧ _
    generalize lp z (fX6_readNumber_B5a n pl s) k = rc at ih ⊢
    unfold fX6_readNumber_B5a
    rw [bn1_, nI_clamp (by omega), cD]
    by_cases h1 : n ≤ b + m
    · rw [if_pos h1, runE_stop (fun q => absurd q.1 (by omega))]
      exact ⟨acc, rfl, fun q => by rw [show b + m - b = m by omega] at q ⊢; exact ha q⟩
    · rw [if_neg h1]
      by_cases h2 : isD (s (b + m)) = true
      · rw [if_pos h2, runE_step (p := b + m) (by omega) h2]
        refine ih (m + 1) _ (by omega) (by omega) (fun q q1 q2 => ?_) (fun q => ?_)
        · by_cases e : q = b + m
          · rw [e]; exact h2
          · exact hl q q1 (by omega)
        · have h8 := nv_4 hl (by omega)
          rw [nv_s (ha (by omega)) h8.1 h8.2 h2]
          rfl
      · rw [if_neg h2, runE_stop (p := b + m) (fun q => h2 q.2)]
        exact ⟨acc, rfl, fun q => by rw [show b + m - b = m by omega] at q ⊢; exact ha q⟩
/-- the tape of the class at the token that begins at b -/
def CT (s : Nat → Int32) (n b nx : Nat) (pl kd vl : Int32) (lt : Int64) : Prop :=
  b ≤ n ∧ nx = tE s n b ∧ pl = nI b ∧ kd = nI (tK s n b) ∧ (tK s n b = 1 → Int64.toInt lt = Er 32 (lr s b (tE s n b - b)) ∧ WV (lr s b (tE s n b - b)) vl) ∧ (tK s n b = 2 → Int32.toInt vl = nv s b (tE s n b - b)) ∧ (tK s n b = 3 → vl = s b)
/-- the signs' text: what stands in it -/
def SG (f s : Nat → Int32) : Prop := ∀ q, (¬ ixS f (((s q).toUInt32 % 65536).toInt32) < 0) ↔ isG (s q) = true
theorem readWord_ {n b : Nat} {v : Int32} {s : Nat → Int32} {w : Nat → Int64} (hn : n ≤ 1000) (hb : b < n) (hl : isL (s b) = true) (hw : WT w) : ∃ kd vl L, fX6_readWord n b (nI b) (-1) s w = (tE s n b, kd, vl, L) ∧ kd = nI (tK s n b) ∧ (tK s n b = 1 → Int64.toInt L = Er 32 (lr s b (tE s n b - b)) ∧ WV (lr s b (tE s n b - b)) vl) := by
  have eE : tE s n b = runE isL s n b := by unfold tE; rw [if_neg (by omega), if_pos hl]
  have hgt := tE_gt (f := s) hb
  have hle := tE_le (f := s) (n := n) (b := b) (by omega)
  obtain ⟨L, h1, h2⟩ := rw_lp (z := fun _ _ => (0, (0 : Int32), (0 : Int32), (0 : Int64))) (pl := nI b) (v := -1) (s := s) (w := w) (b := b) hn (1000 + 1 - b + 1) 0 0 (by omega) (by omega) (fun q q1 q2 => absurd q2 (by omega)) (fun _ => rfl)
  rw [show b + 0 = b from rfl, ← eE] at h1 h2
  unfold fX6_readWord
  rw [h1]
  unfold fX6_readWord_J64a fX6_readWord_J84a
  rw [nI_sub_ (by omega) (by omega)]
  have e8 : Int32.toInt 8 = 8 := by decide
  have eK : tK s n b = if tE s n b - b ≤ 8 then 1 else 4 := by unfold tK; rw [if_neg (by omega), if_pos hl]
  by_cases h8 : tE s n b - b ≤ 8
  · rw [if_neg (by rw [Int32.lt_iff_toInt_lt, e8, nI_toInt (by omega)]; omega)]
    rw [if_pos h8] at eK
    rw [eK]
    refine ⟨1, fnd w L 23 0 (-1), L, wd_lp _ 0 (-1) (by omega) (by omega), by decide, fun _ => ⟨h2 h8, fnd_wv hw (lr_ok hl hb) (h2 h8)⟩⟩
  · rw [if_pos (by rw [Int32.lt_iff_toInt_lt, e8, nI_toInt (by omega)]; omega)]
    rw [if_neg h8] at eK
    rw [eK]
    refine ⟨4, -1, L, ?_, by decide, fun q => absurd q (by decide)⟩
    show fX6_readWord_B89a w (tE s n b) L 4 _ 0 (-1) = _
    unfold fX6_readWord_B89a fX6_readWord_J131a
    rw [if_neg (by decide), if_neg (by decide)]
theorem readNumber_ {n b : Nat} {s : Nat → Int32} (hn : n ≤ 1000) (hb : b < n) (hl : ¬ isL (s b) = true) (hd : isD (s b) = true) : ∃ kd vl, fX6_readNumber n b (nI b) s = (tE s n b, kd, vl) ∧ kd = nI (tK s n b) ∧ (tK s n b = 2 → Int32.toInt vl = nv s b (tE s n b - b)) := by
  have eE : tE s n b = runE isD s n b := by unfold tE; rw [if_neg (by omega), if_neg hl, if_pos hd]
  have hgt := tE_gt (f := s) hb
  have hle := tE_le (f := s) (n := n) (b := b) (by omega)
  obtain ⟨v, h1, h2⟩ := rn_lp (z := fun _ _ => (0, (0 : Int32), (0 : Int32))) (pl := nI b) (s := s) (b := b) hn (1000 + 1 - b + 1) 0 0 (by omega) (by omega) (fun q q1 q2 => absurd q2 (by omega)) (fun _ => by show Int32.toInt 0 = 0; decide)
  rw [show b + 0 = b from rfl, ← eE] at h1 h2
  unfold fX6_readNumber
  rw [h1]
  unfold fX6_readNumber_J68a fX6_readNumber_J87a
  rw [nI_sub_ (by omega) (by omega)]
  have e8 : Int32.toInt 4 = 4 := by decide
  have eK : tK s n b = if tE s n b - b ≤ 4 then 2 else 4 := by unfold tK; rw [if_neg (by omega), if_neg hl, if_pos hd]
  by_cases h8 : tE s n b - b ≤ 4
  · rw [if_neg (by rw [Int32.lt_iff_toInt_lt, e8, nI_toInt (by omega)]; omega)]
    rw [if_pos h8] at eK
    rw [eK]
    exact ⟨2, v, rfl, by decide, fun _ => h2 h8⟩
  · rw [if_pos (by rw [Int32.lt_iff_toInt_lt, e8, nI_toInt (by omega)]; omega)]
    rw [if_neg h8] at eK
    rw [eK]
    exact ⟨4, v, rfl, by decide, fun q => absurd q (by decide)⟩
theorem advance_ {n nx : Nat} {L : Int64} {s : Nat → Int32} {w : Nat → Int64} {f : Nat → Int32} (hn : n ≤ 1000) (hx : nx ≤ n) (hw : WT w) (hf : SG f s) : ∃ a b c d e, fX6_advance n nx L s w f = (a, b, c, d, e) ∧ CT s n (tB s n nx) a b c d e := by
  have hb : tB s n nx ≤ n := runE_le hx
  unfold fX6_advance
  rw [adv_sp hn _ nx hx (by omega)]
  generalize tB s n nx = b at hb ⊢
  unfold fX6_advance_J52a fX6_advance_J173a fX6_advance_J160a
  by_cases h1 : b < n
  · rw [if_pos h1, nI_clamp (by omega), bn1_, bn1_, cL, cD]
    by_cases hl : isL (s b) = true
    · rw [if_pos hl]
      obtain ⟨kd, vl, L', h2, h3, h4⟩ := readWord_ (v := -1) hn h1 hl hw
      rw [h2]
      refine ⟨_, _, _, _, _, rfl, hb, rfl, rfl, h3, h4, fun q => ?_, fun q => ?_⟩
      · exfalso
        unfold tK at q
        rw [if_neg (by omega), if_pos hl] at q
        split at q <;> omega
      · exfalso
        unfold tK at q
        rw [if_neg (by omega), if_pos hl] at q
        split at q <;> omega
    · rw [if_neg hl]
      by_cases hd : isD (s b) = true
      · rw [if_pos hd]
        obtain ⟨kd, vl, h2, h3, h4⟩ := readNumber_ hn h1 hl hd
        rw [h2]
        refine ⟨_, _, _, _, _, rfl, hb, rfl, rfl, h3, fun q => ?_, h4, fun q => ?_⟩
        · exfalso
          unfold tK at q
          rw [if_neg (by omega), if_neg hl, if_pos hd] at q
          split at q <;> omega
        · exfalso
          unfold tK at q
          rw [if_neg (by omega), if_neg hl, if_pos hd] at q
          split at q <;> omega
      · rw [if_neg hd, bn1_]
        have eE : tE s n b = b + 1 := by unfold tE; rw [if_neg (by omega), if_neg hl, if_neg hd]
        have eK : tK s n b = if isG (s b) = true then 3 else 4 := by unfold tK; rw [if_neg (by omega), if_neg hl, if_neg hd]
        by_cases hg : isG (s b) = true
        · rw [if_neg ((hf b).mpr hg)]
          rw [if_pos hg] at eK
          exact ⟨_, _, _, _, _, rfl, hb, eE.symm, rfl, by rw [eK]; decide, fun q => absurd (eK.symm.trans q) (by decide), fun q => absurd (eK.symm.trans q) (by decide), fun _ => rfl⟩
        · rw [if_pos (Decidable.byContradiction (fun q => hg ((hf b).mp q)))]
          rw [if_neg hg] at eK
          exact ⟨_, _, _, _, _, rfl, hb, eE.symm, rfl, by rw [eK]; decide, fun q => absurd (eK.symm.trans q) (by decide), fun q => absurd (eK.symm.trans q) (by decide), fun _ => rfl⟩
  · rw [if_neg h1]
    have e : b = n := by omega
    have eE : tE s n b = b := by unfold tE; rw [if_pos e]
    have eK : tK s n b = 0 := by unfold tK; rw [if_pos e]
    exact ⟨_, _, _, _, _, rfl, hb, eE.symm, rfl, by rw [eK]; decide, fun q => absurd (eK.symm.trans q) (by decide), fun q => absurd (eK.symm.trans q) (by decide), fun q => absurd (eK.symm.trans q) (by decide)⟩
