/-! the reference's tokens, over its pure functions -/
theorem sgn_i {s : Nat → Int32} {n p : Nat} (h : p < n) : sgn s n p = s p := by unfold sgn; rw [if_pos h]
theorem sgn_o {s : Nat → Int32} {n p : Nat} (h : ¬ p < n) : sgn s n p = 0 := by unfold sgn; rw [if_neg h]
theorem nxt_sp {n : Nat} {s : Nat → Int32} {z : Nat → Nat × Nat × Nat × Int64 × Int32} (hn : n ≤ 1000) : ∀ k p, p ≤ n → 1000 + 1 - p < k → lp z (fX9_nextToken_B0a n s) k p = fX9_nextToken_J52a n s (tB s n p) := by
  have e1 : Int32.toInt 10 = 10 := by decide
  have e2 : Int32.toInt 32 = 32 := by decide
  intro k
  induction k with
  | zero => intro p _ h; exact absurd h (Nat.not_lt_zero _)
  | succ k ih =>
    intro p hp h
    show fX9_nextToken_B0a n s (lp z (fX9_nextToken_B0a n s) k) p = _
    generalize lp z (fX9_nextToken_B0a n s) k = rc at ih ⊢
    unfold fX9_nextToken_B0a fX9_nextToken_J39a
    rw [nI_clamp (by omega)]
    by_cases h1 : n ≤ p
    · rw [if_pos h1]
      unfold tB
      rw [runE_stop (fun q => absurd q.1 (by omega))]
    · rw [if_neg h1]
      by_cases h3 : s p = 32
      · rw [if_pos h3, ih (p + 1) (by omega) (by omega)]
        unfold tB
        rw [runE_step (p := p) (by omega) (isB_t.mpr (Or.inl (by rw [h3]; exact e2)))]
      · rw [if_neg h3]
        by_cases h2 : s p = 10
        · rw [if_pos h2, ih (p + 1) (by omega) (by omega)]
          unfold tB
          rw [runE_step (p := p) (by omega) (isB_t.mpr (Or.inr (by rw [h2]; exact e1)))]
        · rw [if_neg h2]
          unfold tB
          rw [runE_stop (p := p)]
          intro q
          rcases isB_t.mp q.2 with y | y
          · exact h3 (Int32.toInt_inj.mp (y.trans e2.symm))
          · exact h2 (Int32.toInt_inj.mp (y.trans e1.symm))
theorem i64_mas {a B S : Int64} {c : Int32} {A C b d : Int} (ha : Int64.toInt a = A) (hB : Int64.toInt B = b) (hS : Int64.toInt S = d) (hc : Int32.toInt c = C) (h1 : 0 ≤ A * b) (h2 : A * b < 4611686018427387904) (h3 : -2147483648 ≤ C) (h4 : C < 2147483648) (h5 : -2147483648 ≤ d) (h6 : d < 2147483648) : Int64.toInt (a * B + c.toInt64 - S) = A * b + C - d := by
  rw [Int64.toInt_sub, i64_ma ha hB hc h1 h2 h3 h4, hS]
  exact Int.bmod_eq_of_le (by omega) (by omega)
theorem c97 {c : Int32} : (c < 97 ∨ (122 : Int32) < c) ↔ ¬ isL c = true := by
  have e1 : Int32.toInt 97 = 97 := by decide
  have e2 : Int32.toInt 122 = 122 := by decide
  rw [isL_t, Int32.lt_iff_toInt_lt, Int32.lt_iff_toInt_lt]
  omega
theorem c48 {c : Int32} : (c < 48 ∨ (57 : Int32) < c) ↔ ¬ isD c = true := by
  have e1 : Int32.toInt 48 = 48 := by decide
  have e2 : Int32.toInt 57 = 57 := by decide
  rw [isD_t, Int32.lt_iff_toInt_lt, Int32.lt_iff_toInt_lt]
  omega
theorem if2 {T : Type} {a b : Prop} [Decidable a] [Decidable b] {x y : T} (h : a ∨ b) : (if a then x else if b then x else y) = x := by
  by_cases q : a
  · rw [if_pos q]
  · rw [if_neg q, if_pos (h.resolve_left q)]
theorem if2n {T : Type} {a b : Prop} [Decidable a] [Decidable b] {x y : T} (h : ¬ (a ∨ b)) : (if a then x else if b then x else y) = y := by
  rw [if_neg (fun q => h (Or.inl q)), if_neg (fun q => h (Or.inr q))]
theorem rr_lp {n b : Nat} {s : Nat → Int32} {z : Nat → Int64 → Nat × Nat × Nat × Int64 × Int32} (hn : n ≤ 1000) : ∀ k m acc, b + m ≤ n → 1000 + 1 - (b + m) < k → (∀ q, b ≤ q → q < b + m → isL (s q) = true) → (m ≤ 8 → Int64.toInt acc = Er 27 (lr s b m)) → ∃ L', lp z (fX9_nextToken_B109b n s b) k (b + m) acc = fX9_nextToken_J188a b (runE isL s n (b + m)) L' ∧ (runE isL s n (b + m) - b ≤ 8 → Int64.toInt L' = Er 27 (lr s b (runE isL s n (b + m) - b))) := by
  intro k
  induction k with
  | zero => intro m acc _ h; exact absurd h (Nat.not_lt_zero _)
  | succ k ih =>
    intro m acc hp h hl ha
    show ∃ L', fX9_nextToken_B109b n s b (lp z (fX9_nextToken_B109b n s b) k) (b + m) acc = _ ∧ _
    generalize lp z (fX9_nextToken_B109b n s b) k = rc at ih ⊢
    unfold fX9_nextToken_B109b
    by_cases h1 : b + m < n
    · rw [sgn_i h1]
      by_cases h2 : isL (s (b + m)) = true
      · rw [if2n (fun q => c97.mp q h2), runE_step (p := b + m) h1 h2]
        have hl' : ∀ q, b ≤ q → q < b + (m + 1) → isL (s q) = true := fun q q1 q2 => by
          by_cases e : q = b + m
          · rw [e]; exact h2
          · exact hl q q1 (by omega)
        by_cases h8 : 8 ≤ b + m - b
        · rw [if_pos h8]
          exact ih (m + 1) _ (by omega) (by omega) hl' (fun q => absurd q (by omega))
        · rw [if_neg h8]
          refine ih (m + 1) _ (by omega) (by omega) hl' (fun q => ?_)
          have h9 := Er8 (β := 27) (by decide) (okl_lr hl) (by rw [lr_len]; omega)
          have h10 := isL_t.mp h2
          rw [i64_mas (A := Er 27 (lr s b m)) (b := 27) (d := 96) (ha (by omega)) (by decide) (by decide) rfl (by omega) (by omega) (by omega) (by omega) (by omega) (by omega)]
          show _ = Er 27 (lr s b m) * 27 + (Int32.toInt (s (b + m)) - 96)
          omega
      · rw [if2 (c97.mpr h2), runE_stop (p := b + m) (fun q => h2 q.2)]
        exact ⟨acc, rfl, fun q => by rw [show b + m - b = m by omega] at q ⊢; exact ha q⟩
    · rw [sgn_o h1, if_pos (by decide), runE_stop (fun q => absurd q.1 (by omega))]
      exact ⟨acc, rfl, fun q => by rw [show b + m - b = m by omega] at q ⊢; exact ha q⟩
theorem rt_lp {n b : Nat} {s : Nat → Int32} {z : Nat → Int32 → Nat × Nat × Nat × Int64 × Int32} (hn : n ≤ 1000) : ∀ k m acc, b + m ≤ n → 1000 + 1 - (b + m) < k → (∀ q, b ≤ q → q < b + m → isD (s q) = true) → (m ≤ 4 → Int32.toInt acc = nv s b m) → ∃ v, lp z (fX9_nextToken_B224b n s b) k (b + m) acc = fX9_nextToken_J299a b (runE isD s n (b + m)) v ∧ (runE isD s n (b + m) - b ≤ 4 → Int32.toInt v = nv s b (runE isD s n (b + m) - b)) := by
  intro k
  induction k with
  | zero => intro m acc _ h; exact absurd h (Nat.not_lt_zero _)
  | succ k ih =>
    intro m acc hp h hl ha
    show ∃ v, fX9_nextToken_B224b n s b (lp z (fX9_nextToken_B224b n s b) k) (b + m) acc = _ ∧ _
    generalize lp z (fX9_nextToken_B224b n s b) k = rc at ih ⊢
    unfold fX9_nextToken_B224b
    by_cases h1 : b + m < n
    · rw [sgn_i h1]
      by_cases h2 : isD (s (b + m)) = true
      · rw [if2n (fun q => c48.mp q h2), runE_step (p := b + m) h1 h2]
        have hl' : ∀ q, b ≤ q → q < b + (m + 1) → isD (s q) = true := fun q q1 q2 => by
          by_cases e : q = b + m
          · rw [e]; exact h2
          · exact hl q q1 (by omega)
        by_cases h8 : 4 ≤ b + m - b
        · rw [if_pos h8]
          exact ih (m + 1) _ (by omega) (by omega) hl' (fun q => absurd q (by omega))
        · rw [if_neg h8]
          refine ih (m + 1) _ (by omega) (by omega) hl' (fun q => ?_)
          have h9 := nv_4 hl (by omega)
          rw [nv_s (ha (by omega)) h9.1 h9.2 h2]
          rfl
      · rw [if2 (c48.mpr h2), runE_stop (p := b + m) (fun q => h2 q.2)]
        exact ⟨acc, rfl, fun q => by rw [show b + m - b = m by omega] at q ⊢; exact ha q⟩
    · rw [sgn_o h1, if_pos (by decide), runE_stop (fun q => absurd q.1 (by omega))]
      exact ⟨acc, rfl, fun q => by rw [show b + m - b = m by omega] at q ⊢; exact ha q⟩
/-- the reference at the token that begins at b -/
def RT (s : Nat → Int32) (n b pl bg tk : Nat) (wo : Int64) (to : Int32) : Prop :=
  b ≤ n ∧ pl = tE s n b ∧ bg = b ∧ tk = tK s n b ∧ (tK s n b = 1 → Int64.toInt wo = Er 27 (lr s b (tE s n b - b))) ∧ (tK s n b = 2 → Int32.toInt to = nv s b (tE s n b - b))
theorem J322_ {n b : Nat} {s : Nat → Int32} (h1 : b < n) : fX9_nextToken_J322a n s b = (b + 1, b, if isG (s b) = true then 3 else 4, 0, 0) := by
  have e1 : Int32.toInt 40 = 40 := by decide
  have e2 : Int32.toInt 43 = 43 := by decide
  have e3 : Int32.toInt 45 = 45 := by decide
  have e4 : Int32.toInt 59 = 59 := by decide
  have e5 : Int32.toInt 61 = 61 := by decide
  unfold fX9_nextToken_J322a fX9_nextToken_J345a fX9_nextToken_J363a fX9_nextToken_J367a fX9_nextToken_J368a
  rw [sgn_i h1]
  generalize s b = c
  have hc := isG_t (c := c)
  simp only [Int32.lt_iff_toInt_lt, Int32.le_iff_toInt_le, ← Int32.toInt_inj (y := (45 : Int32)), e1, e2, e3, e4, e5]
  by_cases hg : isG c = true
  · rw [if_pos hg]
    have hg := hc.mp hg
    repeat' split
    all_goals first | rfl | omega
  · rw [if_neg hg]
    have hg : ¬ _ := fun q => hg (hc.mpr q)
    repeat' split
    all_goals first | rfl | omega
theorem next_ {n p : Nat} {s : Nat → Int32} (hn : n ≤ 1000) (hp : p ≤ n) : ∃ a b c d e, fX9_nextToken n p s = (a, b, c, d, e) ∧ RT s n (tB s n p) a b c d e := by
  have hb : tB s n p ≤ n := runE_le hp
  unfold fX9_nextToken
  rw [nxt_sp hn _ p hp (by omega)]
  generalize tB s n p = b at hb ⊢
  unfold fX9_nextToken_J52a
  by_cases h0 : b = n
  · rw [if_pos h0]
    have eE : tE s n b = b := by unfold tE; rw [if_pos h0]
    have eK : tK s n b = 0 := by unfold tK; rw [if_pos h0]
    exact ⟨_, _, _, _, _, rfl, hb, eE.symm, rfl, eK.symm, fun q => absurd (eK.symm.trans q) (by decide), fun q => absurd (eK.symm.trans q) (by decide)⟩
  · have h1 : b < n := by omega
    rw [if_neg h0, sgn_i h1]
    have hgt := tE_gt (f := s) h1
    have hle := tE_le (f := s) (n := n) (b := b) (by omega)
    by_cases hl : isL (s b) = true
    · rw [if2n (fun q => c97.mp q hl), if2n (fun q => c97.mp q hl), if_neg (by omega)]
      have eE : tE s n b = runE isL s n b := by unfold tE; rw [if_neg h0, if_pos hl]
      have h10 := isL_t.mp hl
      obtain ⟨L, k1, k2⟩ := rr_lp (z := fun _ _ => (0, 0, 0, (0 : Int64), (0 : Int32))) (s := s) (b := b) hn (1000 + 1 - (b + 1) + 1) 1 ((0 * 27 + (s b).toInt64) - 96) (by omega) (by omega) (fun q q1 q2 => by rw [show q = b by omega]; exact hl) (fun _ => by
        rw [i64_mas (A := 0) (b := 27) (d := 96) (by decide) (by decide) (by decide) rfl (by omega) (by omega) (by omega) (by omega) (by omega) (by omega)]
        show _ = 0 * 27 + (Int32.toInt (s (b + 0)) - 96)
        rw [Nat.add_zero]; omega)
      rw [← runE_step h1 hl, ← eE] at k1 k2
      rw [k1]
      unfold fX9_nextToken_J188a fX9_nextToken_J208a
      have eK : tK s n b = if tE s n b - b ≤ 8 then 1 else 4 := by unfold tK; rw [if_neg h0, if_pos hl]
      by_cases h8 : tE s n b - b ≤ 8
      · rw [if_pos h8]
        rw [if_pos h8] at eK
        exact ⟨_, _, _, _, _, rfl, hb, rfl, rfl, eK.symm, fun _ => k2 h8, fun q => absurd (eK.symm.trans q) (by decide)⟩
      · rw [if_neg h8]
        rw [if_neg h8] at eK
        exact ⟨_, _, _, _, _, rfl, hb, rfl, rfl, eK.symm, fun q => absurd (eK.symm.trans q) (by decide), fun q => absurd (eK.symm.trans q) (by decide)⟩
    · rw [if2 (c97.mpr hl)]
      unfold fX9_nextToken_J212a
      rw [sgn_i h1]
      by_cases hd : isD (s b) = true
      · rw [if2n (fun q => c48.mp q hd), if2n (fun q => c48.mp q hd), if_neg (by omega)]
        have eE : tE s n b = runE isD s n b := by unfold tE; rw [if_neg h0, if_neg hl, if_pos hd]
        have h10 := isD_t.mp hd
        obtain ⟨v, k1, k2⟩ := rt_lp (z := fun _ _ => (0, 0, 0, (0 : Int64), (0 : Int32))) (s := s) (b := b) hn (1000 + 1 - (b + 1) + 1) 1 ((0 + s b) - 48) (by omega) (by omega) (fun q q1 q2 => by rw [show q = b by omega]; exact hd) (fun _ => by
          have e1 : Int32.toInt (0 + s b) = 0 + Int32.toInt (s b) := tI_add (by decide) rfl (by omega) (by omega)
          rw [tI_sub e1 (show Int32.toInt 48 = 48 by decide) (by omega) (by omega)]
          show _ = 0 * 10 + (Int32.toInt (s (b + 0)) - 48)
          rw [Nat.add_zero]; omega)
        rw [← runE_step h1 hd, ← eE] at k1 k2
        rw [k1]
        unfold fX9_nextToken_J299a fX9_nextToken_J318a
        have eK : tK s n b = if tE s n b - b ≤ 4 then 2 else 4 := by unfold tK; rw [if_neg h0, if_neg hl, if_pos hd]
        by_cases h8 : tE s n b - b ≤ 4
        · rw [if_pos h8]
          rw [if_pos h8] at eK
          exact ⟨_, _, _, _, _, rfl, hb, rfl, rfl, eK.symm, fun q => absurd (eK.symm.trans q) (by decide), fun _ => k2 h8⟩
        · rw [if_neg h8]
          rw [if_neg h8] at eK
          exact ⟨_, _, _, _, _, rfl, hb, rfl, rfl, eK.symm, fun q => absurd (eK.symm.trans q) (by decide), fun q => absurd (eK.symm.trans q) (by decide)⟩
      · rw [if2 (c48.mpr hd), J322_ h1]
        have eE : tE s n b = b + 1 := by unfold tE; rw [if_neg h0, if_neg hl, if_neg hd]
        have eK : tK s n b = if isG (s b) = true then 3 else 4 := by unfold tK; rw [if_neg h0, if_neg hl, if_neg hd]
        have hk : ¬ (if isG (s b) = true then 3 else 4) = 1 ∧ ¬ (if isG (s b) = true then 3 else 4) = 2 := by split <;> decide
        exact ⟨_, _, _, _, _, rfl, hb, eE.symm, rfl, eK.symm, fun q => absurd (eK.symm.trans q) hk.1, fun q => absurd (eK.symm.trans q) hk.2⟩
