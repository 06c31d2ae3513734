/-! the latch's rests -/
def gm (a b c x z : Int32) : Int32 := if x = 1 then (if z = 1 then -a else b) else (if z = 1 then c else 0)
def fA (j : Nat) : Int32 := match j with
  | 0 => 0 | 1 => 0 | _ => 1
def fB (j : Nat) : Int32 := match j with
  | 0 => 0 | 1 => 1 | 2 => 0 | _ => 1
theorem fA_d : ∀ j, j < 4 → nI j / 2 = fA j := by decide
theorem fB_d : ∀ j, j < 4 → nI j - nI j / 2 * 2 = fB j := by decide
theorem fA_s : ∀ j, j < 4 → nI j >>> ((1 : Int32) &&& 31) = fA j := by decide
theorem fB_s : ∀ j, j < 4 → nI j &&& 1 = fB j := by decide
def okb (a b c : Int32) (j : Nat) : Bool := decide (gm a b c (1 - fA j) (fB j) ≤ gm a b c (fA j) (fB j)) && decide (gm a b c (1 - fB j) (fA j) ≤ gm a b c (fB j) (fA j))
theorem okb_t {a b c : Int32} {j : Nat} (h1 : gm a b c (1 - fA j) (fB j) ≤ gm a b c (fA j) (fB j)) (h2 : gm a b c (1 - fB j) (fA j) ≤ gm a b c (fB j) (fA j)) : okb a b c j = true := by
  unfold okb; rw [decide_eq_true h1, decide_eq_true h2]; rfl
theorem okb_f1 {a b c : Int32} {j : Nat} (h1 : ¬ gm a b c (1 - fA j) (fB j) ≤ gm a b c (fA j) (fB j)) : okb a b c j = false := by
  unfold okb; rw [decide_eq_false h1]; rfl
theorem okb_f2 {a b c : Int32} {j : Nat} (h1 : ¬ gm a b c (1 - fB j) (fA j) ≤ gm a b c (fB j) (fA j)) : okb a b c j = false := by
  unfold okb; rw [decide_eq_false h1, Bool.and_false]
def rgo (a b c w : Int32) : Nat → Nat → Nat → Int32 × Int32
  | 0, _, n => if w = -1 then (0, nI n) else (1, 0)
  | f + 1, j, n => if okb a b c j = true then (if nI n = w then (0, nI j) else rgo a b c w f (j + 1) (n + 1)) else rgo a b c w f (j + 1) n
theorem rgo_hit {a b c w : Int32} {j n : Nat} (hj : j < 4) (h : okb a b c j = true) (hn : nI n = w) : rgo a b c w (4 - j) j n = (0, nI j) := by
  obtain ⟨f, hf⟩ : ∃ f, 4 - j = f + 1 := ⟨3 - j, by omega⟩
  rw [hf]; show (if okb a b c j = true then _ else _) = _
  rw [if_pos h, if_pos hn]
theorem rgo_next {a b c w : Int32} {j n : Nat} (hj : j < 4) (h : okb a b c j = true) (hn : ¬ nI n = w) : rgo a b c w (4 - (j + 1)) (j + 1) (n + 1) = rgo a b c w (4 - j) j n := by
  have hf : 4 - j = (4 - (j + 1)) + 1 := by omega
  rw [hf]; show _ = (if okb a b c j = true then _ else _)
  rw [if_pos h, if_neg hn]
theorem rgo_skip {a b c w : Int32} {j n : Nat} (hj : j < 4) (h : okb a b c j = false) : rgo a b c w (4 - (j + 1)) (j + 1) n = rgo a b c w (4 - j) j n := by
  have hf : 4 - j = (4 - (j + 1)) + 1 := by omega
  rw [hf]; show _ = (if okb a b c j = true then _ else _)
  rw [h, if_neg (by decide)]
def rs (a b c w : Int32) : Int32 × Int32 := if 0 ≤ a ∧ a ≤ 9 then (if 0 ≤ b ∧ b ≤ 9 then (if 0 ≤ c ∧ c ≤ 9 then (if w < -1 then (1, 0) else rgo a b c w 4 0 0) else (1, 0)) else (1, 0)) else (1, 0)
