/-! answers on a fresh object, as functions of the arguments -/
def aJ (w : Int32) : Int32 := if 0 ≤ w ∧ w ≤ 2 then (if w = 0 then -1 else if w = 1 then -1 else 0) else -1000
def aN (w : Int32) : Int32 := if 0 ≤ w ∧ w ≤ 300 then 0 else -1
def aB (w : Int32) : Int32 := if 0 ≤ w ∧ w ≤ 60 then 0 else -1
def aY (q1 q2 q3 : Int32) : Int32 := if 0 ≤ q1 ∧ q1 ≤ 9999 then (if 1 ≤ q2 ∧ q2 ≤ 99 then (if 0 ≤ q3 ∧ q3 ≤ 2 then 0 else -100000) else -100000) else -100000
def aC (w : Int32) : Int32 := if w = 1 then 10 else if w = 2 then 30 else if 0 ≤ w ∧ w ≤ 12 then 0 else -1000
def aS (q1 q2 : Int32) : Int32 := if 0 ≤ q1 ∧ q1 ≤ 60 then (if 0 ≤ q2 ∧ q2 ≤ 300 then 1 else 0) else 0
theorem nI_bt {x a b : Int32} (h : a ≤ x ∧ x ≤ b) (ha : 0 ≤ a) (n : Nat) (hb : b.toInt = (n : Int)) : ∃ N : Nat, N ≤ n ∧ x = nI N :=
  nI_of2 (M := b) hb (Int32.not_lt.mpr (Int32.le_trans ha h.1)) h.2
theorem vp_bt {x b : Int32} {n : Nat} (h : 0 ≤ x ∧ x ≤ b) (hb : b.toInt < (n : Int)) : vp_in x n :=
  vp_in_iff.mpr ⟨Int32.le_iff_toInt_le.mp h.1, Int.lt_of_le_of_lt (Int32.le_iff_toInt_le.mp h.2) hb⟩
theorem nI_lo {N : Nat} {a : Int32} (h : 1 ≤ nI N) (hN : N < 1000) : 1 ≤ N := by
  rcases Nat.eq_zero_or_pos N with rfl | h2
  · exact absurd h (by decide)
  · exact h2
