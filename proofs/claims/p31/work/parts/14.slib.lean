/-! small rows of the safety contracts: booleans as ints -/
def bB (b : Bool) : Int32 := if b then 1 else 0
theorem narrow_bB (b : Bool) : narrow .boolean (.int (bB b)) = .int (bB b) := by cases b <;> rfl
theorem fits_bB (b : Bool) : fits .boolean (.int (bB b)) = true := by cases b <;> rfl
theorem bB_or (a b : Bool) : bB a ||| bB b = bB (a || b) := by cases a <;> cases b <;> decide
theorem bB_1 {b : Bool} (h : ¬ bB b = 0) : b = true := by cases b with | false => exact absurd rfl h | true => rfl
theorem bB_0 {b : Bool} (h : bB b = 0) : b = false := by cases b with | false => rfl | true => exact absurd h (by decide)
theorem vp_in_of {v : Int32} {n : Nat} {b : Int32} (h0 : ¬ v < 0) (h1 : v < b) (hb : b.toInt ≤ n) : vp_in v n :=
  vp_in_iff.mpr ⟨Int32.le_iff_toInt_le.mp (Int32.not_lt.mp h0), Int.lt_of_lt_of_le (Int32.lt_iff_toInt_lt.mp h1) hb⟩
