theorem toInt64_ne0 {v : Int32} (h : Int32.toInt v > 0) : ¬ v.toInt64 = 0 := by
  intro q
  have h1 := congrArg Int64.toInt q
  rw [Int32.toInt_toInt64] at h1
  have h2 : Int64.toInt 0 = 0 := by decide
  omega
