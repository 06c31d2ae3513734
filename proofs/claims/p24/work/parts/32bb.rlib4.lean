/-! the reference: minutes and who is on the road -/
theorem shr0 (a : Int32) : (0 : Int32) >>> a &&& 1 = 0 := by
  have h : (0 : Int32) >>> a = 0 := by
    apply Int32.toBitVec_inj.mp
    simp
  rw [h]; decide
theorem bits0 {x n a : Int32} (h : Int32.toInt x = 0 → n = 0) : Int32.toInt x = 0 → n + (x >>> a &&& 1) = 0 := by
  intro e
  have hx : x = 0 := Int32.toInt_inj.mp (e.trans (by decide))
  rw [h e, hx, shr0]; decide
theorem many0 {a b : Int32} (h : Int32.toInt a = 0 → b = 0) : Int32.toInt a = 0 → a - b = 0 := by
  intro e
  have hx : a = 0 := Int32.toInt_inj.mp (e.trans (by decide))
  rw [h e, hx]; decide
theorem I9_rowS2 {b j : Nat} {f : Nat → Int32} (h : I9_row 16 b f) (hj : j < 690) : I9_row 16 b (upd f (Int32.toNatClampNeg (nI j)) (f (Int32.toNatClampNeg (nI (j + 46))))) := by
  rw [nI_clamp (by omega), nI_clamp (by omega)]; exact I9_rowS h hj
theorem I9_minX {b : Nat} {f : Nat → Int32} {v : Int32} {j : Int32} (h : I9_min b f) (hj : Int32.toInt j > 1) : I9_min b (upd f (Int32.toNatClampNeg j) v) := I9_minU h (clampNe hj)
