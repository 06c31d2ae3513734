/-! contents kept by writes and copies: what was seen -/
theorem cpy_le60 {f g : Nat → Int32} {a b n : Nat} (hf : ∀ q, Int32.toInt (f q) ≤ 60) (hg : ∀ q, Int32.toInt (g q) ≤ 60) : ∀ q, Int32.toInt (va_cpy f g a b n q) ≤ 60 := by
  intro q
  by_cases h : b ≤ q ∧ q < b + n
  · rw [pk_cpy_in h.1 h.2]; exact hf _
  · rw [pk_cpy_out (by omega)]; exact hg _
theorem cpy_fitz {f g : Nat → Int32} {a b n : Nat} (hf : ∀ q, fits .boolean (.int (f q)) = true) (hg : ∀ q, fits .boolean (.int (g q)) = true) : ∀ q, fits .boolean (.int (va_cpy f g a b n q)) = true := by
  intro q
  by_cases h : b ≤ q ∧ q < b + n
  · rw [pk_cpy_in h.1 h.2]; exact hf _
  · rw [pk_cpy_out (by omega)]; exact hg _
theorem upd_le60 {f : Nat → Int32} {j : Nat} {v : Int32} (hf : ∀ q, Int32.toInt (f q) ≤ 60) (hv : Int32.toInt v ≤ 60) : ∀ q, Int32.toInt (upd f j v q) ≤ 60 := by
  intro q
  by_cases h : q = j
  · rw [h, pk_us]; exact hv
  · rw [pk_un h]; exact hf _
theorem upd_fitz {f : Nat → Int32} {j : Nat} {b : Bool} (hf : ∀ q, fits .boolean (.int (f q)) = true) : ∀ q, fits .boolean (.int (upd f j (vp_nar .boolean (bB b)) q)) = true := by
  intro q
  by_cases h : q = j
  · rw [h, pk_us]; cases b <;> rfl
  · rw [pk_un h]; exact hf _
