/-! a row shifted down: r[k] = r[n + k] for the first j places -/
def sft (f : Nat → Int32) (n j : Nat) : Nat → Int32 := fun q => if q < j then f (n + q) else f q
theorem sft_0 {f : Nat → Int32} {n : Nat} : sft f n 0 = f := by
  funext q
  unfold sft
  rw [if_neg (by omega)]
theorem sft_s {f : Nat → Int32} {n j : Nat} (h : j < n) (hn : n < 2 ^ 30) : upd (sft f n j) (Int32.toNatClampNeg (nI j)) (sft f n j (Int32.toNatClampNeg (nI (n + j)))) = sft f n (j + 1) := by
  rw [nI_clamp (by omega), nI_clamp (by omega)]
  funext q
  by_cases hq : q = j
  · subst hq
    rw [pk_us]
    unfold sft
    rw [if_neg (by omega), if_pos (by omega)]
  · rw [pk_un hq]
    unfold sft
    by_cases h2 : q < j
    · rw [if_pos h2, if_pos (by omega)]
    · rw [if_neg h2, if_neg (by omega)]
theorem upd_all {f : Nat → Int32} {j : Nat} (hj : j < 2 ^ 31) (h : ∀ q, q < j → f q = 0) : ∀ q, q < j + 1 → upd f (Int32.toNatClampNeg (nI j)) 0 q = 0 := by
  intro q hq
  rw [nI_clamp hj]
  by_cases e : q = j
  · subst e; exact pk_us
  · rw [pk_un e]; exact h q (by omega)
theorem upd_z {f : Nat → Int32} {a : Nat} (h : ∀ q, q < 46 → f q = 0) : ∀ q, q < 46 → upd f a 0 q = 0 := by
  intro q hq
  by_cases e : q = a
  · subst e; exact pk_us
  · rw [pk_un e]; exact h q hq
theorem cpy_at {f g : Nat → Int32} {j : Nat} (hj : j < 46) : va_cpy f g 0 0 46 j = f j := by
  rw [pk_cpy_in (by omega) (by omega)]; congr 1; omega
