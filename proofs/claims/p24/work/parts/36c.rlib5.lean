/-! longs by their numbers; the drawing's number; ints as nats -/
theorem tL_mul {a b : Int64} {x y : Int} (ha : a.toInt = x) (hb : b.toInt = y) (h1 : -9223372036854775808 ≤ x * y) (h2 : x * y < 9223372036854775808) : (a * b).toInt = x * y := by
  rw [Int64.toInt_mul, ha, hb]
  exact Int.bmod_eq_of_le (by omega) (by omega)
theorem tL_add {a b : Int64} {x y : Int} (ha : a.toInt = x) (hb : b.toInt = y) (h1 : -9223372036854775808 ≤ x + y) (h2 : x + y < 9223372036854775808) : (a + b).toInt = x + y := by
  rw [Int64.toInt_add, ha, hb]
  exact Int.bmod_eq_of_le (by omega) (by omega)
theorem tL_sub {a b : Int64} {x y : Int} (ha : a.toInt = x) (hb : b.toInt = y) (h1 : -9223372036854775808 ≤ x - y) (h2 : x - y < 9223372036854775808) : (a - b).toInt = x - y := by
  rw [Int64.toInt_sub, ha, hb]
  exact Int.bmod_eq_of_le (by omega) (by omega)
theorem tL_div {a b : Int64} {x y : Int} (ha : a.toInt = x) (hb : b.toInt = y) (hx : 0 ≤ x) (hy : 0 < y) : (a / b).toInt = x / y := by
  have hl : x < 9223372036854775808 := by rw [← ha]; exact Int64.toInt_lt a
  have h1 : x / y ≤ x := Int.ediv_le_self y hx
  have h0 : 0 ≤ x / y := Int.ediv_nonneg hx (Int.le_of_lt hy)
  rw [Int64.toInt_div, ha, hb, Int.tdiv_eq_ediv_of_nonneg hx]
  exact Int.bmod_eq_of_le (by omega) (by omega)
theorem tL_rem {a b : Int64} {x y : Int} (ha : a.toInt = x) (hb : b.toInt = y) (hx : 0 ≤ x) (hy : 0 < y) : (a - a / b * b).toInt = x % y := by
  have hl : x < 9223372036854775808 := by rw [← ha]; exact Int64.toInt_lt a
  have hm0 : 0 ≤ x % y := Int.emod_nonneg x (by omega)
  have he : x / y * y = x - x % y := by have h9 := Int.ediv_mul_add_emod x y; omega
  have hm1 : 0 ≤ x / y * y := Int.mul_nonneg (Int.ediv_nonneg hx (Int.le_of_lt hy)) (Int.le_of_lt hy)
  have h3 : (a / b * b).toInt = x / y * y := tL_mul (tL_div ha hb hx hy) hb (by omega) (by omega)
  rw [tL_sub ha h3 (by omega) (by omega)]
  omega
def I9_g (x : Int64) : Prop := 0 ≤ Int64.toInt x ∧ Int64.toInt x < 2147483648
theorem g_next {x : Int64} (h : I9_g x) : I9_g (((x * 1103515245) + 12345) - ((x * 1103515245) + 12345) / 2147483648 * 2147483648) := by
  obtain ⟨h0, h1⟩ := h
  have e1 : Int64.toInt (x * 1103515245) = Int64.toInt x * 1103515245 := tL_mul rfl (by decide) (by omega) (by omega)
  have e2 : Int64.toInt ((x * 1103515245) + 12345) = Int64.toInt x * 1103515245 + 12345 := tL_add e1 (by decide) (by omega) (by omega)
  unfold I9_g
  rw [tL_rem (y := 2147483648) e2 (by decide) (by omega) (by omega)]
  omega
theorem g_draw {x : Int64} {m : Int32} (h : I9_g x) (hm : 0 < Int32.toInt m) : 0 ≤ Int32.toInt (x / 65536 - x / 65536 / m.toInt64 * m.toInt64).toInt32 ∧ Int32.toInt (x / 65536 - x / 65536 / m.toInt64 * m.toInt64).toInt32 < Int32.toInt m := by
  obtain ⟨h0, h1⟩ := h
  have e1 : Int64.toInt (x / 65536) = Int64.toInt x / 65536 := tL_div rfl (by decide) h0 (by omega)
  have e2 : Int64.toInt m.toInt64 = Int32.toInt m := Int32.toInt_toInt64 m
  have e3 := tL_rem e1 e2 (by omega) hm
  have hl : Int32.toInt m < 2147483648 := Int32.toInt_lt m
  have b0 : 0 ≤ Int64.toInt x / 65536 % Int32.toInt m := Int.emod_nonneg _ (by omega)
  have b1 : Int64.toInt x / 65536 % Int32.toInt m < Int32.toInt m := Int.emod_lt_of_pos _ hm
  have e4 : Int32.toInt (x / 65536 - x / 65536 / m.toInt64 * m.toInt64).toInt32 = Int64.toInt x / 65536 % Int32.toInt m := by
    rw [Int64.toInt_toInt32, e3]
    exact Int.bmod_eq_of_le (by omega) (by omega)
  rw [e4]
  exact ⟨b0, b1⟩
theorem g_seed {v : Int32} (h : 0 ≤ Int32.toInt v) : I9_g v.toInt64 := by
  unfold I9_g
  rw [Int32.toInt_toInt64]
  exact ⟨h, Int32.toInt_lt v⟩
theorem nI_ofT {v : Int32} {b : Nat} (h0 : 0 ≤ Int32.toInt v) (h1 : Int32.toInt v ≤ (b : Int)) : ∃ n, n ≤ b ∧ v = nI n := by
  refine ⟨(Int32.toInt v).toNat, by omega, ?_⟩
  apply Int32.toInt_inj.mp
  have hl : Int32.toInt v < 2147483648 := Int32.toInt_lt v
  rw [nI_toInt (by omega)]
  omega
theorem I64ne {m : Int32} (h : 0 < Int32.toInt m) : ¬ m.toInt64 = 0 := by
  intro e
  have e2 : Int64.toInt m.toInt64 = Int32.toInt m := Int32.toInt_toInt64 m
  rw [e, show Int64.toInt 0 = 0 by decide] at e2
  omega
def I9_pw (v : Int64) (n : Nat) : Prop := (n = 0 ∧ v = 1) ∨ (n = 1 ∧ v = 10) ∨ (n = 2 ∧ v = 100) ∨ (n = 3 ∧ v = 1000) ∨ (n = 4 ∧ v = 10000) ∨ (n = 5 ∧ v = 100000) ∨ (n = 6 ∧ v = 1000000)
theorem pw_0 : I9_pw 1 0 := Or.inl ⟨rfl, rfl⟩
theorem pw_s {v : Int64} {n : Nat} (h : I9_pw v n) (hn : n < 6) : I9_pw (v * 10) (n + 1) := by
  rcases h with ⟨e, e'⟩ | ⟨e, e'⟩ | ⟨e, e'⟩ | ⟨e, e'⟩ | ⟨e, e'⟩ | ⟨e, e'⟩ | ⟨e, e'⟩ <;> subst e <;> subst e'
  · exact Or.inr (Or.inl ⟨rfl, by decide⟩)
  · exact Or.inr (Or.inr (Or.inl ⟨rfl, by decide⟩))
  · exact Or.inr (Or.inr (Or.inr (Or.inl ⟨rfl, by decide⟩)))
  · exact Or.inr (Or.inr (Or.inr (Or.inr (Or.inl ⟨rfl, by decide⟩))))
  · exact Or.inr (Or.inr (Or.inr (Or.inr (Or.inr (Or.inl ⟨rfl, by decide⟩)))))
  · exact Or.inr (Or.inr (Or.inr (Or.inr (Or.inr (Or.inr ⟨rfl, by decide⟩)))))
  · omega
theorem pw_ne {v : Int64} {n : Nat} (h : I9_pw v n) : ¬ v = 0 := by
  rcases h with ⟨_, e'⟩ | ⟨_, e'⟩ | ⟨_, e'⟩ | ⟨_, e'⟩ | ⟨_, e'⟩ | ⟨_, e'⟩ | ⟨_, e'⟩ <;> subst e' <;> decide
