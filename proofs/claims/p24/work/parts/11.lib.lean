/-! small rows: truth as an int, tops of the stack -/
def bz (P : Prop) [Decidable P] : Int32 := if P then 1 else 0
theorem bz_t {P : Prop} [Decidable P] (h : P) : bz P = 1 := if_pos h
theorem bz_f {P : Prop} [Decidable P] (h : ¬ P) : bz P = 0 := if_neg h
theorem bz_0 {P : Prop} [Decidable P] (h : bz P = 0) : ¬ P := fun q => by rw [bz_t q] at h; exact absurd h (by decide)
theorem bz_1 {P : Prop} [Decidable P] (h : ¬ bz P = 0) : P := Decidable.byContradiction (fun q => h (bz_f q))
theorem narrow_bz (P : Prop) [Decidable P] : narrow .boolean (.int (bz P)) = .int (bz P) := by unfold bz; split <;> rfl
theorem fits_bz (P : Prop) [Decidable P] : fits .boolean (.int (bz P)) = true := by unfold bz; split <;> rfl
section KT
variable {p : Program} {l : Launch} {e : Env} {R : Room} {s : State} {m : MethodId} {args : Array Value} {below : List Frame} {meth : Method} {c : Code} {H : Heap} {locs : List Loc} {cells slots : Nat} {Q : State → Prop}
theorem kz_top {v w : Value} {pc : Nat} {ls : Array Slot} {rest : List Value} (h : v = w) (kk : W p l e R s m args below meth c H locs cells slots Q (F0 m pc ls (w :: rest))) : W p l e R s m args below meth c H locs cells slots Q (F0 m pc ls (v :: rest)) := by rw [h]; exact kk
end KT
theorem cpy_0 {f g : Nat → Int32} {a b : Nat} : va_cpy f g a b 0 = g := by
  funext j
  exact pk_cpy_out (by omega)
theorem cpy_s {f g : Nat → Int32} {a b j : Nat} : upd (va_cpy f g a b j) (b + j) (f (a + j)) = va_cpy f g a b (j + 1) := by
  funext q
  by_cases h : q = b + j
  · subst h
    rw [pk_us, pk_cpy_in (by omega) (by omega)]
    congr 1; omega
  · rw [pk_un h]
    by_cases h2 : b ≤ q ∧ q < b + j
    · rw [pk_cpy_in h2.1 h2.2, pk_cpy_in h2.1 (by omega)]
    · rw [pk_cpy_out (by omega), pk_cpy_out (by omega)]
theorem cpy_st {f g : Nat → Int32} {a b j : Nat} (ha : a + j < 2 ^ 31) (hb : b + j < 2 ^ 31) : upd (va_cpy f g a b j) (Int32.toNatClampNeg (nI (b + j))) (f (Int32.toNatClampNeg (nI (a + j)))) = va_cpy f g a b (j + 1) := by
  rw [nI_clamp ha, nI_clamp hb, cpy_s]
