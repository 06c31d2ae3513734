/-! feeding: a byte of a long, whether it is taken, how many are -/
def shv (j : Nat) : Int32 := match j with
  | 0 => 56 | 1 => 48 | 2 => 40 | 3 => 32 | 4 => 24 | 5 => 16 | 6 => 8 | 7 => 0 | _ => -8
theorem shv_s : ∀ j, j < 8 → shv j + Int32.ofInt (-8) = shv (j + 1) := by decide
theorem shv_neg : ∀ j, j < 9 → shv j < 0 → j = 8 := by decide
theorem shv_pos : ∀ j, j < 9 → ¬ shv j < 0 → j < 8 := by decide
theorem shm : ∀ j, j < 24 → (56 - (8 * (nI j &&& 7)) : Int32) = shv (j % 8) := by decide
def byt (w : Int64) (j : Nat) : Int32 := ((w.toUInt64 >>> ((shv j).toInt64.toUInt64 &&& Int64.toUInt64 63)).toInt64 &&& 255).toInt32
def bytM (q1 q2 q3 : Int64) (j : Nat) : Int32 := (((if j < 8 then q1 else if j < 16 then q2 else q3).toUInt64 >>> ((56 - (8 * (nI j &&& 7)) : Int32).toInt64.toUInt64 &&& Int64.toUInt64 63)).toInt64 &&& 255).toInt32
def kb (x : Int32) : Nat := if x = 10 ∨ (32 ≤ x ∧ x ≤ 126) then 1 else 0
theorem kb_1 {x : Int32} (h : x = 10 ∨ (32 ≤ x ∧ x ≤ 126)) : kb x = 1 := if_pos h
theorem kb_0 {x : Int32} (h : ¬ (x = 10 ∨ (32 ≤ x ∧ x ≤ 126))) : kb x = 0 := if_neg h
theorem kb_le (x : Int32) : kb x ≤ 1 := by unfold kb; split <;> omega
def kn (g : Nat → Int32) : Nat → Nat
  | 0 => 0
  | j + 1 => kn g j + kb (g j)
theorem kn_le (g : Nat → Int32) : ∀ j, kn g j ≤ j
  | 0 => Nat.le_refl 0
  | j + 1 => by have h1 := kn_le g j; have h2 := kb_le (g j); show kn g j + kb (g j) ≤ j + 1; omega
theorem kn_add (g : Nat → Int32) (a : Nat) : ∀ n, kn g (a + n) = kn g a + kn (fun j => g (a + j)) n
  | 0 => rfl
  | n + 1 => by
    have h := kn_add g a n
    show kn g (a + n) + kb (g (a + n)) = kn g a + (kn (fun j => g (a + j)) n + kb (g (a + n)))
    omega
theorem kn_congr {g h : Nat → Int32} : ∀ n, (∀ j, j < n → g j = h j) → kn g n = kn h n
  | 0, _ => rfl
  | n + 1, e => by
    have h1 := kn_congr n (fun j hj => e j (by omega))
    show kn g n + kb (g n) = kn h n + kb (h n)
    rw [h1, e n (by omega)]
theorem kn_M (q1 q2 q3 : Int64) : kn (bytM q1 q2 q3) 24 = 0 + kn (byt q1) 8 + kn (byt q2) 8 + kn (byt q3) 8 := by
  have e1 : kn (bytM q1 q2 q3) 8 = kn (byt q1) 8 := kn_congr 8 (fun j hj => by
    unfold bytM byt
    rw [if_pos hj, shm j (by omega), Nat.mod_eq_of_lt hj])
  have e2 : kn (fun j => bytM q1 q2 q3 (8 + j)) 8 = kn (byt q2) 8 := kn_congr 8 (fun j hj => by
    show bytM q1 q2 q3 (8 + j) = byt q2 j
    unfold bytM byt
    rw [if_neg (by omega), if_pos (by omega), shm (8 + j) (by omega), show (8 + j) % 8 = j by omega])
  have e3 : kn (fun j => bytM q1 q2 q3 (16 + j)) 8 = kn (byt q3) 8 := kn_congr 8 (fun j hj => by
    show bytM q1 q2 q3 (16 + j) = byt q3 j
    unfold bytM byt
    rw [if_neg (by omega), if_neg (by omega), shm (16 + j) (by omega), show (16 + j) % 8 = j by omega])
  have a1 : kn (bytM q1 q2 q3) 24 = _ := kn_add (bytM q1 q2 q3) 16 8
  have a2 : kn (bytM q1 q2 q3) 16 = _ := kn_add (bytM q1 q2 q3) 8 8
  rw [e3] at a1
  rw [e2, e1] at a2
  omega
def aF (q1 q2 q3 : Int64) : Int32 := nI (0 + kn (byt q1) 8 + kn (byt q2) 8 + kn (byt q3) 8)
