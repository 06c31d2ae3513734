/-! the words, the last letter first, and their numbers in two bases -/
def wdL : List (List Int) := [[20, 19, 5, 21, 7], [6, 6, 15], [5, 3, 1, 16], [19, 11, 15, 15, 3], [4, 14, 5, 2], [18, 21, 15, 8], [23, 15, 14, 19], [19, 5, 20, 19, 1, 20], [12, 5, 5, 8, 23], [14, 21, 18], [5, 18, 9, 8], [5, 20, 21, 14, 9, 13], [14, 9, 1, 12, 16], [18, 15, 20, 3, 15, 4], [25, 8, 19], [20, 1, 5, 18, 7], [20, 15, 14], [4, 14, 1], [18, 15], [12, 12, 9, 11, 19], [5, 20, 1, 12], [19, 20, 19, 5, 21, 7], [20, 8, 7, 9, 14]]
def wd (j : Nat) : List Int := wdL.getD j []
theorem wd_ok : ∀ j, j < 23 → okl (wd j) := by
  intro j hj
  have h : ∀ j, j < 23 → (wd j).all (fun d => decide (1 ≤ d) && decide (d ≤ 26)) = true := by decide
  intro d hd
  have h1 := List.all_eq_true.mp (h j hj) d hd
  rw [Bool.and_eq_true, decide_eq_true_iff, decide_eq_true_iff] at h1
  exact h1
theorem w27_0 : Er 27 (wd 0) = 4137608 := by decide
theorem w32_0 : Er 32 (wd 0) = 8033908 := by decide
theorem w27_1 : Er 27 (wd 1) = 11103 := by decide
theorem w32_1 : Er 32 (wd 1) = 15558 := by decide
theorem w27_2 : Er 27 (wd 2) = 315743 := by decide
theorem w32_2 : Er 32 (wd 2) = 525413 := by decide
theorem w27_3 : Er 27 (wd 3) = 1900819 := by decide
theorem w32_3 : Er 32 (wd 3) = 3652979 := by decide
theorem w27_4 : Er 27 (wd 4) = 43393 := by decide
theorem w32_4 : Er 32 (wd 4) = 71108 := by decide
theorem w27_5 : Er 27 (wd 5) = 168984 := by decide
theorem w32_5 : Er 32 (wd 5) = 278194 := by decide
theorem w27_6 : Er 27 (wd 6) = 384611 := by decide
theorem w32_6 : Er 32 (wd 6) = 637431 := by decide
theorem w27_7 : Er 27 (wd 7) = 287898292 := by decide
theorem w32_7 : Er 32 (wd 7) = 672780467 := by decide
theorem w27_8 : Er 27 (wd 8) = 12384399 := by decide
theorem w32_8 : Er 32 (wd 8) = 24384684 := by decide
theorem w27_9 : Er 27 (wd 9) = 13703 := by decide
theorem w32_9 : Er 32 (wd 9) = 19118 := by decide
theorem w27_10 : Er 27 (wd 10) = 164516 := by decide
theorem w32_10 : Er 32 (wd 10) = 271941 := by decide
theorem w27_11 : Er 27 (wd 11) = 191610176 := by decide
theorem w32_11 : Er 32 (wd 11) = 446125701 := by decide
theorem w27_12 : Er 27 (wd 12) = 8740238 := by decide
theorem w32_12 : Er 32 (wd 12) = 17171758 := by decide
theorem w27_13 : Er 27 (wd 13) = 65441295 := by decide
theorem w32_13 : Er 32 (wd 13) = 150065650 := by decide
theorem w27_14 : Er 27 (wd 14) = 14092 := by decide
theorem w32_14 : Er 32 (wd 14) = 19737 := by decide
theorem w27_15 : Er 27 (wd 15) = 4078073 := by decide
theorem w32_15 : Er 32 (wd 15) = 7935028 := by decide
theorem w27_16 : Er 27 (wd 16) = 10631 := by decide
theorem w32_16 : Er 32 (wd 16) = 14836 := by decide
theorem w27_17 : Er 27 (wd 17) = 1111 := by decide
theorem w32_17 : Er 32 (wd 17) = 1476 := by decide
theorem w27_18 : Er 27 (wd 18) = 423 := by decide
theorem w32_18 : Er 32 (wd 18) = 498 := by decide
theorem w27_19 : Er 27 (wd 19) = 10320789 := by decide
theorem w32_19 : Er 32 (wd 19) = 20293004 := by decide
theorem w27_20 : Er 27 (wd 20) = 237470 := by decide
theorem w32_20 : Er 32 (wd 20) = 394885 := by decide
theorem w27_21 : Er 27 (wd 21) = 111715435 := by decide
theorem w32_21 : Er 32 (wd 21) = 257085075 := by decide
theorem w27_22 : Er 27 (wd 22) = 7622660 := by decide
theorem w32_22 : Er 32 (wd 22) = 14982420 := by decide
theorem wd_27 {l : List Int} {j : Nat} (h : okl l) (hj : j < 23) : Er 27 l = Er 27 (wd j) ↔ l = wd j :=
  ⟨fun e => Er_inj (β := 27) (by decide) h (wd_ok j hj) e, fun e => by rw [e]⟩
theorem wd_32 {l : List Int} {j : Nat} (h : okl l) (hj : j < 23) : Er 32 l = Er 32 (wd j) ↔ l = wd j :=
  ⟨fun e => Er_inj (β := 32) (by decide) h (wd_ok j hj) e, fun e => by rw [e]⟩
theorem wd_inj : ∀ i, i < 23 → ∀ j, j < 23 → wd i = wd j → i = j := by decide
/-- which word of the list it is, 23 if none -/
def wIx (l : List Int) : Nat := (wdL.findIdx? (fun w => decide (w = l))).getD 23
def kS (c : Int32) : Nat := if Int32.toInt c = 40 then 3 else if Int32.toInt c = 41 then 4 else if Int32.toInt c = 59 then 5 else if Int32.toInt c = 60 ∨ Int32.toInt c = 61 then 7 else if Int32.toInt c = 43 ∨ Int32.toInt c = 45 then 8 else if Int32.toInt c = 42 then 9 else 0
def kW (l : List Int) : Nat := if l = wd 19 ∨ l = wd 20 ∨ l = wd 21 ∨ l = wd 22 then 1 else if l = wd 16 then 2 else if l = wd 17 ∨ l = wd 18 then 6 else 0
/-- the kind of the token that begins at b, as the law's machine wants it -/
def kt (f : Nat → Int32) (n b : Nat) : Nat := if tK f n b = 2 then 1 else if tK f n b = 1 then kW (lr f b (tE f n b - b)) else if tK f n b = 3 then kS (f b) else 0
def nt (f : Nat → Int32) (n b : Nat) : Nat := tB f n (tE f n b)
theorem tE_gt {f : Nat → Int32} {n b : Nat} (h : b < n) : b < tE f n b := by
  unfold tE
  rw [if_neg (by omega)]
  split
  · rename_i hl
    rw [runE_step h hl]; exact runE_ge
  · split
    · rename_i hd
      rw [runE_step h hd]; exact runE_ge
    · omega
theorem tE_le {f : Nat → Int32} {n b : Nat} (h : b ≤ n) : tE f n b ≤ n := by
  unfold tE
  split
  · exact h
  · split
    · exact runE_le h
    · split
      · exact runE_le h
      · omega
theorem nt_gt {f : Nat → Int32} {n b : Nat} (h : b < n) : b < nt f n b := Nat.lt_of_lt_of_le (tE_gt h) runE_ge
theorem nt_le {f : Nat → Int32} {n b : Nat} (h : b ≤ n) : nt f n b ≤ n := runE_le (tE_le h)
theorem lr_ok {f : Nat → Int32} {n b : Nat} (hl : isL (f b) = true) (hb : b < n) : okl (lr f b (tE f n b - b)) := by
  apply okl_lr
  intro q h1 h2
  have e : tE f n b = runE isL f n b := by
    unfold tE
    rw [if_neg (by omega), if_pos hl]
  have h3 : b ≤ tE f n b := Nat.le_of_lt (tE_gt hb)
  exact runE_mem (P := isL) (f := f) (n := n) (p := b) h1 (by rw [← e]; omega)
