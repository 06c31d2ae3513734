/-! which signs are put on a tape, and how long it is behind them -/
def byt (w : Int64) (sh : Int32) : Int32 := ((w.toUInt64 >>> (sh.toInt64.toUInt64 &&& Int64.toUInt64 63)).toInt64 &&& 255).toInt32
def okv (v : Int32) : Prop := Int32.toInt v = 10 ∨ (32 ≤ Int32.toInt v ∧ Int32.toInt v ≤ 126)
def okz (v : Int32) : Bool := decide (Int32.toInt v = 10) || (decide (32 ≤ Int32.toInt v) && decide (Int32.toInt v ≤ 126))
def nx (w : Int64) (sh : Int32) (n : Nat) : Nat := if (okz (byt w sh) && decide (n < 1000)) = true then n + 1 else n
def putS (w : Int64) : Nat → Nat → Nat
  | 0, n => n
  | r + 1, n => putS w r (nx w (nI (8 * r)) n)
def fedS (a b c : Int64) (n : Nat) : Nat → Nat
  | 0 => n
  | k + 1 => nx (if k < 8 then a else if k < 16 then b else c) (nI (56 - 8 * (k % 8))) (fedS a b c n k)
def putN (w : Int64) (r n : Nat) : Nat := if h : r = 0 then n else putN w (r - 1) (nx w (nI (8 * (r - 1))) n)
termination_by r
decreasing_by omega
def fedN (a b c : Int64) (n k : Nat) : Nat := if h : k = 0 then n else nx (if k - 1 < 8 then a else if k - 1 < 16 then b else c) (nI (56 - 8 * ((k - 1) % 8))) (fedN a b c n (k - 1))
termination_by k
decreasing_by omega
def I9_nx (m : Nat) (w : Int64) (sh : Int32) (n : Nat) : Prop := m = nx w sh n
theorem putN_0 {w : Int64} {n : Nat} : putN w 0 n = n := by rw [putN, dif_pos rfl]
theorem putN_s {w : Int64} {r n : Nat} : putN w (r + 1) n = putN w r (nx w (nI (8 * r)) n) := by
  rw [putN, dif_neg (by omega), Nat.add_sub_cancel]
theorem fedN_0 {a b c : Int64} {n : Nat} : fedN a b c n 0 = n := by rw [fedN, dif_pos rfl]
theorem fedN_s {a b c : Int64} {n k : Nat} : fedN a b c n (k + 1) = nx (if k < 8 then a else if k < 16 then b else c) (nI (56 - 8 * (k % 8))) (fedN a b c n k) := by
  rw [fedN, dif_neg (by omega), Nat.add_sub_cancel]
theorem putN_eq {w : Int64} : ∀ r n, putN w r n = putS w r n
  | 0, n => putN_0
  | r + 1, n => putN_s.trans (putN_eq r _)
theorem fedN_eq {a b c : Int64} {n : Nat} : ∀ k, fedN a b c n k = fedS a b c n k
  | 0 => fedN_0
  | k + 1 => fedN_s.trans (congrArg _ (fedN_eq k))
theorem okz_t {v : Int32} (h : Int32.toInt v = 10 ∨ (32 ≤ Int32.toInt v ∧ Int32.toInt v ≤ 126)) : okz v = true := by
  unfold okz
  rcases h with h | ⟨h1, h2⟩
  · rw [decide_eq_true h]; rfl
  · rw [decide_eq_true h1, decide_eq_true h2, Bool.and_self, Bool.or_true]
theorem okz_f {v : Int32} (h : ¬ (Int32.toInt v = 10 ∨ (32 ≤ Int32.toInt v ∧ Int32.toInt v ≤ 126))) : okz v = false := by
  unfold okz
  by_cases h1 : Int32.toInt v = 10
  · exact absurd (Or.inl h1) h
  · rw [decide_eq_false h1, Bool.false_or]
    by_cases h2 : 32 ≤ Int32.toInt v
    · by_cases h3 : Int32.toInt v ≤ 126
      · exact absurd (Or.inr ⟨h2, h3⟩) h
      · rw [decide_eq_false h3, Bool.and_false]
    · rw [decide_eq_false h2, Bool.false_and]
theorem nx_t {w : Int64} {sh : Int32} {n : Nat} (hn : n < 1000) (h : Int32.toInt (byt w sh) = 10 ∨ (32 ≤ Int32.toInt (byt w sh) ∧ Int32.toInt (byt w sh) ≤ 126)) : n + 1 = nx w sh n := by
  unfold nx
  rw [okz_t h, decide_eq_true hn]; rfl
theorem nx_f1 {w : Int64} {sh : Int32} {n : Nat} (h : ¬ (Int32.toInt (byt w sh) = 10 ∨ (32 ≤ Int32.toInt (byt w sh) ∧ Int32.toInt (byt w sh) ≤ 126))) : n = nx w sh n := by
  unfold nx
  rw [okz_f h]; rfl
theorem nx_f2 {w : Int64} {sh : Int32} {n : Nat} (hn : ¬ n < 1000) : I9_nx n w sh n := by
  unfold I9_nx nx
  rw [decide_eq_false hn, Bool.and_false]; rfl
theorem nx_tv {w : Int64} {sh v : Int32} {n : Nat} (hv : v = byt w sh) (hn : n < 1000) (h : Int32.toInt v = 10 ∨ (32 ≤ Int32.toInt v ∧ Int32.toInt v ≤ 126)) : I9_nx (n + 1) w sh n := nx_t hn (by rw [← hv]; exact h)
theorem nx_f1v {w : Int64} {sh v : Int32} {n : Nat} (hv : v = byt w sh) (h : ¬ (Int32.toInt v = 10 ∨ (32 ≤ Int32.toInt v ∧ Int32.toInt v ≤ 126))) : I9_nx n w sh n := nx_f1 (by rw [← hv]; exact h)
theorem put_step {w : Int64} {r n n' X : Nat} {sh : Int32} (h : putN w r n = X) (hr : 1 ≤ r) (h8 : r ≤ 8) (hs : Int32.toInt sh = 8 * (r : Int) - 8) (e : I9_nx n' w sh n) : putN w (r - 1) n' = X := by
  obtain ⟨q, rfl⟩ : ∃ q, r = q + 1 := ⟨r - 1, by omega⟩
  have hsh : sh = nI (8 * q) := Int32.toInt_inj.mp (by rw [nI_toInt (by omega), hs]; omega)
  subst hsh
  rw [show n' = _ from e, Nat.add_sub_cancel]
  exact putN_s.symm.trans h
theorem bk8 {a b : Int32} {n : Nat} (ha : Int32.toInt a = Int32.toInt b + (-8)) (hb : Int32.toInt b ≥ 0) (hm : (Int32.toInt b - (-8) + 1).toNat < n + 1) : (Int32.toInt a - (-8) + 1).toNat < n := by omega
theorem bk8b {a b : Int32} (ha : Int32.toInt a = Int32.toInt b + (-8)) (hb : Int32.toInt b ≥ 0) (h : (-8) ≤ Int32.toInt b ∧ Int32.toInt b ≤ 56) : (-8) ≤ Int32.toInt a ∧ Int32.toInt a ≤ 56 := by omega
theorem bk8c {a b : Int32} {r : Nat} (ha : Int32.toInt a = Int32.toInt b + (-8)) (hb : Int32.toInt b ≥ 0) (h : Int32.toInt b = 8 * (r : Int) - 8) : Int32.toInt a = 8 * ((r - 1 : Nat) : Int) - 8 := by omega
theorem bk8d {b : Int32} {r : Nat} (hb : Int32.toInt b ≥ 0) (h : Int32.toInt b = 8 * (r : Int) - 8) : 1 ≤ r := by omega
theorem put_end {w : Int64} {r n X : Nat} (h : putN w r n = X) (hr : r = 0) : n = X := by
  subst hr; exact putN_0.symm.trans h
theorem fed_step {a b c w : Int64} {n n' z k : Nat} (h : n = fedN a b c z k) (hw : w = if k < 8 then a else if k < 16 then b else c) (e : I9_nx n' w (nI (56 - 8 * (k % 8))) n) : n' = fedN a b c z (k + 1) := by
  rw [show n' = _ from e, hw, h, fedN_s]
theorem fed_all {a b c : Int64} {z : Nat} : fedN a b c z 24 = putN c 8 (putN b 8 (putN a 8 z)) := by
  rw [fedN_eq, putN_eq, putN_eq, putN_eq]; rfl
theorem sh9 : ∀ k, k < 24 → (56 : Int32) - 8 * (nI k &&& 7) = nI (56 - 8 * (k % 8)) := by decide
