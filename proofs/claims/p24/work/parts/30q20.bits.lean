/-! sets of guests as bits -/
def BS (p : Nat → Bool) : Nat → Nat
  | 0 => 0
  | n + 1 => BS p n ||| (if p n = true then 2 ^ n else 0)
theorem BS_tb {p : Nat → Bool} : ∀ n i, (BS p n).testBit i = (decide (i < n) && p i)
  | 0, i => by show (0 : Nat).testBit i = _; rw [Nat.zero_testBit, decide_eq_false (Nat.not_lt_zero i), Bool.false_and]
  | n + 1, i => by
    show (BS p n ||| (if p n = true then 2 ^ n else 0)).testBit i = _
    rw [Nat.testBit_or, BS_tb n i]
    by_cases e : i = n
    · subst e
      rw [decide_eq_false (Nat.lt_irrefl i), decide_eq_true (Nat.lt_succ_self i), Bool.false_and, Bool.false_or, Bool.true_and]
      cases hp : p i with
      | true => rw [if_pos rfl, Nat.testBit_two_pow, decide_eq_true rfl]
      | false => rw [if_neg (by decide), Nat.zero_testBit]
    · have h1 : (if p n = true then 2 ^ n else 0).testBit i = false := by
        cases hp : p n with
        | true => rw [if_pos rfl, Nat.testBit_two_pow, decide_eq_false (fun z => e z.symm)]
        | false => rw [if_neg (by decide), Nat.zero_testBit]
      rw [h1, Bool.or_false]
      by_cases hl : i < n
      · rw [decide_eq_true hl, decide_eq_true (show i < n + 1 by omega)]
      · rw [decide_eq_false hl, decide_eq_false (show ¬ i < n + 1 by omega)]
theorem BS_lt {p : Nat → Bool} : ∀ n, BS p n < 2 ^ n
  | 0 => by show (0 : Nat) < 2 ^ 0; decide
  | n + 1 => by
    have h := BS_lt (p := p) n
    have h2 : 2 ^ n < 2 ^ (n + 1) := Nat.pow_lt_pow_right (by decide) (Nat.lt_succ_self n)
    refine Nat.or_lt_two_pow (by omega) ?_
    split
    · exact h2
    · exact Nat.lt_of_le_of_lt (Nat.zero_le _) h2
theorem BS_64 {p : Nat → Bool} {n : Nat} (h : n ≤ 6) : BS p n < 64 := Nat.lt_of_lt_of_le (BS_lt n) (by
  have : 2 ^ n ≤ 2 ^ 6 := Nat.pow_le_pow_right (by decide) h
  omega)
theorem BS_congr {p q : Nat → Bool} : ∀ n, (∀ i, i < n → p i = q i) → BS p n = BS q n
  | 0, _ => rfl
  | n + 1, h => by
    show BS p n ||| (if p n = true then 2 ^ n else 0) = BS q n ||| (if q n = true then 2 ^ n else 0)
    rw [BS_congr n (fun i hi => h i (by omega)), h n (by omega)]
/-- how many -/
def cnt (p : Nat → Bool) : Nat → Nat
  | 0 => 0
  | n + 1 => cnt p n + (if p n = true then 1 else 0)
theorem cnt_le {p : Nat → Bool} : ∀ n, cnt p n ≤ n
  | 0 => Nat.le_refl _
  | n + 1 => by
    have h := cnt_le (p := p) n
    show cnt p n + (if p n = true then 1 else 0) ≤ n + 1
    split <;> omega
theorem cnt_congr {p q : Nat → Bool} : ∀ n, (∀ i, i < n → p i = q i) → cnt p n = cnt q n
  | 0, _ => rfl
  | n + 1, h => by
    show cnt p n + (if p n = true then 1 else 0) = cnt q n + (if q n = true then 1 else 0)
    rw [cnt_congr n (fun i hi => h i (by omega)), h n (by omega)]
theorem cnt_all {p : Nat → Bool} : ∀ n, cnt p n = n ↔ ∀ i, i < n → p i = true
  | 0 => ⟨fun _ i hi => absurd hi (Nat.not_lt_zero _), fun _ => rfl⟩
  | n + 1 => by
    have h := cnt_all (p := p) n
    have hl := cnt_le (p := p) n
    show cnt p n + (if p n = true then 1 else 0) = n + 1 ↔ _
    constructor
    · intro e i hi
      cases hp : p n with
      | true =>
        rw [hp, if_pos rfl] at e
        by_cases ei : i = n
        · rw [ei]; exact hp
        · exact h.mp (by omega) i (by omega)
      | false => rw [hp, if_neg (by decide)] at e; omega
    · intro e
      rw [e n (by omega), if_pos rfl, h.mpr (fun i hi => e i (by omega))]
theorem cnt_6 {p : Nat → Bool} {n : Nat} (h : n ≤ 6) : cnt (fun i => (BS p n).testBit i) 6 = cnt p n := by
  have e : ∀ m, cnt (fun i => (BS p n).testBit i) m = cnt p (min m n) := by
    intro m
    induction m with
    | zero => rw [Nat.zero_min]; rfl
    | succ m ih =>
      show cnt (fun i => (BS p n).testBit i) m + (if (BS p n).testBit m = true then 1 else 0) = _
      rw [ih, BS_tb]
      by_cases hm : m < n
      · rw [decide_eq_true hm, Bool.true_and, Nat.min_eq_left (by omega), Nat.min_eq_left (by omega)]; rfl
      · rw [decide_eq_false hm, Bool.false_and, if_neg (by decide), Nat.min_eq_right (by omega), Nat.min_eq_right (by omega)]; rfl
  rw [e 6, Nat.min_eq_right h]
set_option maxRecDepth 100000 in
theorem or1 : ∀ k, k < 64 → ∀ g, g < 6 → (nI k ||| (1 <<< (nI g &&& 31))) = nI (k ||| 2 ^ g) := by decide +kernel
set_option maxRecDepth 100000 in
theorem or0 : ∀ k, k < 64 → (nI k ||| 0) = nI k := by decide +kernel
set_option maxRecDepth 100000 in
theorem tb1 : ∀ k, k < 64 → ∀ g, g < 6 → ((nI k >>> (nI g &&& 31)) &&& 1) = (if k.testBit g = true then 1 else 0) := by decide +kernel
set_option maxRecDepth 100000 in
theorem full_ : ∀ g, g ≤ 6 → (1 <<< (nI g &&& 31)) - 1 = nI (2 ^ g - 1) := by decide +kernel
set_option maxRecDepth 100000 in
theorem bits_ : ∀ k, k < 64 → fX9_bitsZ (nI k) = nI (cnt (fun i => k.testBit i) 6) := by decide +kernel
set_option maxRecDepth 100000 in
theorem andn_ : ∀ a, a < 64 → ∀ b, b < 64 → (((nI a &&& (nI b ^^^ (-1))) = 0) ↔ ((List.range 6).all (fun i => !(a.testBit i) || b.testBit i)) = true) := by decide +kernel
theorem BS_s1 {p : Nat → Bool} {n : Nat} (h : n < 6) (hp : p n = true) : (nI (BS p n) ||| (1 <<< (nI n &&& 31))) = nI (BS p (n + 1)) := by
  rw [or1 _ (BS_64 (by omega)) n h]
  show _ = nI (BS p n ||| (if p n = true then 2 ^ n else 0))
  rw [if_pos hp]
theorem BS_s0 {p : Nat → Bool} {n : Nat} (hp : p n = false) : BS p (n + 1) = BS p n := by
  show BS p n ||| (if p n = true then 2 ^ n else 0) = BS p n
  rw [if_neg (by rw [hp]; decide), Nat.or_zero]
theorem BS_bit {p : Nat → Bool} {n g : Nat} (h : n ≤ 6) (hg : g < n) : (((nI (BS p n) >>> (nI g &&& 31)) &&& 1) = 1 ↔ p g = true) ∧ (((nI (BS p n) >>> (nI g &&& 31)) &&& 1) = 0 ↔ p g = false) := by
  rw [tb1 _ (BS_64 h) g (by omega), BS_tb, decide_eq_true hg, Bool.true_and]
  cases p g with
  | true => exact ⟨⟨fun _ => rfl, fun _ => by rw [if_pos rfl]⟩, ⟨fun z => by rw [if_pos rfl] at z; exact absurd z (by decide), fun z => Bool.noConfusion z⟩⟩
  | false => exact ⟨⟨fun z => by rw [if_neg (by decide)] at z; exact absurd z (by decide), fun z => Bool.noConfusion z⟩, ⟨fun _ => rfl, fun _ => by rw [if_neg (by decide)]⟩⟩
theorem BS_full {p : Nat → Bool} {n : Nat} (h : n ≤ 6) : (nI (BS p n) = (1 <<< (nI n &&& 31)) - 1) ↔ cnt p n = n := by
  rw [full_ n h, cnt_all]
  have h2 : 2 ^ n ≤ 64 := by
    have : 2 ^ n ≤ 2 ^ 6 := Nat.pow_le_pow_right (by decide) h
    omega
  have hb := BS_64 (p := p) h
  have e : (nI (BS p n) = nI (2 ^ n - 1)) ↔ BS p n = 2 ^ n - 1 := nI_eq (by omega) (by omega)
  rw [e]
  constructor
  · intro z i hi
    have t := BS_tb (p := p) n i
    rw [z, Nat.testBit_two_pow_sub_one, decide_eq_true hi, Bool.true_and] at t
    exact t.symm
  · intro z
    refine Nat.eq_of_testBit_eq (fun i => ?_)
    rw [BS_tb, Nat.testBit_two_pow_sub_one]
    by_cases hi : i < n
    · rw [decide_eq_true hi, Bool.true_and]; exact z i hi
    · rw [decide_eq_false hi, Bool.false_and]
theorem BS_sub {p q : Nat → Bool} {n : Nat} (h : n ≤ 6) : ((nI (BS p n) &&& (nI (BS q n) ^^^ (-1))) = 0) ↔ ∀ i, i < n → p i = true → q i = true := by
  rw [andn_ _ (BS_64 h) _ (BS_64 h), List.all_eq_true]
  constructor
  · intro z i hi hp
    have t := z i (List.mem_range.mpr (by omega))
    rw [BS_tb, BS_tb, decide_eq_true hi, Bool.true_and, Bool.true_and, hp, Bool.not_true, Bool.false_or] at t
    exact t
  · intro z i hi
    rw [BS_tb, BS_tb]
    by_cases hn : i < n
    · rw [decide_eq_true hn, Bool.true_and, Bool.true_and]
      cases hp : p i with
      | true => rw [z i hn hp]; rfl
      | false => rfl
    · rw [decide_eq_false hn, Bool.false_and, Bool.false_and]; rfl
