/-! signs and tokens: what both readers look at -/
def isL (c : Int32) : Bool := decide (97 ≤ Int32.toInt c) && decide (Int32.toInt c ≤ 122)
def isD (c : Int32) : Bool := decide (48 ≤ Int32.toInt c) && decide (Int32.toInt c ≤ 57)
def isB (c : Int32) : Bool := decide (Int32.toInt c = 32) || decide (Int32.toInt c = 10)
def isG (c : Int32) : Bool := (decide (40 ≤ Int32.toInt c) && decide (Int32.toInt c ≤ 43)) || (decide (Int32.toInt c = 45) || (decide (59 ≤ Int32.toInt c) && decide (Int32.toInt c ≤ 61)))
theorem isL_t {c : Int32} : isL c = true ↔ 97 ≤ Int32.toInt c ∧ Int32.toInt c ≤ 122 := by
  unfold isL; rw [Bool.and_eq_true, decide_eq_true_iff, decide_eq_true_iff]
theorem isD_t {c : Int32} : isD c = true ↔ 48 ≤ Int32.toInt c ∧ Int32.toInt c ≤ 57 := by
  unfold isD; rw [Bool.and_eq_true, decide_eq_true_iff, decide_eq_true_iff]
theorem isB_t {c : Int32} : isB c = true ↔ Int32.toInt c = 32 ∨ Int32.toInt c = 10 := by
  unfold isB; rw [Bool.or_eq_true, decide_eq_true_iff, decide_eq_true_iff]
theorem isG_t {c : Int32} : isG c = true ↔ (40 ≤ Int32.toInt c ∧ Int32.toInt c ≤ 43) ∨ Int32.toInt c = 45 ∨ (59 ≤ Int32.toInt c ∧ Int32.toInt c ≤ 61) := by
  unfold isG; rw [Bool.or_eq_true, Bool.or_eq_true, Bool.and_eq_true, Bool.and_eq_true, decide_eq_true_iff, decide_eq_true_iff, decide_eq_true_iff, decide_eq_true_iff, decide_eq_true_iff]
def runTo (P : Int32 → Bool) (f : Nat → Int32) (n : Nat) : Nat → Nat → Nat
  | 0, p => p
  | r + 1, p => if p < n ∧ P (f p) = true then runTo P f n r (p + 1) else p
def runE (P : Int32 → Bool) (f : Nat → Int32) (n p : Nat) : Nat := runTo P f n (n - p) p
theorem runE_step {P : Int32 → Bool} {f : Nat → Int32} {n p : Nat} (h : p < n) (hp : P (f p) = true) : runE P f n p = runE P f n (p + 1) := by
  unfold runE
  obtain ⟨r, hr⟩ : ∃ r, n - p = r + 1 := ⟨n - p - 1, by omega⟩
  rw [hr, show n - (p + 1) = r by omega]
  show (if p < n ∧ P (f p) = true then runTo P f n r (p + 1) else p) = _
  rw [if_pos ⟨h, hp⟩]
theorem runE_stop {P : Int32 → Bool} {f : Nat → Int32} {n p : Nat} (h : ¬ (p < n ∧ P (f p) = true)) : runE P f n p = p := by
  unfold runE
  cases hr : n - p with
  | zero => rfl
  | succ r =>
    show (if p < n ∧ P (f p) = true then runTo P f n r (p + 1) else p) = _
    rw [if_neg h]
theorem runTo_ge {P : Int32 → Bool} {f : Nat → Int32} {n : Nat} : ∀ {r p : Nat}, p ≤ runTo P f n r p
  | 0, p => Nat.le_refl p
  | r + 1, p => by
    show p ≤ (if p < n ∧ P (f p) = true then runTo P f n r (p + 1) else p)
    split
    · exact Nat.le_trans (Nat.le_succ p) runTo_ge
    · exact Nat.le_refl p
theorem runTo_le {P : Int32 → Bool} {f : Nat → Int32} {n : Nat} : ∀ {r p : Nat}, p ≤ n → runTo P f n r p ≤ n
  | 0, p, h => h
  | r + 1, p, h => by
    show (if p < n ∧ P (f p) = true then runTo P f n r (p + 1) else p) ≤ n
    split
    · exact runTo_le (by omega)
    · exact h
theorem runE_ge {P : Int32 → Bool} {f : Nat → Int32} {n p : Nat} : p ≤ runE P f n p := runTo_ge
theorem runE_le {P : Int32 → Bool} {f : Nat → Int32} {n p : Nat} (h : p ≤ n) : runE P f n p ≤ n := runTo_le h
theorem runTo_mem {P : Int32 → Bool} {f : Nat → Int32} {n : Nat} : ∀ {r p q : Nat}, p ≤ q → q < runTo P f n r p → P (f q) = true
  | 0, p, q, h1, h2 => absurd h2 (Nat.not_lt.mpr h1)
  | r + 1, p, q, h1, h2 => by
    have h2 : q < (if p < n ∧ P (f p) = true then runTo P f n r (p + 1) else p) := h2
    split at h2
    · rename_i hp
      by_cases e : q = p
      · rw [e]; exact hp.2
      · exact runTo_mem (r := r) (p := p + 1) (by omega) h2
    · omega
theorem runE_mem {P : Int32 → Bool} {f : Nat → Int32} {n p q : Nat} (h1 : p ≤ q) (h2 : q < runE P f n p) : P (f q) = true := runTo_mem h1 h2
theorem runTo_end {P : Int32 → Bool} {f : Nat → Int32} {n : Nat} : ∀ {r p : Nat}, n ≤ p + r → ¬ (runTo P f n r p < n ∧ P (f (runTo P f n r p)) = true)
  | 0, p, h => fun z => by have : p < n := z.1; omega
  | r + 1, p, h => by
    show ¬ ((if p < n ∧ P (f p) = true then runTo P f n r (p + 1) else p) < n ∧ P (f (if p < n ∧ P (f p) = true then runTo P f n r (p + 1) else p)) = true)
    split
    · exact runTo_end (by omega)
    · assumption
theorem runE_end {P : Int32 → Bool} {f : Nat → Int32} {n p : Nat} : ¬ (runE P f n p < n ∧ P (f (runE P f n p)) = true) := runTo_end (by omega)
theorem runTo_congr {P : Int32 → Bool} {f g : Nat → Int32} {n : Nat} (h : ∀ q, q < n → f q = g q) : ∀ {r p : Nat}, runTo P f n r p = runTo P g n r p
  | 0, p => rfl
  | r + 1, p => by
    show (if p < n ∧ P (f p) = true then runTo P f n r (p + 1) else p) = (if p < n ∧ P (g p) = true then runTo P g n r (p + 1) else p)
    by_cases hp : p < n
    · rw [h p hp, runTo_congr h (r := r)]
    · rw [if_neg (fun z => hp z.1), if_neg (fun z => hp z.1)]
theorem runE_congr {P : Int32 → Bool} {f g : Nat → Int32} {n p : Nat} (h : ∀ q, q < n → f q = g q) : runE P f n p = runE P g n p := runTo_congr h
/-- where the next token begins, where it ends, its kind -/
def tB (f : Nat → Int32) (n p : Nat) : Nat := runE isB f n p
def tE (f : Nat → Int32) (n b : Nat) : Nat := if b = n then b else if isL (f b) = true then runE isL f n b else if isD (f b) = true then runE isD f n b else b + 1
def tK (f : Nat → Int32) (n b : Nat) : Nat := if b = n then 0 else if isL (f b) = true then (if tE f n b - b ≤ 8 then 1 else 4) else if isD (f b) = true then (if tE f n b - b ≤ 4 then 2 else 4) else if isG (f b) = true then 3 else 4
/-- a word's letters, the last first, and its number in a base -/
def lr (f : Nat → Int32) (b : Nat) : Nat → List Int
  | 0 => []
  | m + 1 => (Int32.toInt (f (b + m)) - 96) :: lr f b m
def Er (β : Int) : List Int → Int
  | [] => 0
  | d :: r => Er β r * β + d
def okl (l : List Int) : Prop := ∀ d ∈ l, 1 ≤ d ∧ d ≤ 26
theorem okl_lr {f : Nat → Int32} {b : Nat} : ∀ {m : Nat}, (∀ q, b ≤ q → q < b + m → isL (f q) = true) → okl (lr f b m)
  | 0, _ => fun d h => absurd h List.not_mem_nil
  | m + 1, h => by
    intro d hd
    rcases List.mem_cons.mp hd with e | e
    · have h1 := isL_t.mp (h (b + m) (by omega) (by omega))
      omega
    · exact okl_lr (m := m) (fun q h1 h2 => h q h1 (by omega)) d e
theorem Er_nn {β : Int} (hβ : 27 ≤ β) : ∀ {l : List Int}, okl l → 0 ≤ Er β l
  | [], _ => Int.le_refl 0
  | d :: r, h => by
    have h1 := Er_nn hβ (l := r) (fun z hz => h z (List.mem_cons_of_mem _ hz))
    have h2 := (h d List.mem_cons_self).1
    have h3 : 0 ≤ Er β r * β := Int.mul_nonneg h1 (by omega)
    show 0 ≤ Er β r * β + d
    omega
theorem Er_inj {β : Int} (hβ : 27 ≤ β) : ∀ {l1 l2 : List Int}, okl l1 → okl l2 → Er β l1 = Er β l2 → l1 = l2
  | [], [], _, _, _ => rfl
  | [], d :: r, _, h2, e => by
    have h3 := Er_nn hβ (l := r) (fun z hz => h2 z (List.mem_cons_of_mem _ hz))
    have h4 := (h2 d List.mem_cons_self).1
    have h5 : 0 ≤ Er β r * β := Int.mul_nonneg h3 (by omega)
    have e : 0 = Er β r * β + d := e
    omega
  | d :: r, [], h1, _, e => by
    have h3 := Er_nn hβ (l := r) (fun z hz => h1 z (List.mem_cons_of_mem _ hz))
    have h4 := (h1 d List.mem_cons_self).1
    have h5 : 0 ≤ Er β r * β := Int.mul_nonneg h3 (by omega)
    have e : Er β r * β + d = 0 := e
    omega
  | d1 :: r1, d2 :: r2, h1, h2, e => by
    have e : Er β r1 * β + d1 = Er β r2 * β + d2 := e
    have k1 := h1 d1 List.mem_cons_self
    have k2 := h2 d2 List.mem_cons_self
    have hr : Er β r1 = Er β r2 := by
      rcases Int.lt_trichotomy (Er β r1) (Er β r2) with z | z | z
      · have h3 : (Er β r1 + 1) * β ≤ Er β r2 * β := Int.mul_le_mul_of_nonneg_right (by omega) (by omega)
        rw [Int.add_mul, Int.one_mul] at h3
        omega
      · exact z
      · have h3 : (Er β r2 + 1) * β ≤ Er β r1 * β := Int.mul_le_mul_of_nonneg_right (by omega) (by omega)
        rw [Int.add_mul, Int.one_mul] at h3
        omega
    have hrr := Er_inj hβ (l1 := r1) (l2 := r2) (fun z hz => h1 z (List.mem_cons_of_mem _ hz)) (fun z hz => h2 z (List.mem_cons_of_mem _ hz)) hr
    have hd : d1 = d2 := by rw [hr] at e; omega
    rw [hd, hrr]
/-- one word in two bases: both numbers say which -/
theorem Er_two {l1 l2 : List Int} (h1 : okl l1) (h2 : okl l2) : (Er 32 l1 = Er 32 l2) ↔ (Er 27 l1 = Er 27 l2) :=
  ⟨fun e => by rw [Er_inj (β := 32) (by decide) h1 h2 e], fun e => by rw [Er_inj (β := 27) (by decide) h1 h2 e]⟩
theorem Er_lt {β : Int} (hβ : 27 ≤ β) : ∀ {l : List Int}, okl l → Er β l < β ^ l.length
  | [], _ => by show (0 : Int) < β ^ 0; rw [Int.pow_zero]; decide
  | d :: r, h => by
    have h1 := Er_lt hβ (l := r) (fun z hz => h z (List.mem_cons_of_mem _ hz))
    have h2 := h d List.mem_cons_self
    show Er β r * β + d < β ^ (r.length + 1)
    rw [Int.pow_succ]
    have h3 : (Er β r + 1) * β ≤ β ^ r.length * β := Int.mul_le_mul_of_nonneg_right (by omega) (by omega)
    rw [Int.add_mul, Int.one_mul] at h3
    omega
