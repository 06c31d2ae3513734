/-! the reference: the law's codes as a machine over what is open (true: a not) -/
theorem I9_minV {b j : Nat} {f : Nat → Int32} {v : Int32} (h : I9_min b f) (hv : 0 ≤ Int32.toInt v ∧ Int32.toInt v ≤ (b : Int)) : I9_min b (upd f j v) :=
  upd_p (P := fun z => 0 ≤ Int32.toInt z ∧ Int32.toInt z ≤ (b : Int)) h (fun _ => hv)
theorem I9_supS {f : Nat → Int32} (h : I9_sup f) : I9_sup (sft f 4 4) := ⟨h.2.2.1, h.2.2.2, h.2.2.1, h.2.2.2⟩
def popn : List Bool → List Bool
  | true :: r => popn r
  | false :: r => false :: r
  | [] => []
def stp (c : Int32) (l : List Bool) : Option (List Bool) :=
  if c = 28 then (if l.length < 5 then some (false :: l) else none)
  else if c = 30 then (if l.length < 5 then some (true :: l) else none)
  else if c = 29 then (match l with
    | [] => none
    | _ :: r => some (popn r))
  else if c = 20 ∨ c = 21 ∨ c = 22 ∨ c = 24 ∨ c = 25 ∨ c = 26 ∨ c = 27 then some l
  else if c < 0 then none else some (popn l)
def mch (f : Nat → Int32) (a : Nat) : Nat → Option (List Bool)
  | 0 => some []
  | n + 1 => (mch f a n).bind (stp (f (a + n)))
def I9_ok (f : Nat → Int32) (a b : Nat) : Prop := ∃ l, mch f a (b - a) = some l
def I9_c0 (f lf lt : Nat → Int32) : Prop := ∃ a b : Nat, a ≤ b ∧ b ≤ 1000 ∧ lf 0 = nI a ∧ lt 0 = nI b ∧ I9_ok f a b
def I9_c1 (f lf lt : Nat → Int32) : Prop := ∃ a b : Nat, 1000 ≤ a ∧ a ≤ b ∧ b ≤ 2000 ∧ lf 1 = nI a ∧ lt 1 = nI b ∧ I9_ok f a b
def I9_lo (f g : Nat → Int32) : Prop := ∀ q, q < 1000 → g q = f q
theorem mch_congr {f g : Nat → Int32} {a : Nat} : ∀ {n : Nat}, (∀ q, a ≤ q → q < a + n → g q = f q) → mch g a n = mch f a n
  | 0, _ => rfl
  | n + 1, h => by
    show (mch g a n).bind (stp (g (a + n))) = (mch f a n).bind (stp (f (a + n)))
    rw [mch_congr (n := n) (fun q h1 h2 => h q h1 (by omega)), h (a + n) (by omega) (by omega)]
theorem mch_sft {f : Nat → Int32} {a : Nat} : ∀ {n : Nat}, a + n ≤ 1000 → mch (sft f 1000 1000) a n = mch f (1000 + a) n
  | 0, _ => rfl
  | n + 1, h => by
    show (mch (sft f 1000 1000) a n).bind (stp (sft f 1000 1000 (a + n))) = (mch f (1000 + a) n).bind (stp (f (1000 + a + n)))
    rw [mch_sft (n := n) (by omega)]
    have e : sft f 1000 1000 (a + n) = f (1000 + a + n) := by
      unfold sft
      rw [if_pos (by omega)]
      congr 1; omega
    rw [e]
theorem I9_c0lo {f g lf lt : Nat → Int32} (h : I9_c0 f lf lt) (hl : I9_lo f g) : I9_c0 g lf lt := by
  obtain ⟨a, b, h1, h2, h3, h4, l, h5⟩ := h
  exact ⟨a, b, h1, h2, h3, h4, l, by rw [mch_congr (f := f) (fun q _ hq => hl q (by omega))]; exact h5⟩
theorem I9_c0u {f lf lt : Nat → Int32} {v : Int32} (h : I9_c0 f lf lt) : I9_c0 f (upd lf (Int32.toNatClampNeg 1) v) lt := by
  obtain ⟨a, b, h1, h2, h3, h4⟩ := h
  exact ⟨a, b, h1, h2, (by rw [pk_un (by decide)]; exact h3), h4⟩
theorem I9_c0v {f lf lt : Nat → Int32} {v : Int32} (h : I9_c0 f lf lt) : I9_c0 f lf (upd lt (Int32.toNatClampNeg 1) v) := by
  obtain ⟨a, b, h1, h2, h3, h4, h5⟩ := h
  exact ⟨a, b, h1, h2, h3, (by rw [pk_un (by decide)]; exact h4), h5⟩
theorem I9_c1i {f lf lt : Nat → Int32} : I9_c1 f (upd lf (Int32.toNatClampNeg 1) 1000) (upd lt (Int32.toNatClampNeg 1) 1000) :=
  ⟨1000, 1000, by omega, by omega, by omega, pk_us, pk_us, [], rfl⟩
theorem I9_c1n {f lf lt : Nat → Int32} {a b : Nat} (h0 : 1000 ≤ a) (h1 : a ≤ b) (h2 : b ≤ 2000) (h : I9_ok f a b) : I9_c1 f (upd lf (Int32.toNatClampNeg 1) (nI a)) (upd lt (Int32.toNatClampNeg 1) (nI b)) :=
  ⟨a, b, h0, h1, h2, pk_us, pk_us, h⟩
theorem I9_lay {f lf lt : Nat → Int32} (h : I9_c1 f lf lt) : I9_c0 (sft f 1000 1000) (upd lf (Int32.toNatClampNeg 0) (lf (Int32.toNatClampNeg 1) - 1000)) (upd lt (Int32.toNatClampNeg 0) (lt (Int32.toNatClampNeg 1) - 1000)) := by
  obtain ⟨a, b, h0, h1, h2, h3, h4, l, h5⟩ := h
  refine ⟨a - 1000, b - 1000, by omega, by omega, ?_, ?_, l, ?_⟩
  · rw [show (0 : Nat) = Int32.toNatClampNeg 0 from rfl, pk_us, show Int32.toNatClampNeg 1 = 1 from rfl, h3]
    exact nI_sub_ (b := 1000) h0 (by omega)
  · rw [show (0 : Nat) = Int32.toNatClampNeg 0 from rfl, pk_us, show Int32.toNatClampNeg 1 = 1 from rfl, h4]
    exact nI_sub_ (b := 1000) (by omega) (by omega)
  · rw [mch_sft (by omega), show b - 1000 - (a - 1000) = b - a by omega, show 1000 + (a - 1000) = a by omega]
    exact h5
theorem mch_some {f : Nat → Int32} {a : Nat} : ∀ {n k : Nat} {l : List Bool}, mch f a n = some l → k ≤ n → ∃ l', mch f a k = some l'
  | 0, k, l, h, hk => ⟨[], by rw [show k = 0 by omega]; rfl⟩
  | n + 1, k, l, h, hk => by
    by_cases e : k = n + 1
    · exact ⟨l, by rw [e]; exact h⟩
    · obtain ⟨l1, h1, -⟩ := Option.bind_eq_some_iff.mp (show (mch f a n).bind (stp (f (a + n))) = some l from h)
      exact mch_some h1 (by omega)
theorem mch_len {f : Nat → Int32} {a : Nat} : ∀ {n : Nat} {l : List Bool}, mch f a n = some l → l.length ≤ 5
  | 0, l, h => by cases h; decide
  | n + 1, l, h => by
    obtain ⟨l1, h1, h2⟩ := Option.bind_eq_some_iff.mp (show (mch f a n).bind (stp (f (a + n))) = some l from h)
    have h3 := mch_len h1
    have hp : ∀ z : List Bool, (popn z).length ≤ z.length := by
      intro z
      induction z with
      | nil => exact Nat.le_refl _
      | cons b r ih => cases b with
        | true => exact Nat.le_trans ih (Nat.le_succ _)
        | false => exact Nat.le_refl _
    unfold stp at h2
    split at h2
    · split at h2
      · cases h2; simp; omega
      · cases h2
    · split at h2
      · split at h2
        · cases h2; simp; omega
        · cases h2
      · split at h2
        · cases l1 with
          | nil => cases h2
          | cons b r => cases h2; have := hp r; simp at h3; omega
        · split at h2
          · cases h2; exact h3
          · split at h2
            · cases h2
            · cases h2; exact Nat.le_trans (hp l1) h3
