/-! the reference: what its rows keep -/
def sgn (f : Nat → Int32) (sz k : Nat) : Int32 := if k < sz then f k else 0
theorem sgn_lt {f : Nat → Int32} {sz k : Nat} (h : 0 < Int32.toInt (sgn f sz k)) : k < sz := by
  by_cases q : k < sz
  · exact q
  · unfold sgn at h; rw [if_neg q] at h; exact absurd h (by decide)
theorem sgn_at {f : Nat → Int32} {sz k : Nat} (h : k < sz) (hs : k < 2 ^ 31) : f (Int32.toNatClampNeg (nI k)) = sgn f sz k := by
  rw [nI_clamp hs]; exact (if_pos h).symm
theorem sgn_no {f : Nat → Int32} {sz k : Nat} (h : ¬ k < sz) : (0 : Int32) = sgn f sz k := (if_neg h).symm
theorem tI_mul {a b : Int32} {x y : Int} (ha : a.toInt = x) (hb : b.toInt = y) (h1 : -2147483648 ≤ x * y) (h2 : x * y < 2147483648) : (a * b).toInt = x * y := by
  rw [Int32.toInt_mul, ha, hb]
  exact Int.bmod_eq_of_le (by omega) (by omega)
theorem clampT {v : Int32} {n : Nat} (h : Int32.toInt v = (n : Int)) : Int32.toNatClampNeg v = n := by
  have h9 : Int32.toNatClampNeg v = (Int32.toInt v).toNat := rfl
  rw [h9, h]; rfl
theorem clampNe {v : Int32} {n : Nat} (h : Int32.toInt v > (n : Int)) : ¬ Int32.toNatClampNeg v = n := by
  have h9 : Int32.toNatClampNeg v = (Int32.toInt v).toNat := rfl
  omega
def I9_sup (f : Nat → Int32) : Prop := (0 ≤ Int32.toInt (f 0) ∧ Int32.toInt (f 0) ≤ 6) ∧ (0 ≤ Int32.toInt (f 3) ∧ Int32.toInt (f 3) ≤ 12) ∧ (0 ≤ Int32.toInt (f 4) ∧ Int32.toInt (f 4) ≤ 6) ∧ (0 ≤ Int32.toInt (f 7) ∧ Int32.toInt (f 7) ≤ 12)
theorem upd_p {P : Int32 → Prop} {f : Nat → Int32} {j q : Nat} {v : Int32} (h : P (f q)) (hv : j = q → P v) : P (upd f j v q) := by
  by_cases e : j = q
  · subst e; rw [pk_us]; exact hv rfl
  · rw [pk_un (fun z => e z.symm)]; exact h
theorem I9_supU {f : Nat → Int32} {j : Nat} {v : Int32} (h : I9_sup f) (hv : (j = 0 → 0 ≤ Int32.toInt v ∧ Int32.toInt v ≤ 6) ∧ (j = 3 → 0 ≤ Int32.toInt v ∧ Int32.toInt v ≤ 12) ∧ (j = 4 → 0 ≤ Int32.toInt v ∧ Int32.toInt v ≤ 6) ∧ (j = 7 → 0 ≤ Int32.toInt v ∧ Int32.toInt v ≤ 12)) : I9_sup (upd f j v) :=
  ⟨upd_p (P := fun z => 0 ≤ Int32.toInt z ∧ Int32.toInt z ≤ 6) h.1 hv.1, upd_p (P := fun z => 0 ≤ Int32.toInt z ∧ Int32.toInt z ≤ 12) h.2.1 hv.2.1, upd_p (P := fun z => 0 ≤ Int32.toInt z ∧ Int32.toInt z ≤ 6) h.2.2.1 hv.2.2.1, upd_p (P := fun z => 0 ≤ Int32.toInt z ∧ Int32.toInt z ≤ 12) h.2.2.2 hv.2.2.2⟩
def I9_min (b : Nat) (f : Nat → Int32) : Prop := 0 ≤ Int32.toInt (f 1) ∧ Int32.toInt (f 1) ≤ (b : Int)
theorem I9_minM {b c : Nat} {f : Nat → Int32} (h : I9_min b f) (hb : b ≤ c) : I9_min c f := ⟨h.1, by have := h.2; omega⟩
theorem I9_minU {b j : Nat} {f : Nat → Int32} {v : Int32} (h : I9_min b f) (hj : ¬ j = 1) : I9_min b (upd f j v) :=
  upd_p (P := fun z => 0 ≤ Int32.toInt z ∧ Int32.toInt z ≤ (b : Int)) h (fun e => absurd e hj)
theorem I9_min1 {b : Nat} {f : Nat → Int32} {v : Int32} (h : 0 ≤ Int32.toInt v ∧ Int32.toInt v ≤ (b : Int)) : I9_min b (upd f (Int32.toNatClampNeg 1) v) := by
  show 0 ≤ Int32.toInt (upd f 1 v 1) ∧ Int32.toInt (upd f 1 v 1) ≤ (b : Int)
  rw [pk_us]; exact h
theorem I9_minC {b : Nat} {f g : Nat → Int32} (h : I9_min b f) : I9_min b (va_cpy f g 0 0 46) := by
  unfold I9_min
  rw [pk_cpy_in (by omega) (by omega)]
  exact h
def I9_row (n b : Nat) (f : Nat → Int32) : Prop := ∀ q, q < n → 0 ≤ Int32.toInt (f (46 * q + 1)) ∧ Int32.toInt (f (46 * q + 1)) ≤ (b : Int)
theorem I9_rowM {n b c : Nat} {f : Nat → Int32} (h : I9_row n b f) (hb : b ≤ c) : I9_row n c f := fun q hq => ⟨(h q hq).1, by have := (h q hq).2; omega⟩
theorem I9_rowC {n b d : Nat} {f g : Nat → Int32} (h : I9_min b f) (hg : I9_row n b g) : I9_row n b (va_cpy f g 0 (46 * d) 46) := by
  intro q hq
  by_cases e : q = d
  · subst e
    rw [pk_cpy_in (by omega) (by omega), show 0 + (46 * q + 1 - 46 * q) = 1 by omega]
    exact h
  · rw [pk_cpy_out (by omega)]; exact hg q hq
theorem I9_minR {n b d : Nat} {f g : Nat → Int32} (h : I9_row n b g) (hd : d < n) : I9_min b (va_cpy g f (46 * d) 0 46) := by
  unfold I9_min
  rw [pk_cpy_in (by omega) (by omega), show 46 * d + (1 - 0) = 46 * d + 1 by omega]
  exact h d hd
theorem I9_rowS {b j : Nat} {f : Nat → Int32} (h : I9_row 16 b f) (hj : j < 690) : I9_row 16 b (upd f j (f (j + 46))) := by
  intro q hq
  refine upd_p (P := fun z => 0 ≤ Int32.toInt z ∧ Int32.toInt z ≤ (b : Int)) (h q hq) (fun e => ?_)
  have := h (q + 1) (by omega)
  rw [show j + 46 = 46 * (q + 1) + 1 by omega]
  exact this
def I9_all (b : Nat) (f : Nat → Int32) : Prop := ∀ q, 0 ≤ Int32.toInt (f q) ∧ Int32.toInt (f q) ≤ (b : Int)
theorem I9_allU {b j : Nat} {f : Nat → Int32} {v : Int32} (h : I9_all b f) (hv : 0 ≤ Int32.toInt v ∧ Int32.toInt v ≤ (b : Int)) : I9_all b (upd f j v) :=
  fun q => upd_p (P := fun z => 0 ≤ Int32.toInt z ∧ Int32.toInt z ≤ (b : Int)) (h q) (fun _ => hv)
