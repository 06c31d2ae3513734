/-! a law of taste, token by token: the machine that the reference is (what is open, whether a comparison was made), over kinds of token
    kinds: 1 a number or a fact, 2 not, 3 '(', 4 ')', 5 ';', 6 and/or, 7 < =, 8 + -, 9 *, 0 anything else; nu: the next token -/
abbrev mSt : Type := (Nat × Nat) ⊕ (Bool × Nat × List Bool × List Bool)
def pS : List Bool → List Bool
  | true :: r => pS r
  | l => l
def pC : List Bool → List Bool → List Bool
  | true :: r, _ :: c => pC r c
  | _, c => c
def mW (ta nu : Nat → Nat) (b : Nat) (S C : List Bool) : mSt :=
  if ta b = 1 ∨ ta b = 2 ∨ ta b = 3 then
    if S.length = 5 then .inl (5, b)
    else if ta b = 2 then .inr (true, nu b, true :: S, false :: C)
    else if ta b = 3 then .inr (true, nu b, false :: S, false :: C)
    else .inr (false, nu b, pS S, pC S C)
  else .inl (1, b)
def mV (ta nu : Nat → Nat) (b : Nat) (S C : List Bool) : mSt :=
  if ta b = 8 ∨ ta b = 9 then .inr (true, nu b, S, C)
  else if ta b = 7 ∧ C.headD false = false then .inr (true, nu b, S, true :: C.tail)
  else if ta b = 6 then .inr (true, nu b, S, false :: C.tail)
  else if ta b = 4 ∧ S ≠ [] then .inr (false, nu b, pS S.tail, pC S.tail C.tail)
  else if ta b = 5 ∧ S = [] then .inl (0, nu b)
  else .inl (1, b)
def mN (ta nu : Nat → Nat) : mSt → mSt
  | .inl r => .inl r
  | .inr (true, b, S, C) => mW ta nu b S C
  | .inr (false, b, S, C) => mV ta nu b S C
def mI (ta nu : Nat → Nat) : Nat → mSt → mSt
  | 0, s => s
  | m + 1, s => mI ta nu m (mN ta nu s)
def Rch (ta nu : Nat → Nat) (s t : mSt) : Prop := ∃ m, mI ta nu m s = t
theorem mI_add {ta nu : Nat → Nat} : ∀ {a b : Nat} {s : mSt}, mI ta nu (a + b) s = mI ta nu b (mI ta nu a s)
  | 0, b, s => by rw [Nat.zero_add]; rfl
  | a + 1, b, s => by
    rw [show a + 1 + b = (a + b) + 1 by omega]
    exact mI_add (a := a)
theorem Rch.rf {ta nu : Nat → Nat} {s : mSt} : Rch ta nu s s := ⟨0, rfl⟩
theorem Rch.tr {ta nu : Nat → Nat} {s t u : mSt} (h1 : Rch ta nu s t) (h2 : Rch ta nu t u) : Rch ta nu s u := by
  obtain ⟨a, ha⟩ := h1
  obtain ⟨b, hb⟩ := h2
  exact ⟨a + b, by rw [mI_add, ha, hb]⟩
theorem Rch.one {ta nu : Nat → Nat} {s t : mSt} (h : mN ta nu s = t) : Rch ta nu s t := ⟨1, h⟩
theorem mI_inl {ta nu : Nat → Nat} {r : Nat × Nat} : ∀ {m : Nat}, mI ta nu m (.inl r) = .inl r
  | 0 => rfl
  | m + 1 => mI_inl (m := m)
theorem Rch.det {ta nu : Nat → Nat} {s : mSt} {r q : Nat × Nat} (h1 : Rch ta nu s (.inl r)) (h2 : Rch ta nu s (.inl q)) : r = q := by
  obtain ⟨a, ha⟩ := h1
  obtain ⟨b, hb⟩ := h2
  have e1 : mI ta nu (a + b) s = .inl r := by rw [mI_add, ha, mI_inl]
  have e2 : mI ta nu (a + b) s = .inl q := by rw [Nat.add_comm, mI_add, hb, mI_inl]
  exact Sum.inl.inj (e1.symm.trans e2)
/-- how tightly an operator binds -/
def bnd (k : Nat) : Nat := if k = 6 then 1 else if k = 7 then 2 else if k = 8 then 3 else if k = 9 then 4 else 0
/-- the machine's way through one part, and through parts that bind at least so tightly, as the class's reading goes -/
def PartIs (ta nu : Nat → Nat) (w b : Nat) (ok : Bool) (k b' : Nat) : Prop := ∀ S C : List Bool, S.length = w → Rch ta nu (.inr (true, b, S, C)) (if ok = true then .inr (false, b', pS S, pC S C) else .inl (k, b'))
def pre (t : Nat) (c : Bool) : Prop := (t ≤ 2 → c = false) ∧ (t = 3 → c = true)
def OverIs (ta nu : Nat → Nat) (t w b : Nat) (ok : Bool) (k b' : Nat) : Prop := ∀ (S C : List Bool) (c : Bool), S.length = w → pS S = S → pre t c → ∃ c' : Bool, Rch ta nu (.inr (true, b, S, c :: C)) (if ok = true then .inr (false, b', S, c' :: C) else .inl (k, b')) ∧ (3 ≤ t → c' = c) ∧ (ok = true → bnd (ta b') < t ∨ (bnd (ta b') = 2 ∧ c' = true))
theorem pC_id {S C : List Bool} (h : pS S = S) : pC S C = C := by
  cases S with
  | nil => rfl
  | cons b r =>
    cases b with
    | false => rfl
    | true =>
      have hl : ∀ l : List Bool, (pS l).length ≤ l.length := by
        intro l
        induction l with
        | nil => exact Nat.le_refl _
        | cons x y ih => cases x with
          | true => exact Nat.le_trans ih (Nat.le_succ _)
          | false => exact Nat.le_refl _
      have h1 := hl r
      have h2 : pS r = true :: r := h
      rw [h2] at h1
      simp only [List.length_cons] at h1
      omega
/-- a part: no such token -/
theorem part_1 {ta nu : Nat → Nat} {w b : Nat} (h : ¬ (ta b = 1 ∨ ta b = 2 ∨ ta b = 3)) : PartIs ta nu w b false 1 b := by
  intro S C _
  refine Rch.one ?_
  show mW ta nu b S C = _
  unfold mW
  rw [if_neg h]; rfl
/-- a part: too deep -/
theorem part_5 {ta nu : Nat → Nat} {b : Nat} (h : ta b = 1 ∨ ta b = 2 ∨ ta b = 3) : PartIs ta nu 5 b false 5 b := by
  intro S C hS
  refine Rch.one ?_
  show mW ta nu b S C = _
  unfold mW
  rw [if_pos h, if_pos hS]; rfl
/-- a part: a number or a fact -/
theorem part_v {ta nu : Nat → Nat} {w b : Nat} (hw : w < 5) (h : ta b = 1) : PartIs ta nu w b true 0 (nu b) := by
  intro S C hS
  refine Rch.one ?_
  show mW ta nu b S C = _
  unfold mW
  rw [if_pos (Or.inl h), if_neg (by omega), if_neg (by omega), if_neg (by omega)]; rfl
/-- a part: not, and a part within -/
theorem part_n {ta nu : Nat → Nat} {w b k b' : Nat} {ok : Bool} (hw : w < 5) (h : ta b = 2) (hp : PartIs ta nu (w + 1) (nu b) ok k b') : PartIs ta nu w b ok k b' := by
  intro S C hS
  have h1 : Rch ta nu (.inr (true, b, S, C)) (.inr (true, nu b, true :: S, false :: C)) := by
    refine Rch.one ?_
    show mW ta nu b S C = _
    unfold mW
    rw [if_pos (Or.inr (Or.inl h)), if_neg (by omega), if_pos h]
  exact h1.tr (hp (true :: S) (false :: C) (by simp; exact hS))
/-- a part: in brackets -/
theorem part_o0 {ta nu : Nat → Nat} {w b : Nat} (hw : w < 5) (h : ta b = 3) (S C : List Bool) (hS : S.length = w) : Rch ta nu (.inr (true, b, S, C)) (.inr (true, nu b, false :: S, false :: C)) := by
  refine Rch.one ?_
  show mW ta nu b S C = _
  unfold mW
  rw [if_pos (Or.inr (Or.inr h)), if_neg (by omega), if_neg (by omega), if_pos h]
theorem part_of {ta nu : Nat → Nat} {w b k b' : Nat} (hw : w < 5) (h : ta b = 3) (hp : OverIs ta nu 1 (w + 1) (nu b) false k b') : PartIs ta nu w b false k b' := by
  intro S C hS
  obtain ⟨c', h2, -, -⟩ := hp (false :: S) C false (by simp; exact hS) rfl ⟨fun _ => rfl, fun z => absurd z (by decide)⟩
  exact (part_o0 hw h S C hS).tr h2
theorem part_ot {ta nu : Nat → Nat} {w b b' : Nat} (hw : w < 5) (h : ta b = 3) (hp : OverIs ta nu 1 (w + 1) (nu b) true 0 b') (h4 : ta b' = 4) : PartIs ta nu w b true 0 (nu b') := by
  intro S C hS
  obtain ⟨c', h2, -, -⟩ := hp (false :: S) C false (by simp; exact hS) rfl ⟨fun _ => rfl, fun z => absurd z (by decide)⟩
  refine ((part_o0 hw h S C hS).tr h2).tr (Rch.one ?_)
  show mV ta nu b' (false :: S) (c' :: C) = _
  unfold mV
  rw [if_neg (by omega), if_neg (fun z => absurd z.1 (by omega)), if_neg (by omega), if_pos ⟨h4, by simp⟩]
  rfl
theorem part_on {ta nu : Nat → Nat} {w b b' : Nat} (hw : w < 5) (h : ta b = 3) (hp : OverIs ta nu 1 (w + 1) (nu b) true 0 b') (h4 : ¬ ta b' = 4) : PartIs ta nu w b false 1 b' := by
  intro S C hS
  obtain ⟨c', h2, -, h3⟩ := hp (false :: S) C false (by simp; exact hS) rfl ⟨fun _ => rfl, fun z => absurd z (by decide)⟩
  refine ((part_o0 hw h S C hS).tr h2).tr (Rch.one ?_)
  have h3 := h3 rfl
  show mV ta nu b' (false :: S) (c' :: C) = _
  have h89 : ¬ (ta b' = 8 ∨ ta b' = 9) := by
    intro z
    unfold bnd at h3
    rcases z with z | z <;> rw [z] at h3 <;> simp at h3
  have h6 : ¬ ta b' = 6 := by
    intro z
    unfold bnd at h3
    rw [z] at h3; simp at h3
  have h7 : ¬ (ta b' = 7 ∧ (c' :: C).headD false = false) := by
    intro z
    unfold bnd at h3
    rw [z.1] at h3
    have : c' = false := z.2
    rw [this] at h3
    simp at h3
  unfold mV
  rw [if_neg h89, if_neg h7, if_neg h6, if_neg (fun z => h4 z.1), if_neg (fun z => by simp at z)]
  rfl
theorem bnd_le {k : Nat} : bnd k ≤ 4 := by
  unfold bnd
  split
  · decide
  · split
    · decide
    · split
      · decide
      · split
        · decide
        · decide
/-- where the class's loop over operators stands -/
def OvL (ta nu : Nat → Nat) (t w b0 b most : Nat) : Prop := ∀ (S C : List Bool) (c : Bool), S.length = w → pS S = S → pre t c → ∃ cc : Bool, Rch ta nu (.inr (true, b0, S, c :: C)) (.inr (false, b, S, cc :: C)) ∧ (3 ≤ t → cc = c) ∧ (t ≤ 2 → 2 ≤ most → cc = false) ∧ (bnd (ta b) ≤ most ∨ (bnd (ta b) = 2 ∧ cc = true))
theorem ov_start {ta nu : Nat → Nat} {t w b0 b : Nat} (h : PartIs ta nu w b0 true 0 b) : OvL ta nu t w b0 b 4 := by
  intro S C c hS hp hc
  have h1 := h S (c :: C) hS
  rw [if_pos rfl, hp, pC_id hp] at h1
  exact ⟨c, h1, fun _ => rfl, fun z _ => hc.1 z, Or.inl bnd_le⟩
theorem ov_fail0 {ta nu : Nat → Nat} {t w b0 k b : Nat} (h : PartIs ta nu w b0 false k b) : OverIs ta nu t w b0 false k b := by
  intro S C c hS hp hc
  have h1 := h S (c :: C) hS
  rw [if_neg (by decide)] at h1
  exact ⟨c, by rw [if_neg (by decide)]; exact h1, fun _ => rfl, fun z => absurd z (by decide)⟩
theorem ov_stop {ta nu : Nat → Nat} {t w b0 b most : Nat} (h : OvL ta nu t w b0 b most) (hs : bnd (ta b) < t ∨ most < bnd (ta b)) : OverIs ta nu t w b0 true 0 b := by
  intro S C c hS hp hc
  obtain ⟨cc, h1, h2, h3, h4⟩ := h S C c hS hp hc
  refine ⟨cc, by rw [if_pos rfl]; exact h1, h2, fun _ => ?_⟩
  rcases hs with z | z
  · exact Or.inl z
  · rcases h4 with y | y
    · omega
    · exact Or.inr y
/-- one operator's step of the machine: what the comparison's mark is then -/
def cAf (k : Nat) (cc : Bool) : Bool := if k = 6 then false else if k = 7 then true else cc
theorem op_step {ta nu : Nat → Nat} {b : Nat} {S C : List Bool} {cc : Bool} (h : 1 ≤ bnd (ta b)) (h7 : bnd (ta b) = 2 → cc = false) : Rch ta nu (.inr (false, b, S, cc :: C)) (.inr (true, nu b, S, cAf (ta b) cc :: C)) := by
  refine Rch.one ?_
  show mV ta nu b S (cc :: C) = _
  unfold bnd at h h7
  unfold cAf mV
  by_cases e6 : ta b = 6
  · rw [if_neg (by omega), if_neg (fun z => absurd z.1 (by omega)), if_pos e6, if_pos e6]; rfl
  · rw [if_neg e6] at h h7
    by_cases e7 : ta b = 7
    · rw [if_pos e7] at h7
      have hc := h7 rfl
      rw [if_neg (by omega), if_pos ⟨e7, by rw [hc]; rfl⟩, if_neg e6, if_pos e7]; rfl
    · rw [if_neg e7] at h
      by_cases e8 : ta b = 8
      · rw [if_pos (Or.inl e8), if_neg e6, if_neg e7]
      · rw [if_neg e8] at h
        by_cases e9 : ta b = 9
        · rw [if_pos (Or.inr e9), if_neg e6, if_neg e7]
        · rw [if_neg e9] at h; omega
theorem cAf_pre {k : Nat} {cc : Bool} (h : 1 ≤ bnd k) : pre (bnd k + 1) (cAf k cc) := by
  unfold bnd at *
  unfold cAf pre
  by_cases e6 : k = 6
  · rw [if_pos e6, if_pos e6]; exact ⟨fun _ => rfl, fun z => absurd z (by decide)⟩
  · rw [if_neg e6] at h ⊢
    rw [if_neg e6]
    by_cases e7 : k = 7
    · rw [if_pos e7, if_pos e7]; exact ⟨fun z => absurd z (by decide), fun _ => rfl⟩
    · rw [if_neg e7] at h ⊢
      rw [if_neg e7]
      by_cases e8 : k = 8
      · rw [if_pos e8]; exact ⟨fun z => absurd z (by decide), fun z => absurd z (by decide)⟩
      · rw [if_neg e8] at h ⊢
        by_cases e9 : k = 9
        · rw [if_pos e9]; exact ⟨fun z => absurd z (by decide), fun z => absurd z (by decide)⟩
        · rw [if_neg e9] at h; omega
theorem cAf_3 {k : Nat} {cc : Bool} (h : 3 ≤ bnd k) : cAf k cc = cc := by
  unfold bnd at h
  unfold cAf
  by_cases e6 : k = 6
  · rw [if_pos e6] at h; omega
  · rw [if_neg e6] at h
    by_cases e7 : k = 7
    · rw [if_pos e7] at h; omega
    · rw [if_neg e6, if_neg e7]
theorem cAf_2 {k : Nat} {cc : Bool} (h : bnd k = 2) : cAf k cc = true := by
  unfold bnd at h
  unfold cAf
  by_cases e6 : k = 6
  · rw [if_pos e6] at h; omega
  · rw [if_neg e6] at h
    by_cases e7 : k = 7
    · rw [if_neg e6, if_pos e7]
    · rw [if_neg e7] at h
      split at h
      · omega
      · split at h <;> omega
theorem ov_next {ta nu : Nat → Nat} {t w b0 b most k b' : Nat} {ok : Bool} (ht : 1 ≤ t) (h : OvL ta nu t w b0 b most) (h1 : t ≤ bnd (ta b)) (h2 : bnd (ta b) ≤ most) (ho : OverIs ta nu (bnd (ta b) + 1) w (nu b) ok k b') : (ok = true → OvL ta nu t w b0 b' (if bnd (ta b) = 2 then 1 else bnd (ta b))) ∧ (ok = false → OverIs ta nu t w b0 false k b') := by
  have hb4 := bnd_le (k := ta b)
  constructor
  · intro hok S C c hS hp hc
    obtain ⟨cc, r1, g1, g2, g3⟩ := h S C c hS hp hc
    have r2 := op_step (nu := nu) (S := S) (C := C) (cc := cc) (b := b) (ta := ta) (by omega) (fun z => g2 (by omega) (by omega))
    obtain ⟨c', r3, k1, k2⟩ := ho S C (cAf (ta b) cc) hS hp (cAf_pre (by omega))
    rw [if_pos hok] at r3
    have k2 := k2 hok
    refine ⟨c', (r1.tr r2).tr r3, fun z => ?_, fun z y => ?_, ?_⟩
    · rw [k1 (by omega), cAf_3 (by omega)]; exact g1 z
    · by_cases e2 : bnd (ta b) = 2
      · rw [if_pos e2] at y; omega
      · rw [if_neg e2] at y
        rw [k1 (by omega), cAf_3 (by omega)]
        exact g2 z (by omega)
    · by_cases e2 : bnd (ta b) = 2
      · rw [if_pos e2]
        rw [e2] at k2
        have hc' : c' = true := by rw [k1 (by omega)]; exact cAf_2 e2
        by_cases z : bnd (ta b') = 2
        · exact Or.inr ⟨z, hc'⟩
        · rcases k2 with y | y
          · exact Or.inl (by omega)
          · exact absurd y.1 z
      · rw [if_neg e2]
        rcases k2 with y | y
        · exact Or.inl (by omega)
        · exact Or.inr y
  · intro hok S C c hS hp hc
    obtain ⟨cc, r1, g1, g2, g3⟩ := h S C c hS hp hc
    have r2 := op_step (nu := nu) (S := S) (C := C) (cc := cc) (b := b) (ta := ta) (by omega) (fun z => g2 (by omega) (by omega))
    obtain ⟨c', r3, k1, k2⟩ := ho S C (cAf (ta b) cc) hS hp (cAf_pre (by omega))
    rw [hok, if_neg (by decide)] at r3
    exact ⟨c, by rw [if_neg (by decide)]; exact (r1.tr r2).tr r3, fun _ => rfl, fun z => absurd z (by decide)⟩
/-- the whole law: what the machine says of it -/
theorem top_f {ta nu : Nat → Nat} {b0 k b : Nat} (h : OverIs ta nu 1 0 b0 false k b) : Rch ta nu (.inr (true, b0, [], [false])) (.inl (k, b)) := by
  obtain ⟨c', h1, -, -⟩ := h [] [] false rfl rfl ⟨fun _ => rfl, fun z => absurd z (by decide)⟩
  exact h1
theorem top_t {ta nu : Nat → Nat} {b0 b : Nat} (h : OverIs ta nu 1 0 b0 true 0 b) (h5 : ta b = 5) : Rch ta nu (.inr (true, b0, [], [false])) (.inl (0, nu b)) := by
  obtain ⟨c', h1, -, -⟩ := h [] [] false rfl rfl ⟨fun _ => rfl, fun z => absurd z (by decide)⟩
  refine h1.tr (Rch.one ?_)
  show mV ta nu b [] [c'] = _
  unfold mV
  rw [if_neg (by omega), if_neg (fun z => absurd z.1 (by omega)), if_neg (by omega), if_neg (fun z => absurd z.1 (by omega)), if_pos ⟨h5, rfl⟩]
theorem top_n {ta nu : Nat → Nat} {b0 b : Nat} (h : OverIs ta nu 1 0 b0 true 0 b) (h5 : ¬ ta b = 5) : Rch ta nu (.inr (true, b0, [], [false])) (.inl (1, b)) := by
  obtain ⟨c', h1, -, h3⟩ := h [] [] false rfl rfl ⟨fun _ => rfl, fun z => absurd z (by decide)⟩
  refine h1.tr (Rch.one ?_)
  have h3 := h3 rfl
  show mV ta nu b [] [c'] = _
  have h89 : ¬ (ta b = 8 ∨ ta b = 9) := by
    intro z
    unfold bnd at h3
    rcases z with z | z <;> rw [z] at h3 <;> simp at h3
  have h6 : ¬ ta b = 6 := by
    intro z
    unfold bnd at h3
    rw [z] at h3; simp at h3
  have h7 : ¬ (ta b = 7 ∧ [c'].headD false = false) := by
    intro z
    unfold bnd at h3
    rw [z.1] at h3
    have : c' = false := z.2
    rw [this] at h3
    simp at h3
  unfold mV
  rw [if_neg h89, if_neg h7, if_neg h6, if_neg (fun z => absurd rfl z.2), if_neg (fun z => h5 z.1)]
