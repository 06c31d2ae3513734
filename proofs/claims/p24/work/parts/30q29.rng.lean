/-! what is told is within its bounds: the class's reading -/
theorem bn9_all {A0 A1 A2 A3 A4 A5 A6 A7 A8 T : Type} {P : T → Prop} {p : A0 × A1 × A2 × A3 × A4 × A5 × A6 × A7 × A8} {F : A0 → A1 → A2 → A3 → A4 → A5 → A6 → A7 → A8 → T} (h : ∀ a0 a1 a2 a3 a4 a5 a6 a7 a8, P (F a0 a1 a2 a3 a4 a5 a6 a7 a8)) : P (bn9 p F) := h _ _ _ _ _ _ _ _ _
theorem bn13_all {A0 A1 A2 A3 A4 A5 A6 A7 A8 A9 A10 A11 A12 T : Type} {P : T → Prop} {p : A0 × A1 × A2 × A3 × A4 × A5 × A6 × A7 × A8 × A9 × A10 × A11 × A12} {F : A0 → A1 → A2 → A3 → A4 → A5 → A6 → A7 → A8 → A9 → A10 → A11 → A12 → T} (h : ∀ a0 a1 a2 a3 a4 a5 a6 a7 a8 a9 a10 a11 a12, P (F a0 a1 a2 a3 a4 a5 a6 a7 a8 a9 a10 a11 a12)) : P (bn13 p F) := h _ _ _ _ _ _ _ _ _ _ _ _ _
theorem bn7_p {A0 A1 A2 A3 A4 A5 A6 T : Type} {P : T → Prop} {Q : A0 × A1 × A2 × A3 × A4 × A5 × A6 → Prop} {p : A0 × A1 × A2 × A3 × A4 × A5 × A6} {F : A0 → A1 → A2 → A3 → A4 → A5 → A6 → T} (hq : Q p) (h : ∀ a0 a1 a2 a3 a4 a5 a6, Q (a0, a1, a2, a3, a4, a5, a6) → P (F a0 a1 a2 a3 a4 a5 a6)) : P (bn7 p F) := h _ _ _ _ _ _ _ hq
theorem bn9_p {A0 A1 A2 A3 A4 A5 A6 A7 A8 T : Type} {P : T → Prop} {Q : A0 × A1 × A2 × A3 × A4 × A5 × A6 × A7 × A8 → Prop} {p : A0 × A1 × A2 × A3 × A4 × A5 × A6 × A7 × A8} {F : A0 → A1 → A2 → A3 → A4 → A5 → A6 → A7 → A8 → T} (hq : Q p) (h : ∀ a0 a1 a2 a3 a4 a5 a6 a7 a8, Q (a0, a1, a2, a3, a4, a5, a6, a7, a8) → P (F a0 a1 a2 a3 a4 a5 a6 a7 a8)) : P (bn9 p F) := h _ _ _ _ _ _ _ _ _ hq
theorem bn13_p {A0 A1 A2 A3 A4 A5 A6 A7 A8 A9 A10 A11 A12 T : Type} {P : T → Prop} {Q : A0 × A1 × A2 × A3 × A4 × A5 × A6 × A7 × A8 × A9 × A10 × A11 × A12 → Prop} {p : A0 × A1 × A2 × A3 × A4 × A5 × A6 × A7 × A8 × A9 × A10 × A11 × A12} {F : A0 → A1 → A2 → A3 → A4 → A5 → A6 → A7 → A8 → A9 → A10 → A11 → A12 → T} (hq : Q p) (h : ∀ a0 a1 a2 a3 a4 a5 a6 a7 a8 a9 a10 a11 a12, Q (a0, a1, a2, a3, a4, a5, a6, a7, a8, a9, a10, a11, a12) → P (F a0 a1 a2 a3 a4 a5 a6 a7 a8 a9 a10 a11 a12)) : P (bn13 p F) := h _ _ _ _ _ _ _ _ _ _ _ _ _ hq
def RG (g : Nat) (be : Int32) (ya pa : Nat → Int32) : Prop := (∀ q, q < g → 1 ≤ Int32.toInt (ya q) ∧ Int32.toInt (ya q) ≤ 300 ∧ 1 ≤ Int32.toInt (pa q) ∧ Int32.toInt (pa q) ≤ 30) ∧ 1 ≤ Int32.toInt be ∧ Int32.toInt be ≤ 50
def RM7 (lo hi : Int32) (X : Nat × Int32 × Int32 × Int32 × Int64 × Int32 × Int32) : Prop := X.2.2.2.2.2.2 = -1 ∨ (Int32.toInt lo ≤ Int32.toInt X.2.2.2.2.2.2 ∧ Int32.toInt X.2.2.2.2.2.2 ≤ Int32.toInt hi)
theorem ckn_ {lo hi pl kd vl fa : Int32} : (fX6_checkNumber lo hi pl kd vl fa).2 = true → Int32.toInt lo ≤ Int32.toInt vl ∧ Int32.toInt vl ≤ Int32.toInt hi := by
  unfold fX6_checkNumber fX6_checkNumber_J34a fX6_checkNumber_J39a fX6_wrong
  by_cases k2 : kd = 2
  · rw [if_pos k2, bn1_, wi_]
    by_cases w : fX9_within vl lo hi = true
    · intro _; exact wi_t.mp w
    · rw [if_neg w, bn2_, if_neg (by decide)]
      intro z; exact Bool.noConfusion z
  · rw [if_neg k2, bn2_]
    intro z; exact Bool.noConfusion z
theorem tkn_ {lo hi pl kd vl fa : Int32} {lt : Int64} {n nx : Nat} {s f : Nat → Int32} {w : Nat → Int64} : RM7 lo hi (fX6_takeNumber lo hi n nx pl kd vl lt fa s w f) := by
  have hc := ckn_ (lo := lo) (hi := hi) (pl := pl) (kd := kd) (vl := vl) (fa := fa)
  unfold fX6_takeNumber
  generalize fX6_checkNumber lo hi pl kd vl fa = X at hc ⊢
  obtain ⟨a, b⟩ := X
  rw [bn2_]
  cases b with
  | true =>
    rw [if_pos rfl]
    generalize fX6_advance n nx lt s w f = Y
    obtain ⟨y1, y2, y3, y4, y5⟩ := Y
    rw [bn5_]
    exact Or.inr (hc rfl)
  | false =>
    rw [if_neg (by decide)]
    exact Or.inl rfl
theorem rdm_ {x lo hi pl kd vl fa : Int32} {lt : Int64} {n nx : Nat} {s f : Nat → Int32} {w : Nat → Int64} : RM7 lo hi (fX7_readMeasure x lo hi n nx pl kd vl lt fa s w f) := by
  unfold fX7_readMeasure fX7_readMeasure_J18a
  refine bn7_all (P := RM7 lo hi) (fun a0 a1 a2 a3 a4 a5 ub => ?_)
  by_cases u : ub = true
  · rw [if_pos u]
    exact bn7_p (P := RM7 lo hi) (Q := RM7 lo hi) tkn_ (fun _ _ _ _ _ _ _ h => h)
  · rw [if_neg u]; exact Or.inl rfl
def PG (be : Int32) (X : Nat × (Nat → Int64) × (Nat → Int32) × (Nat → Int32) × (Nat → Int32) × (Nat → Int32) × Nat × Int32 × Int32 × Int32 × Int64 × Int32 × Bool) : Prop := X.2.2.2.2.2.2.2.2.2.2.2.2 = true → RG X.1 be X.2.2.2.1 X.2.2.2.2.1
theorem rgG {g : Nat} {na : Nat → Int64} {ki ya pa sk : Nat → Int32} {be pl kd vl fa : Int32} {lt : Int64} {n nx : Nat} {s f : Nat → Int32} {w : Nat → Int64} (h : RG g be ya pa) : PG be (fX7_readGuest g na ki ya pa sk n nx pl kd vl lt fa s w f) := by
  unfold fX7_readGuest fX7_readGuest_J89a fX7_readGuest_J201a
  by_cases h6 : g < 6
  · rw [if_pos h6, nI_clamp (n := g) (by omega)]
    refine bn5_all (P := PG be) (fun _ _ _ _ a5 => ?_)
    refine bn1_all (P := PG be) (fun u3 => ?_)
    by_cases c3 : u3 = true
    · rw [if_pos c3]
      refine bn1_all (P := PG be) (fun r5 => ?_)
      by_cases c5 : r5 = -1
      · rw [if_pos c5]
        refine bn5_all (P := PG be) (fun _ _ _ _ _ => ?_)
        refine bn1_all (P := PG be) (fun r8 => ?_)
        by_cases c8 : r8 < 12
        · rw [if_pos c8]; exact bn2_all (P := PG be) (fun _ _ _ => h)
        · rw [if_neg c8]
          by_cases d8 : r8 ≤ 15
          · rw [if_pos d8]
            refine bn5_all (P := PG be) (fun _ _ _ _ _ => ?_)
            refine bn7_p (P := PG be) (Q := RM7 1 300) rdm_ (fun _ _ _ _ _ _ r14 h14 => ?_)
            by_cases c14 : upd ya g r14 g = -1
            · rw [if_pos c14]; exact fun z => Bool.noConfusion z
            · rw [if_neg c14]
              refine bn7_p (P := PG be) (Q := RM7 1 30) rdm_ (fun _ _ _ _ _ _ r16 h16 => ?_)
              by_cases c16 : upd pa g r16 g = -1
              · rw [if_pos c16]; exact fun z => Bool.noConfusion z
              · rw [if_neg c16]
                refine bn7_all (P := PG be) (fun _ _ _ _ _ _ r18 => ?_)
                by_cases c18 : upd sk g r18 g = -1
                · rw [if_pos c18]; exact fun z => Bool.noConfusion z
                · rw [if_neg c18]
                  intro _
                  show RG (g + 1) be (upd ya g r14) (upd pa g r16)
                  refine ⟨fun q hq => ?_, h.2⟩
                  by_cases e : q = g
                  · have a := h14.resolve_left (fun z => c14 (upd_e.trans z))
                    have b := h16.resolve_left (fun z => c16 (upd_e.trans z))
                    rw [show Int32.toInt 1 = 1 by decide, show Int32.toInt 300 = 300 by decide] at a
                    rw [show Int32.toInt 1 = 1 by decide, show Int32.toInt 30 = 30 by decide] at b
                    rw [e, upd_e, upd_e]
                    exact ⟨a.1, a.2, b.1, b.2⟩
                  · rw [upd_n e, upd_n e]; exact h.1 q (by omega)
          · rw [if_neg d8]; exact bn2_all (P := PG be) (fun _ _ _ => h)
      · rw [if_neg c5]; exact bn2_all (P := PG be) (fun _ _ _ => h)
    · rw [if_neg c3]; exact bn2_all (P := PG be) (fun _ _ _ => h)
  · rw [if_neg h6]; exact bn2_all (P := PG be) (fun _ _ _ => h)
def PBd (X : Int32 × Bool × Nat × Int32 × Int32 × Int32 × Int64 × Int32 × Bool) : Prop := X.2.2.2.2.2.2.2.2 = true → 1 ≤ Int32.toInt X.1 ∧ Int32.toInt X.1 ≤ 50
theorem rgB {be pl kd vl fa : Int32} {bT : Bool} {lt : Int64} {n nx : Nat} {s f : Nat → Int32} {w : Nat → Int64} (h : 1 ≤ Int32.toInt be ∧ Int32.toInt be ≤ 50) : PBd (fX7_readBend be bT n nx pl kd vl lt fa s w f) := by
  unfold fX7_readBend fX7_readBend_J43a
  by_cases b : bT = true
  · rw [if_pos b]; exact bn2_all (P := PBd) (fun _ _ _ => h)
  · rw [if_neg b]
    refine bn7_p (P := PBd) (Q := RM7 1 50) rdm_ (fun _ _ _ _ _ _ r hr => ?_)
    by_cases e : r = -1
    · rw [if_pos e]; exact fun z => Bool.noConfusion z
    · rw [if_neg e]
      intro _
      have a := hr.resolve_left e
      rw [show Int32.toInt 1 = 1 by decide, show Int32.toInt 50 = 50 by decide] at a
      exact a
def PR (X : Nat × Nat × Int32 × Int32 × Bool × Bool × (Nat → Int64) × (Nat → Int32) × (Nat → Int32) × (Nat → Int32) × (Nat → Int32) × (Nat → Int32) × Nat × (Nat → Int32) × Nat × Int32 × Int32 × Int32 × Int64 × Int32 × Bool) : Prop := X.2.2.2.2.2.2.2.2.2.2.2.2.2.2.2.2.2.2.2.2 = true → RG X.1 X.2.2.1 X.2.2.2.2.2.2.2.2.1 X.2.2.2.2.2.2.2.2.2.1
theorem rgJ {n : Nat} {s f : Nat → Int32} {w : Nat → Int64} (rc : Bool → Nat → (Nat → Int64) → (Nat → Int32) → (Nat → Int32) → (Nat → Int32) → (Nat → Int32) → (Nat → Int32) → (Nat → Int32) → Nat → Int32 → Int32 → Int32 → Int64 → Int32 → Nat → Nat → Int32 → Int32 → Bool → Bool → Nat → Nat × Nat × Int32 × Int32 × Bool × Bool × (Nat → Int64) × (Nat → Int32) × (Nat → Int32) × (Nat → Int32) × (Nat → Int32) × (Nat → Int32) × Nat × (Nat → Int32) × Nat × Int32 × Int32 × Int32 × Int64 × Int32 × Bool) (hrc : ∀ ok i na ki ya pa sk sn lc nx pl kd vl lt fa g sw be ho bT hT ll, (ok = true → RG g be ya pa) → PR (rc ok i na ki ya pa sk sn lc nx pl kd vl lt fa g sw be ho bT hT ll)) {ok1 : Bool} {i : Nat} {na : Nat → Int64} {ki ya pa sk sn lc : Nat → Int32} {nx : Nat} {pl kd vl : Int32} {lt : Int64} {fa : Int32} {g sw : Nat} {be ho : Int32} {bT hT : Bool} {ll : Nat} (h : ok1 = true → RG g be ya pa) : PR (fX7_read_J151a n s w f i rc ok1 na ki ya pa sk sn lc g sw be ho bT hT ll nx pl kd vl lt fa) := by
  unfold fX7_read_J151a fX7_read_J168a fX7_read_J169a
  by_cases o : ok1 = true
  · rw [if_pos o]
    refine bn7_all (P := PR) (fun _ _ _ _ _ _ ub => ?_)
    by_cases u : ub = true
    · rw [if_pos u]; exact hrc _ _ _ _ _ _ _ _ _ _ _ _ _ _ _ _ _ _ _ _ _ _ (fun _ => h o)
    · rw [if_neg u]; exact hrc _ _ _ _ _ _ _ _ _ _ _ _ _ _ _ _ _ _ _ _ _ _ (fun z => Bool.noConfusion z)
  · rw [if_neg o]; exact hrc _ _ _ _ _ _ _ _ _ _ _ _ _ _ _ _ _ _ _ _ _ _ (fun z => Bool.noConfusion z)
set_option maxHeartbeats 4000000 in
theorem rg_lp {n : Nat} {s f : Nat → Int32} {w : Nat → Int64} {z : Bool → Nat → (Nat → Int64) → (Nat → Int32) → (Nat → Int32) → (Nat → Int32) → (Nat → Int32) → (Nat → Int32) → (Nat → Int32) → Nat → Int32 → Int32 → Int32 → Int64 → Int32 → Nat → Nat → Int32 → Int32 → Bool → Bool → Nat → Nat × Nat × Int32 × Int32 × Bool × Bool × (Nat → Int64) × (Nat → Int32) × (Nat → Int32) × (Nat → Int32) × (Nat → Int32) × (Nat → Int32) × Nat × (Nat → Int32) × Nat × Int32 × Int32 × Int32 × Int64 × Int32 × Bool} (hz : ∀ ok i na ki ya pa sk sn lc nx pl kd vl lt fa g sw be ho bT hT ll, PR (z ok i na ki ya pa sk sn lc nx pl kd vl lt fa g sw be ho bT hT ll)) : ∀ k ok i na ki ya pa sk sn lc nx pl kd vl lt fa g sw be ho bT hT ll, (ok = true → RG g be ya pa) → PR (lp z (fX7_read_B8a n s w f) k ok i na ki ya pa sk sn lc nx pl kd vl lt fa g sw be ho bT hT ll) := by
  intro k
  induction k with
  | zero => intro ok i na ki ya pa sk sn lc nx pl kd vl lt fa g sw be ho bT hT ll _; exact hz _ _ _ _ _ _ _ _ _ _ _ _ _ _ _ _ _ _ _ _ _ _
  | succ k ih =>
    intro ok i na ki ya pa sk sn lc nx pl kd vl lt fa g sw be ho bT hT ll h
    show PR (fX7_read_B8a n s w f (lp z (fX7_read_B8a n s w f) k) ok i na ki ya pa sk sn lc nx pl kd vl lt fa g sw be ho bT hT ll)
    generalize lp z (fX7_read_B8a n s w f) k = rc at ih ⊢
    unfold fX7_read_B8a fX7_read_J176a fX7_read_J140a fX7_read_J141a
    by_cases c : 1000 ≤ i
    · rw [if_pos c]; exact h
    rw [if_neg c]
    by_cases o : ok = true
    · rw [if_pos o]
      have hr := h o
      refine bn1_all (P := PR) (fun u6 => ?_)
      by_cases c6 : u6 = true
      · rw [if_pos c6]; exact h
      rw [if_neg c6]
      refine bn1_all (P := PR) (fun r8 => ?_)
      by_cases q0 : r8 = 0
      · rw [if_pos q0]
        exact bn13_p (P := PR) (Q := PG be) (rgG hr) (fun _ _ _ _ _ _ _ _ _ _ _ _ _ hq => rgJ rc ih hq)
      rw [if_neg q0]
      by_cases q1 : r8 = 1
      · rw [if_pos q1]; exact bn2_all (P := PR) (fun _ _ => rgJ rc ih (fun _ => hr))
      rw [if_neg q1]
      by_cases q2 : r8 = 2
      · rw [if_pos q2]; exact bn2_all (P := PR) (fun _ _ => rgJ rc ih (fun _ => hr))
      rw [if_neg q2]
      by_cases q3 : r8 = 3
      · rw [if_pos q3]; exact bn2_all (P := PR) (fun _ _ => rgJ rc ih (fun _ => hr))
      rw [if_neg q3]
      by_cases q4 : r8 = 4
      · rw [if_pos q4]
        exact bn9_p (P := PR) (Q := PBd) (rgB hr.2) (fun _ _ _ _ _ _ _ _ _ hq => rgJ rc ih (fun z => ⟨hr.1, hq z⟩))
      rw [if_neg q4]
      by_cases q5 : r8 = 5
      · rw [if_pos q5]; exact bn9_all (P := PR) (fun _ _ _ _ _ _ _ _ _ => rgJ rc ih (fun _ => hr))
      rw [if_neg q5]
      by_cases q6 : r8 = 6
      · rw [if_pos q6]; exact bn9_all (P := PR) (fun _ _ _ _ _ _ _ _ _ => rgJ rc ih (fun _ => hr))
      rw [if_neg q6]
      by_cases q7 : r8 = 7
      · rw [if_pos q7]
        refine bn7_all (P := PR) (fun _ _ _ _ _ _ ub => ?_)
        by_cases c7 : ub = true
        · rw [if_pos c7]
          refine bn9_all (P := PR) (fun _ _ _ _ _ _ _ _ uc => ?_)
          by_cases d7 : uc = true
          · rw [if_pos d7]; exact rgJ rc ih (fun _ => hr)
          · rw [if_neg d7]; exact rgJ rc ih (fun _ => hr)
        · rw [if_neg c7]; exact rgJ rc ih (fun _ => hr)
      rw [if_neg q7]
      exact bn2_all (P := PR) (fun _ _ => rgJ rc ih (fun _ => hr))
    · rw [if_neg o]; exact h
theorem rg_read {na : Nat → Int64} {ki ya pa sk sn lc : Nat → Int32} {nx : Nat} {pl kd vl : Int32} {lt : Int64} {fa : Int32} {n : Nat} {s f : Nat → Int32} {w : Nat → Int64} : PR (fX7_read na ki ya pa sk sn lc n nx pl kd vl lt fa s w f) := by
  unfold fX7_read fX7_clear
  rw [bn1_, bn7_]
  exact rg_lp (fun _ _ _ _ _ _ _ _ _ _ _ _ _ _ _ _ _ _ _ _ _ _ => (fun z => Bool.noConfusion z)) _ _ _ _ _ _ _ _ _ _ _ _ _ _ _ _ _ _ _ _ _ _ _ (fun _ => ⟨fun q hq => absurd hq (Nat.not_lt_zero _), by decide, by decide⟩)
