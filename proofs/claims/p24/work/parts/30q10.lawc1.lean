/-! what the class sees of a token, by kinds -/
theorem c_num {s : Nat → Int32} {n b nx : Nat} {pl kd vl : Int32} {lt : Int64} (h : CT s n b nx pl kd vl lt) : fX6_isNumber kd = decide (tK s n b = 2) := by
  have e : (kd = 2) ↔ tK s n b = 2 := by rw [h.2.2.2.1]; exact nIk (j := 2) (Nat.le_trans tK_4 (by decide)) (by decide)
  unfold fX6_isNumber fX6_isNumber_J13a
  by_cases q : tK s n b = 2
  · rw [if_pos (e.mpr q), decide_eq_true q]
  · rw [if_neg (fun y => q (e.mp y)), decide_eq_false q]
theorem c_word {s : Nat → Int32} {n b nx : Nat} {pl kd vl : Int32} {lt : Int64} (h : CT s n b nx pl kd vl lt) {j : Nat} (hj : j < 23) : fX6_isWord (nI j) kd vl = true ↔ tK s n b = 1 ∧ wo_ s n b = wd j := by
  have e : (kd = 1) ↔ tK s n b = 1 := by rw [h.2.2.2.1]; exact nIk (j := 1) (Nat.le_trans tK_4 (by decide)) (by decide)
  unfold fX6_isWord fX6_isWord_J20a fX6_isWord_J21a
  by_cases q : tK s n b = 1
  · rw [if_pos (e.mpr q)]
    have a := WV_eq (h.2.2.2.2.1 q).2 hj
    by_cases y : vl = nI j
    · rw [if_pos y]; exact ⟨fun _ => ⟨q, a.mp y⟩, fun _ => rfl⟩
    · rw [if_neg y]; exact ⟨fun z => Bool.noConfusion z, fun z => absurd (a.mpr z.2) y⟩
  · rw [if_neg (fun y => q (e.mp y))]
    exact ⟨fun z => Bool.noConfusion z, fun z => absurd z.1 q⟩
theorem c_sign {s : Nat → Int32} {n b nx : Nat} {pl kd vl : Int32} {lt : Int64} (h : CT s n b nx pl kd vl lt) {c : Int32} : fX6_isSign c kd vl = true ↔ tK s n b = 3 ∧ s b = c := by
  have e : (kd = 3) ↔ tK s n b = 3 := by rw [h.2.2.2.1]; exact nIk (j := 3) (Nat.le_trans tK_4 (by decide)) (by decide)
  unfold fX6_isSign fX6_isSign_J20a fX6_isSign_J21a
  by_cases q : tK s n b = 3
  · rw [if_pos (e.mpr q), h.2.2.2.2.2.2 q]
    by_cases y : s b = c
    · rw [if_pos y]; exact ⟨fun _ => ⟨q, y⟩, fun _ => rfl⟩
    · rw [if_neg y]; exact ⟨fun z => Bool.noConfusion z, fun z => absurd z.2 y⟩
  · rw [if_neg (fun y => q (e.mp y))]
    exact ⟨fun z => Bool.noConfusion z, fun z => absurd z.1 q⟩
theorem c_fact {s : Nat → Int32} {n b nx : Nat} {pl kd vl : Int32} {lt : Int64} (h : CT s n b nx pl kd vl lt) : (¬ fX6_wordHere kd vl < 19) ↔ tK s n b = 1 ∧ ∃ j, 19 ≤ j ∧ j < 23 ∧ wo_ s n b = wd j := by
  have e : (kd = 1) ↔ tK s n b = 1 := by rw [h.2.2.2.1]; exact nIk (j := 1) (Nat.le_trans tK_4 (by decide)) (by decide)
  have e19 : Int32.toInt 19 = 19 := by decide
  unfold fX6_wordHere fX6_wordHere_J16a
  by_cases q : tK s n b = 1
  · rw [if_pos (e.mpr q)]
    rcases (h.2.2.2.2.1 q).2 with ⟨j, hj, q1, q2⟩ | ⟨q1, q2⟩
    · rw [q2, Int32.lt_iff_toInt_lt, e19, nI_toInt (by omega)]
      constructor
      · intro y; exact ⟨q, j, by omega, hj, q1⟩
      · rintro ⟨-, i, i1, i2, i3⟩
        have := wd_inj i i2 j hj (i3.symm.trans q1)
        omega
    · rw [q2]
      exact ⟨fun y => absurd (by decide) y, fun ⟨_, i, _, i2, i3⟩ => absurd i3 (q1 i i2)⟩
  · rw [if_neg (fun y => q (e.mp y))]
    exact ⟨fun y => absurd (by decide) y, fun y => absurd y.1 q⟩
theorem kt_n {s : Nat → Int32} {n b : Nat} (h : tK s n b = 2) : kt s n b = 1 := by unfold kt; rw [if_pos h]
theorem kt_w {s : Nat → Int32} {n b : Nat} (h : tK s n b = 1) : kt s n b = kW (wo_ s n b) := by unfold kt; rw [if_neg (by omega), if_pos h]; rfl
theorem kt_s {s : Nat → Int32} {n b : Nat} (h : tK s n b = 3) : kt s n b = kS (s b) := by unfold kt; rw [if_neg (by omega), if_neg (by omega), if_pos h]
theorem kt_0 {s : Nat → Int32} {n b : Nat} (h : ¬ tK s n b = 1 ∧ ¬ tK s n b = 2 ∧ ¬ tK s n b = 3) : kt s n b = 0 := by unfold kt; rw [if_neg h.2.1, if_neg h.1, if_neg h.2.2]
theorem kW_f : ∀ j, j < 23 → kW (wd j) = (if 19 ≤ j then 1 else if j = 16 then 2 else if j = 17 ∨ j = 18 then 6 else 0) := by decide
theorem kW_c (l : List Int) : kW l = 0 ∨ kW l = 1 ∨ kW l = 2 ∨ kW l = 6 := by
  unfold kW
  repeat' split
  all_goals omega
theorem kS_c (c : Int32) : kS c = 0 ∨ kS c = 3 ∨ kS c = 4 ∨ kS c = 5 ∨ kS c = 7 ∨ kS c = 8 ∨ kS c = 9 := by
  unfold kS
  repeat' split
  all_goals omega
theorem kW_1 {l : List Int} : kW l = 1 ↔ ∃ j, 19 ≤ j ∧ j < 23 ∧ l = wd j := by
  constructor
  · intro h
    unfold kW at h
    by_cases q : l = wd 19 ∨ l = wd 20 ∨ l = wd 21 ∨ l = wd 22
    · rcases q with q | q | q | q
      · exact ⟨19, by decide, by decide, q⟩
      · exact ⟨20, by decide, by decide, q⟩
      · exact ⟨21, by decide, by decide, q⟩
      · exact ⟨22, by decide, by decide, q⟩
    · rw [if_neg q] at h
      exfalso
      split at h
      · omega
      · split at h <;> omega
  · rintro ⟨j, h1, h2, e⟩
    rw [e, kW_f j h2, if_pos h1]
theorem kW_2 {l : List Int} : kW l = 2 ↔ l = wd 16 := by
  constructor
  · intro h
    unfold kW at h
    split at h
    · omega
    · split at h
      · assumption
      · split at h <;> omega
  · intro e; rw [e]; decide
theorem kW_6 {l : List Int} : kW l = 6 ↔ l = wd 17 ∨ l = wd 18 := by
  constructor
  · intro h
    unfold kW at h
    split at h
    · omega
    · split at h
      · omega
      · split at h
        · assumption
        · omega
  · intro e
    rcases e with e | e
    · rw [e]; decide
    · rw [e]; decide
theorem kS_3 {c : Int32} : kS c = 3 ↔ c = 40 := by
  have hh : ∀ x : Int32, c = x ↔ Int32.toInt c = Int32.toInt x := fun x => Int32.toInt_inj.symm
  rw [hh 40, show Int32.toInt 40 = 40 by decide]
  unfold kS
  constructor
  · intro h
    repeat' split at h
    all_goals omega
  · intro h
    repeat' split
    all_goals omega
theorem kS_4 {c : Int32} : kS c = 4 ↔ c = 41 := by
  have hh : ∀ x : Int32, c = x ↔ Int32.toInt c = Int32.toInt x := fun x => Int32.toInt_inj.symm
  rw [hh 41, show Int32.toInt 41 = 41 by decide]
  unfold kS
  constructor
  · intro h
    repeat' split at h
    all_goals omega
  · intro h
    repeat' split
    all_goals omega
theorem kS_5 {c : Int32} : kS c = 5 ↔ c = 59 := by
  have hh : ∀ x : Int32, c = x ↔ Int32.toInt c = Int32.toInt x := fun x => Int32.toInt_inj.symm
  rw [hh 59, show Int32.toInt 59 = 59 by decide]
  unfold kS
  constructor
  · intro h
    repeat' split at h
    all_goals omega
  · intro h
    repeat' split
    all_goals omega
theorem kS_7 {c : Int32} : kS c = 7 ↔ c = 60 ∨ c = 61 := by
  have hh : ∀ x : Int32, c = x ↔ Int32.toInt c = Int32.toInt x := fun x => Int32.toInt_inj.symm
  rw [hh 60, hh 61, show Int32.toInt 60 = 60 by decide, show Int32.toInt 61 = 61 by decide]
  unfold kS
  constructor
  · intro h
    repeat' split at h
    all_goals omega
  · intro h
    repeat' split
    all_goals omega
theorem kS_8 {c : Int32} : kS c = 8 ↔ c = 43 ∨ c = 45 := by
  have hh : ∀ x : Int32, c = x ↔ Int32.toInt c = Int32.toInt x := fun x => Int32.toInt_inj.symm
  rw [hh 43, hh 45, show Int32.toInt 43 = 43 by decide, show Int32.toInt 45 = 45 by decide]
  unfold kS
  constructor
  · intro h
    repeat' split at h
    all_goals omega
  · intro h
    repeat' split
    all_goals omega
theorem kS_9 {c : Int32} : kS c = 9 ↔ c = 42 := by
  have hh : ∀ x : Int32, c = x ↔ Int32.toInt c = Int32.toInt x := fun x => Int32.toInt_inj.symm
  rw [hh 42, show Int32.toInt 42 = 42 by decide]
  unfold kS
  constructor
  · intro h
    repeat' split at h
    all_goals omega
  · intro h
    repeat' split
    all_goals omega
theorem k_1 {s : Nat → Int32} {n b : Nat} : kt s n b = 1 ↔ tK s n b = 2 ∨ (tK s n b = 1 ∧ ∃ j, 19 ≤ j ∧ j < 23 ∧ wo_ s n b = wd j) := by
  by_cases q2 : tK s n b = 2
  · rw [kt_n q2]; exact ⟨fun _ => Or.inl q2, fun _ => rfl⟩
  · by_cases q1 : tK s n b = 1
    · rw [kt_w q1, kW_1]; exact ⟨fun z => Or.inr ⟨q1, z⟩, fun z => (z.resolve_left q2).2⟩
    · by_cases q3 : tK s n b = 3
      · rw [kt_s q3]
        have := kS_c (s b)
        exact ⟨fun z => by omega, fun z => by rcases z with z | z; exact absurd z q2; exact absurd z.1 q1⟩
      · rw [kt_0 ⟨q1, q2, q3⟩]
        exact ⟨fun z => absurd z (by decide), fun z => by rcases z with z | z; exact absurd z q2; exact absurd z.1 q1⟩
theorem k_2 {s : Nat → Int32} {n b : Nat} : kt s n b = 2 ↔ tK s n b = 1 ∧ wo_ s n b = wd 16 := by
  by_cases q2 : tK s n b = 2
  · rw [kt_n q2]; exact ⟨fun z => absurd z (by decide), fun z => absurd z.1 (by omega)⟩
  · by_cases q1 : tK s n b = 1
    · rw [kt_w q1, kW_2]; exact ⟨fun z => ⟨q1, z⟩, fun z => z.2⟩
    · by_cases q3 : tK s n b = 3
      · rw [kt_s q3]
        have := kS_c (s b)
        exact ⟨fun z => by omega, fun z => absurd z.1 q1⟩
      · rw [kt_0 ⟨q1, q2, q3⟩]
        exact ⟨fun z => absurd z (by decide), fun z => absurd z.1 q1⟩
theorem k_6 {s : Nat → Int32} {n b : Nat} : kt s n b = 6 ↔ tK s n b = 1 ∧ (wo_ s n b = wd 17 ∨ wo_ s n b = wd 18) := by
  by_cases q2 : tK s n b = 2
  · rw [kt_n q2]; exact ⟨fun z => absurd z (by decide), fun z => absurd z.1 (by omega)⟩
  · by_cases q1 : tK s n b = 1
    · rw [kt_w q1, kW_6]; exact ⟨fun z => ⟨q1, z⟩, fun z => z.2⟩
    · by_cases q3 : tK s n b = 3
      · rw [kt_s q3]
        have := kS_c (s b)
        exact ⟨fun z => by omega, fun z => absurd z.1 q1⟩
      · rw [kt_0 ⟨q1, q2, q3⟩]
        exact ⟨fun z => absurd z (by decide), fun z => absurd z.1 q1⟩
theorem k_3 {s : Nat → Int32} {n b : Nat} : kt s n b = 3 ↔ tK s n b = 3 ∧ s b = 40 := by
  by_cases q2 : tK s n b = 2
  · rw [kt_n q2]; exact ⟨fun z => absurd z (by decide), fun z => absurd z.1 (by omega)⟩
  · by_cases q3 : tK s n b = 3
    · rw [kt_s q3, kS_3]; exact ⟨fun z => ⟨q3, z⟩, fun z => z.2⟩
    · by_cases q1 : tK s n b = 1
      · rw [kt_w q1]
        have := kW_c (wo_ s n b)
        exact ⟨fun z => by omega, fun z => absurd z.1 q3⟩
      · rw [kt_0 ⟨q1, q2, q3⟩]
        exact ⟨fun z => absurd z (by decide), fun z => absurd z.1 q3⟩
theorem k_4 {s : Nat → Int32} {n b : Nat} : kt s n b = 4 ↔ tK s n b = 3 ∧ s b = 41 := by
  by_cases q2 : tK s n b = 2
  · rw [kt_n q2]; exact ⟨fun z => absurd z (by decide), fun z => absurd z.1 (by omega)⟩
  · by_cases q3 : tK s n b = 3
    · rw [kt_s q3, kS_4]; exact ⟨fun z => ⟨q3, z⟩, fun z => z.2⟩
    · by_cases q1 : tK s n b = 1
      · rw [kt_w q1]
        have := kW_c (wo_ s n b)
        exact ⟨fun z => by omega, fun z => absurd z.1 q3⟩
      · rw [kt_0 ⟨q1, q2, q3⟩]
        exact ⟨fun z => absurd z (by decide), fun z => absurd z.1 q3⟩
theorem k_5 {s : Nat → Int32} {n b : Nat} : kt s n b = 5 ↔ tK s n b = 3 ∧ s b = 59 := by
  by_cases q2 : tK s n b = 2
  · rw [kt_n q2]; exact ⟨fun z => absurd z (by decide), fun z => absurd z.1 (by omega)⟩
  · by_cases q3 : tK s n b = 3
    · rw [kt_s q3, kS_5]; exact ⟨fun z => ⟨q3, z⟩, fun z => z.2⟩
    · by_cases q1 : tK s n b = 1
      · rw [kt_w q1]
        have := kW_c (wo_ s n b)
        exact ⟨fun z => by omega, fun z => absurd z.1 q3⟩
      · rw [kt_0 ⟨q1, q2, q3⟩]
        exact ⟨fun z => absurd z (by decide), fun z => absurd z.1 q3⟩
theorem k_7 {s : Nat → Int32} {n b : Nat} : kt s n b = 7 ↔ tK s n b = 3 ∧ (s b = 60 ∨ s b = 61) := by
  by_cases q2 : tK s n b = 2
  · rw [kt_n q2]; exact ⟨fun z => absurd z (by decide), fun z => absurd z.1 (by omega)⟩
  · by_cases q3 : tK s n b = 3
    · rw [kt_s q3, kS_7]; exact ⟨fun z => ⟨q3, z⟩, fun z => z.2⟩
    · by_cases q1 : tK s n b = 1
      · rw [kt_w q1]
        have := kW_c (wo_ s n b)
        exact ⟨fun z => by omega, fun z => absurd z.1 q3⟩
      · rw [kt_0 ⟨q1, q2, q3⟩]
        exact ⟨fun z => absurd z (by decide), fun z => absurd z.1 q3⟩
theorem k_8 {s : Nat → Int32} {n b : Nat} : kt s n b = 8 ↔ tK s n b = 3 ∧ (s b = 43 ∨ s b = 45) := by
  by_cases q2 : tK s n b = 2
  · rw [kt_n q2]; exact ⟨fun z => absurd z (by decide), fun z => absurd z.1 (by omega)⟩
  · by_cases q3 : tK s n b = 3
    · rw [kt_s q3, kS_8]; exact ⟨fun z => ⟨q3, z⟩, fun z => z.2⟩
    · by_cases q1 : tK s n b = 1
      · rw [kt_w q1]
        have := kW_c (wo_ s n b)
        exact ⟨fun z => by omega, fun z => absurd z.1 q3⟩
      · rw [kt_0 ⟨q1, q2, q3⟩]
        exact ⟨fun z => absurd z (by decide), fun z => absurd z.1 q3⟩
theorem k_9 {s : Nat → Int32} {n b : Nat} : kt s n b = 9 ↔ tK s n b = 3 ∧ s b = 42 := by
  by_cases q2 : tK s n b = 2
  · rw [kt_n q2]; exact ⟨fun z => absurd z (by decide), fun z => absurd z.1 (by omega)⟩
  · by_cases q3 : tK s n b = 3
    · rw [kt_s q3, kS_9]; exact ⟨fun z => ⟨q3, z⟩, fun z => z.2⟩
    · by_cases q1 : tK s n b = 1
      · rw [kt_w q1]
        have := kW_c (wo_ s n b)
        exact ⟨fun z => by omega, fun z => absurd z.1 q3⟩
      · rw [kt_0 ⟨q1, q2, q3⟩]
        exact ⟨fun z => absurd z (by decide), fun z => absurd z.1 q3⟩
theorem k_c {s : Nat → Int32} {n b : Nat} : kt s n b ≤ 9 := by
  by_cases q2 : tK s n b = 2
  · rw [kt_n q2]; decide
  · by_cases q1 : tK s n b = 1
    · rw [kt_w q1]; have := kW_c (wo_ s n b); omega
    · by_cases q3 : tK s n b = 3
      · rw [kt_s q3]; have := kS_c (s b); omega
      · rw [kt_0 ⟨q1, q2, q3⟩]; decide
/-- how tightly what stands here binds -/
theorem opT {s : Nat → Int32} {n b nx : Nat} {pl kd vl : Int32} {lt : Int64} (h : CT s n b nx pl kd vl lt) : fX0_tightnessOf (fX0_operatorAt kd vl) = nI (bnd (kt s n b)) := by
  have w17 : fX6_isWord 17 kd vl = true ↔ tK s n b = 1 ∧ wo_ s n b = wd 17 := c_word h (j := 17) (by decide)
  have w18 : fX6_isWord 18 kd vl = true ↔ tK s n b = 1 ∧ wo_ s n b = wd 18 := c_word h (j := 18) (by decide)
  unfold fX0_operatorAt fX0_operatorAt_J87a
  simp only [bn1_]
  by_cases q17 : fX6_isWord 17 kd vl = true
  · rw [if_pos q17, show bnd (kt s n b) = 1 by rw [k_6.mpr ⟨(w17.mp q17).1, Or.inl (w17.mp q17).2⟩]; rfl]; decide
  · rw [if_neg q17]
    by_cases q18 : fX6_isWord 18 kd vl = true
    · rw [if_pos q18, show bnd (kt s n b) = 1 by rw [k_6.mpr ⟨(w18.mp q18).1, Or.inr (w18.mp q18).2⟩]; rfl]; decide
    · rw [if_neg q18]
      by_cases q60 : fX6_isSign 60 kd vl = true
      · have z := (c_sign h).mp q60
        rw [if_pos q60, show bnd (kt s n b) = 2 by rw [k_7.mpr ⟨z.1, Or.inl z.2⟩]; rfl]; decide
      · rw [if_neg q60]
        by_cases q61 : fX6_isSign 61 kd vl = true
        · have z := (c_sign h).mp q61
          rw [if_pos q61, show bnd (kt s n b) = 2 by rw [k_7.mpr ⟨z.1, Or.inr z.2⟩]; rfl]; decide
        · rw [if_neg q61]
          by_cases q43 : fX6_isSign 43 kd vl = true
          · have z := (c_sign h).mp q43
            rw [if_pos q43, show bnd (kt s n b) = 3 by rw [k_8.mpr ⟨z.1, Or.inl z.2⟩]; rfl]; decide
          · rw [if_neg q43]
            by_cases q45 : fX6_isSign 45 kd vl = true
            · have z := (c_sign h).mp q45
              rw [if_pos q45, show bnd (kt s n b) = 3 by rw [k_8.mpr ⟨z.1, Or.inr z.2⟩]; rfl]; decide
            · rw [if_neg q45]
              by_cases q42 : fX6_isSign 42 kd vl = true
              · have z := (c_sign h).mp q42
                rw [if_pos q42, show bnd (kt s n b) = 4 by rw [k_9.mpr z]; rfl]; decide
              · rw [if_neg q42]
                have n6 : ¬ kt s n b = 6 := fun z => by
                  have z := k_6.mp z
                  rcases z.2 with y | y
                  · exact q17 (w17.mpr ⟨z.1, y⟩)
                  · exact q18 (w18.mpr ⟨z.1, y⟩)
                have n7 : ¬ kt s n b = 7 := fun z => by
                  have z := k_7.mp z
                  rcases z.2 with y | y
                  · exact q60 ((c_sign h).mpr ⟨z.1, y⟩)
                  · exact q61 ((c_sign h).mpr ⟨z.1, y⟩)
                have n8 : ¬ kt s n b = 8 := fun z => by
                  have z := k_8.mp z
                  rcases z.2 with y | y
                  · exact q43 ((c_sign h).mpr ⟨z.1, y⟩)
                  · exact q45 ((c_sign h).mpr ⟨z.1, y⟩)
                have n9 : ¬ kt s n b = 9 := fun z => q42 ((c_sign h).mpr (k_9.mp z))
                rw [show bnd (kt s n b) = 0 by unfold bnd; rw [if_neg n6, if_neg n7, if_neg n8, if_neg n9]]
                decide
