/-! the class's reading of a law: the machine's way -/
def RP (P : Bool → Nat → Nat → Prop) (s : Nat → Int32) (n b : Nat) (fa : Int32) (X : Nat × (Nat → Int32) × Nat × Int32 × Int32 × Int32 × Int64 × Int32 × Bool) : Prop := ∃ len' code' nx' pl' kd' vl' lt' fa' ok k b', X = (len', code', nx', pl', kd', vl', lt', fa', ok) ∧ P ok k b' ∧ b ≤ b' ∧ CT s n b' nx' pl' kd' vl' lt' ∧ (ok = false → fa' = nI k + nI (16 * b') ∧ ¬ k = 0) ∧ (ok = true → k = 0 ∧ b < b' ∧ fa' = fa ∧ 1 ≤ len')
theorem wr1 {x : Int32} {len : Nat} {code : Nat → Int32} : 1 ≤ (fX0_write x len code).1 := by
  unfold fX0_write fX0_write_J32a
  split
  · omega
  · exact Nat.le_add_left 1 len
theorem c_wrong {s : Nat → Int32} {n b nx : Nat} {pl kd vl : Int32} {lt : Int64} (h : CT s n b nx pl kd vl lt) (k : Int32) : fX6_wrong k pl = (k + nI (16 * b), false) := by
  unfold fX6_wrong
  rw [h.2.2.1, show (16 : Int32) * nI b = nI (16 * b) from pk_mul 16 b]
theorem c_adv {s : Nat → Int32} {n b nx : Nat} {pl kd vl : Int32} {lt : Int64} {w : Nat → Int64} {f : Nat → Int32} (hn : n ≤ 1000) (hw : WT w) (hf : SG f s) (h : CT s n b nx pl kd vl lt) : ∃ a1 a2 a3 a4 a5, fX6_advance n nx lt s w f = (a1, a2, a3, a4, a5) ∧ CT s n (nt s n b) a1 a2 a3 a4 a5 := by
  obtain ⟨a, a2, a3, a4, a5, e1, h1⟩ := advance_ (L := lt) (s := s) hn (show nx ≤ n by rw [h.2.1]; exact tE_le h.1) hw hf
  rw [h.2.1] at h1
  exact ⟨a, a2, a3, a4, a5, e1, h1⟩
theorem k_lt {s : Nat → Int32} {n b : Nat} (hb : b ≤ n) (h : ¬ kt s n b = 0) : b < n := by
  refine K_lt (s := s) hb (fun q => h (kt_0 ⟨?_, ?_, ?_⟩)) <;> omega
theorem rp_5 {s : Nat → Int32} {n b nx : Nat} {pl kd vl : Int32} {lt : Int64} (h : CT s n b nx pl kd vl lt) : ∃ k, fX0_readPart_5 pl kd vl = (nI k + nI (16 * b), false) ∧ PartIs (kt s n) (nt s n) 5 b false k b ∧ ¬ k = 0 := by
  have w16 : fX6_isWord 16 kd vl = true ↔ tK s n b = 1 ∧ wo_ s n b = wd 16 := c_word h (j := 16) (by decide)
  have e5 : fX0_readPart_5_J58a pl = (nI 5 + nI (16 * b), false) := by unfold fX0_readPart_5_J58a; rw [c_wrong h 5]; rfl
  have key : ∀ u1 s0 : Bool, (u1 = true ↔ tK s n b = 2) → (s0 = true ↔ tK s n b = 1 ∧ ∃ j, 19 ≤ j ∧ j < 23 ∧ wo_ s n b = wd j) → ∃ k, fX0_readPart_5_J19a pl kd vl u1 s0 = (nI k + nI (16 * b), false) ∧ PartIs (kt s n) (nt s n) 5 b false k b ∧ ¬ k = 0 := by
    intro u1 s0 h1 h2
    unfold fX0_readPart_5_J19a
    rw [e5, bn1_]
    by_cases a : u1 = true
    · rw [if_pos a]; exact ⟨5, rfl, part_5 (Or.inl (k_1.mpr (Or.inl (h1.mp a)))), by decide⟩
    · rw [if_neg a]
      by_cases c : s0 = true
      · rw [if_pos c]; exact ⟨5, rfl, part_5 (Or.inl (k_1.mpr (Or.inr (h2.mp c)))), by decide⟩
      · rw [if_neg c]
        by_cases d : fX6_isWord 16 kd vl = true
        · rw [if_pos d]; exact ⟨5, rfl, part_5 (Or.inr (Or.inl (k_2.mpr (w16.mp d)))), by decide⟩
        · rw [if_neg d, bn1_]
          by_cases e : fX6_isSign 40 kd vl = true
          · rw [if_pos e]; exact ⟨5, rfl, part_5 (Or.inr (Or.inr (k_3.mpr ((c_sign h).mp e)))), by decide⟩
          · rw [if_neg e, c_wrong h 1, bn2_]
            refine ⟨1, rfl, part_1 ?_, by decide⟩
            rintro (y | y | y)
            · rcases k_1.mp y with z | z
              · exact a (h1.mpr z)
              · exact c (h2.mpr z)
            · exact d (w16.mpr (k_2.mp y))
            · exact e ((c_sign h).mpr (k_3.mp y))
  unfold fX0_readPart_5
  rw [bn1_, bn1_, c_num h]
  by_cases q : fX6_wordHere kd vl < 19
  · rw [if_pos q]
    exact key _ _ decide_eq_true_iff ⟨fun z => Bool.noConfusion z, fun z => absurd q ((c_fact h).mpr z)⟩
  · rw [if_neg q]
    exact key _ _ decide_eq_true_iff ⟨fun _ => (c_fact h).mp q, fun _ => rfl⟩
theorem ro_4_5 {s : Nat → Int32} {n b nx : Nat} {pl kd vl : Int32} {lt : Int64} {w : Nat → Int64} {f code : Nat → Int32} {len : Nat} (h : CT s n b nx pl kd vl lt) : ∃ k, fX0_readOver_4_5 len code n nx pl kd vl lt s w f = (len, code, nx, pl, kd, vl, lt, nI k + nI (16 * b), false) ∧ OverIs (kt s n) (nt s n) 4 5 b false k b ∧ ¬ k = 0 := by
  obtain ⟨k, h1, h2, h3⟩ := rp_5 h
  unfold fX0_readOver_4_5
  rw [h1, bn2_, if_neg (by decide)]
  exact ⟨k, rfl, ov_fail0 h2, h3⟩
theorem ro_3_5 {s : Nat → Int32} {n b nx : Nat} {pl kd vl : Int32} {lt : Int64} {w : Nat → Int64} {f code : Nat → Int32} {len : Nat} (h : CT s n b nx pl kd vl lt) : ∃ k, fX0_readOver_3_5 len code n nx pl kd vl lt s w f = (len, code, nx, pl, kd, vl, lt, nI k + nI (16 * b), false) ∧ OverIs (kt s n) (nt s n) 3 5 b false k b ∧ ¬ k = 0 := by
  obtain ⟨k, h1, h2, h3⟩ := rp_5 h
  unfold fX0_readOver_3_5
  rw [h1, bn2_, if_neg (by decide)]
  exact ⟨k, rfl, ov_fail0 h2, h3⟩
theorem ro_2_5 {s : Nat → Int32} {n b nx : Nat} {pl kd vl : Int32} {lt : Int64} {w : Nat → Int64} {f code : Nat → Int32} {len : Nat} (h : CT s n b nx pl kd vl lt) : ∃ k, fX0_readOver_2_5 len code n nx pl kd vl lt s w f = (len, code, nx, pl, kd, vl, lt, nI k + nI (16 * b), false) ∧ OverIs (kt s n) (nt s n) 2 5 b false k b ∧ ¬ k = 0 := by
  obtain ⟨k, h1, h2, h3⟩ := rp_5 h
  unfold fX0_readOver_2_5
  rw [h1, bn2_, if_neg (by decide)]
  exact ⟨k, rfl, ov_fail0 h2, h3⟩
theorem ro_1_5 {s : Nat → Int32} {n b nx : Nat} {pl kd vl : Int32} {lt : Int64} {w : Nat → Int64} {f code : Nat → Int32} {len : Nat} (h : CT s n b nx pl kd vl lt) : ∃ k, fX0_readOver_1_5 len code n nx pl kd vl lt s w f = (len, code, nx, pl, kd, vl, lt, nI k + nI (16 * b), false) ∧ OverIs (kt s n) (nt s n) 1 5 b false k b ∧ ¬ k = 0 := by
  obtain ⟨k, h1, h2, h3⟩ := rp_5 h
  unfold fX0_readOver_1_5
  rw [h1, bn2_, if_neg (by decide)]
  exact ⟨k, rfl, ov_fail0 h2, h3⟩
set_option maxHeartbeats 4000000 in
theorem rp_4 {s : Nat → Int32} {n b nx : Nat} {pl kd vl fa : Int32} {lt : Int64} {w : Nat → Int64} {f code : Nat → Int32} {len : Nat} (hn : n ≤ 1000) (hw : WT w) (hf : SG f s) (h : CT s n b nx pl kd vl lt) : RP (PartIs (kt s n) (nt s n) 4 b) s n b fa (fX0_readPart_4 len code n nx pl kd vl lt fa s w f) := by
  have w16 : fX6_isWord 16 kd vl = true ↔ tK s n b = 1 ∧ wo_ s n b = wd 16 := c_word h (j := 16) (by decide)
  obtain ⟨a1, a2, a3, a4, a5, e1, e2⟩ := c_adv hn hw hf h
  have vA : ∀ (x : Int32), kt s n b = 1 → RP (PartIs (kt s n) (nt s n) 4 b) s n b fa (fX0_readPart_4_J99a len code n nx lt fa s w f x) := by
    intro x k1
    unfold fX0_readPart_4_J99a
    have hz := wr1 (x := x) (len := len) (code := code)
    generalize fX0_write x len code = zz at hz ⊢
    obtain ⟨z1, z2⟩ := zz
    rw [bn2_, e1, bn5_]
    have hlt := nt_gt (f := s) (k_lt h.1 (by rw [k1]; decide))
    exact ⟨_, _, _, _, _, _, _, _, true, 0, _, rfl, part_v (by decide) k1, Nat.le_of_lt hlt, e2, fun z => Bool.noConfusion z, fun _ => ⟨rfl, hlt, rfl, hz⟩⟩
  have key : ∀ u1 s0 : Bool, (u1 = true ↔ tK s n b = 2) → (s0 = true ↔ tK s n b = 1 ∧ ∃ j, 19 ≤ j ∧ j < 23 ∧ wo_ s n b = wd j) → RP (PartIs (kt s n) (nt s n) 4 b) s n b fa (fX0_readPart_4_J19a len code n nx pl kd vl lt fa s w f u1 s0) := by
    intro u1 s0 h1 h2
    unfold fX0_readPart_4_J19a fX0_readPart_4_J58a fX0_readPart_4_J78a
    rw [bn1_]
    by_cases a : u1 = true
    · rw [if_pos a, if_pos a, if_pos a]; exact vA _ (k_1.mpr (Or.inl (h1.mp a)))
    rw [if_neg a, if_neg a, if_neg a]
    by_cases c : s0 = true
    · rw [if_pos c, if_pos c]; exact vA _ (k_1.mpr (Or.inr (h2.mp c)))
    rw [if_neg c, if_neg c, e1, bn5_]
    by_cases d : fX6_isWord 16 kd vl = true
    · rw [if_pos d, if_pos d]
      have hlt := nt_gt (f := s) (k_lt h.1 (by rw [k_2.mpr (w16.mp d)]; decide))
      obtain ⟨k, p1, p2, p3⟩ := rp_5 e2
      rw [p1, bn2_, if_neg (by decide)]
      exact ⟨_, _, _, _, _, _, _, _, false, k, _, rfl, part_n (by decide) (k_2.mpr (w16.mp d)) p2, Nat.le_of_lt hlt, e2, fun _ => ⟨rfl, p3⟩, fun z => Bool.noConfusion z⟩
    rw [if_neg d, if_neg d, bn1_]
    by_cases e : fX6_isSign 40 kd vl = true
    · rw [if_pos e]
      have k3 := k_3.mpr ((c_sign h).mp e)
      have hlt := nt_gt (f := s) (k_lt h.1 (by rw [k3]; decide))
      unfold fX0_readPart_4_J142a
      obtain ⟨k, p1, p2, p3⟩ := ro_1_5 (len := len) (code := code) (w := w) (f := f) e2
      rw [p1, bn9_, if_neg (by decide)]
      exact ⟨_, _, _, _, _, _, _, _, false, k, _, rfl, part_of (by decide) k3 p2, Nat.le_of_lt hlt, e2, fun _ => ⟨rfl, p3⟩, fun z => Bool.noConfusion z⟩
    rw [if_neg e, c_wrong h 1, bn2_]
    refine ⟨_, _, _, _, _, _, _, _, false, 1, b, rfl, part_1 ?_, Nat.le_refl b, h, fun _ => ⟨rfl, by decide⟩, fun z => Bool.noConfusion z⟩
    rintro (y | y | y)
    · rcases k_1.mp y with z | z
      · exact a (h1.mpr z)
      · exact c (h2.mpr z)
    · exact d (w16.mpr (k_2.mp y))
    · exact e ((c_sign h).mpr (k_3.mp y))
  unfold fX0_readPart_4
  rw [bn1_, bn1_, c_num h]
  by_cases q : fX6_wordHere kd vl < 19
  · rw [if_pos q]
    exact key _ _ decide_eq_true_iff ⟨fun z => Bool.noConfusion z, fun z => absurd q ((c_fact h).mpr z)⟩
  · rw [if_neg q]
    exact key _ _ decide_eq_true_iff ⟨fun _ => (c_fact h).mp q, fun _ => rfl⟩
theorem ro_5_4 {s : Nat → Int32} {n b nx : Nat} {pl kd vl fa : Int32} {lt : Int64} {w : Nat → Int64} {f code : Nat → Int32} {len : Nat} (hn : n ≤ 1000) (hw : WT w) (hf : SG f s) (h : CT s n b nx pl kd vl lt) : RP (OverIs (kt s n) (nt s n) 5 4 b) s n b fa (fX0_readOver_5_4 len code n nx pl kd vl lt fa s w f) := by
  obtain ⟨x1, x2, x3, x4, x5, x6, x7, x8, ok, kk, b', p1, p2, p3, p4, p5, p6⟩ := rp_4 (len := len) (code := code) (fa := fa) hn hw hf h
  unfold fX0_readOver_5_4
  rw [p1, bn9_]
  cases ok with
  | true =>
    obtain ⟨q1, q2, q3, q4⟩ := p6 rfl
    subst q1
    rw [if_pos rfl]
    show RP _ s n b fa (fX0_readOver_5_4_B17a x1 x2 x3 x4 x5 x6 x7 x8 _ 0)
    unfold fX0_readOver_5_4_B17a fX0_readOver_5_4_J51a
    have hb4 := bnd_le (k := kt s n b')
    rw [if_neg (by decide), bn1_, bn1_, opT p4, if_pos (by rw [Int32.lt_iff_toInt_lt, nI_toInt (by omega), show Int32.toInt 5 = 5 by decide]; omega)]
    exact ⟨_, _, _, _, _, _, _, _, true, 0, b', rfl, ov_stop (ov_start p2) (Or.inl (by omega)), p3, p4, fun z => Bool.noConfusion z, fun _ => ⟨rfl, q2, q3, q4⟩⟩
  | false =>
    rw [if_neg (by decide)]
    exact ⟨_, _, _, _, _, _, _, _, false, kk, b', rfl, ov_fail0 p2, p3, p4, p5, fun z => Bool.noConfusion z⟩
set_option maxHeartbeats 4000000 in
theorem ol_4_4 {s : Nat → Int32} {n b0 : Nat} {w : Nat → Int64} {f : Nat → Int32} (hn : n ≤ 1000) (hw : WT w) (hf : SG f s) : ∀ k z i most len code b nx pl kd vl lt fa, 1000 + 1 - i < k → i ≤ b → CT s n b nx pl kd vl lt → OvL (kt s n) (nt s n) 4 4 b0 b most → b0 < b → most ≤ 4 → 1 ≤ len → RP (OverIs (kt s n) (nt s n) 4 4 b0) s n b0 fa (lp z (fX0_readOver_4_4_B17a n s w f) k (nI most) i len code nx pl kd vl lt fa) := by
  intro k
  induction k with
  | zero => intro z i most len code b nx pl kd vl lt fa q; exact absurd q (Nat.not_lt_zero _)
  | succ k ih =>
    intro z i most len code b nx pl kd vl lt fa hk hi h hO hb0 hm4 hln
    show RP _ s n b0 fa (fX0_readOver_4_4_B17a n s w f (lp z (fX0_readOver_4_4_B17a n s w f) k) (nI most) i len code nx pl kd vl lt fa)
    have ih := fun i most len code b nx pl kd vl lt fa => ih z i most len code b nx pl kd vl lt fa
    generalize lp z (fX0_readOver_4_4_B17a n s w f) k = rc at ih ⊢
    have hb4 := bnd_le (k := kt s n b)
    have hbn := h.1
    have stop : (bnd (kt s n b) < 4 ∨ most < bnd (kt s n b)) → RP (OverIs (kt s n) (nt s n) 4 4 b0) s n b0 fa (len, code, nx, pl, kd, vl, lt, fa, true) := fun y => ⟨_, _, _, _, _, _, _, _, true, 0, b, rfl, ov_stop hO y, Nat.le_of_lt hb0, h, fun z => Bool.noConfusion z, fun _ => ⟨rfl, hb0, rfl, hln⟩⟩
    unfold fX0_readOver_4_4_B17a fX0_readOver_4_4_J51a
    by_cases h1 : 1000 ≤ i
    · rw [if_pos h1]
      have e : b = n := by omega
      refine stop (Or.inl ?_)
      rw [kt_0 (by unfold tK; rw [if_pos e]; decide)]
      decide
    rw [if_neg h1, bn1_, bn1_, opT h]
    by_cases ht : bnd (kt s n b) < 4
    · rw [if_pos (by rw [Int32.lt_iff_toInt_lt, nI_toInt (by omega), show Int32.toInt 4 = 4 by decide]; omega)]
      exact stop (Or.inl ht)
    · rw [if_neg (show ¬ (nI (bnd (kt s n b)) < 4) from fun z => by rw [Int32.lt_iff_toInt_lt, nI_toInt (by omega), show Int32.toInt 4 = 4 by decide] at z; omega)]
      by_cases hm : most < bnd (kt s n b)
      · rw [if_neg (show ¬ (nI (bnd (kt s n b)) ≤ nI most) from fun z => by rw [Int32.le_iff_toInt_le, nI_toInt (by omega), nI_toInt (by omega)] at z; omega)]
        exact stop (Or.inr hm)
      rw [if_pos (by rw [Int32.le_iff_toInt_le, nI_toInt (by omega), nI_toInt (by omega)]; omega)]
      have hq : bnd (kt s n b) = 4 := by omega
      rcases hq with hq
      · have eb : bnd (kt s n b) = 4 := hq
        try rw [eb]
        obtain ⟨a1, a2, a3, a4, a5, e1, e2⟩ := c_adv hn hw hf h
        rw [e1, bn5_]
        obtain ⟨x1, x2, x3, x4, x5, x6, x7, x8, ok, kk, b', p1, p2, p3, p4, p5, p6⟩ := ro_5_4 (len := len) (code := code) (fa := fa) hn hw hf e2
        rw [p1, bn9_]
        have hlt := nt_gt (f := s) (k_lt h.1 (by intro z; rw [z] at eb; exact absurd eb (by decide)))
        have nx_ := ov_next (by decide) hO (by omega) (by omega) (by rw [eb]; exact p2)
        cases ok with
        | true =>
          obtain ⟨q1, q2, q3, q4⟩ := p6 rfl
          rw [if_pos rfl]
          have hz := wr1 (x := fX0_operatorAt kd vl) (len := x1) (code := x2)
          generalize fX0_write (fX0_operatorAt kd vl) x1 x2 = zz at hz ⊢
          obtain ⟨z1, z2⟩ := zz
          rw [bn2_]
          unfold fX0_readOver_4_4_J93a
          have hO' := nx_.1 rfl
          rw [eb] at hO'
          have r := ih (i + 1) 4 z1 z2 b' x3 x4 x5 x6 x7 x8 (by omega) (by omega) p4 hO' (by omega) (by decide) hz
          obtain ⟨y1, y2, y3, y4, y5, y6, y7, y8, y9, y10, y11, g1, g2, g3, g4, g5, g6⟩ := r
          exact ⟨y1, y2, y3, y4, y5, y6, y7, y8, y9, y10, y11, g1, g2, by omega, g4, g5, fun z => ⟨(g6 z).1, (g6 z).2.1, (g6 z).2.2.1.trans q3, (g6 z).2.2.2⟩⟩
        | false =>
          rw [if_neg (by decide)]
          exact ⟨_, _, _, _, _, _, _, _, false, kk, b', rfl, nx_.2 rfl, by omega, p4, p5, fun z => Bool.noConfusion z⟩
theorem ro_4_4 {s : Nat → Int32} {n b nx : Nat} {pl kd vl fa : Int32} {lt : Int64} {w : Nat → Int64} {f code : Nat → Int32} {len : Nat} (hn : n ≤ 1000) (hw : WT w) (hf : SG f s) (h : CT s n b nx pl kd vl lt) : RP (OverIs (kt s n) (nt s n) 4 4 b) s n b fa (fX0_readOver_4_4 len code n nx pl kd vl lt fa s w f) := by
  obtain ⟨x1, x2, x3, x4, x5, x6, x7, x8, ok, kk, b', p1, p2, p3, p4, p5, p6⟩ := rp_4 (len := len) (code := code) (fa := fa) hn hw hf h
  unfold fX0_readOver_4_4
  rw [p1, bn9_]
  cases ok with
  | true =>
    obtain ⟨q1, q2, q3, q4⟩ := p6 rfl
    subst q1
    rw [if_pos rfl, ← q3]
    exact ol_4_4 hn hw hf _ _ 0 4 x1 x2 b' x3 x4 x5 x6 x7 x8 (by omega) (by omega) p4 (ov_start p2) q2 (by decide) q4
  | false =>
    rw [if_neg (by decide)]
    exact ⟨_, _, _, _, _, _, _, _, false, kk, b', rfl, ov_fail0 p2, p3, p4, p5, fun z => Bool.noConfusion z⟩
set_option maxHeartbeats 4000000 in
theorem ol_3_4 {s : Nat → Int32} {n b0 : Nat} {w : Nat → Int64} {f : Nat → Int32} (hn : n ≤ 1000) (hw : WT w) (hf : SG f s) : ∀ k z i most len code b nx pl kd vl lt fa, 1000 + 1 - i < k → i ≤ b → CT s n b nx pl kd vl lt → OvL (kt s n) (nt s n) 3 4 b0 b most → b0 < b → most ≤ 4 → 1 ≤ len → RP (OverIs (kt s n) (nt s n) 3 4 b0) s n b0 fa (lp z (fX0_readOver_3_4_B17a n s w f) k (nI most) i len code nx pl kd vl lt fa) := by
  intro k
  induction k with
  | zero => intro z i most len code b nx pl kd vl lt fa q; exact absurd q (Nat.not_lt_zero _)
  | succ k ih =>
    intro z i most len code b nx pl kd vl lt fa hk hi h hO hb0 hm4 hln
    show RP _ s n b0 fa (fX0_readOver_3_4_B17a n s w f (lp z (fX0_readOver_3_4_B17a n s w f) k) (nI most) i len code nx pl kd vl lt fa)
    have ih := fun i most len code b nx pl kd vl lt fa => ih z i most len code b nx pl kd vl lt fa
    generalize lp z (fX0_readOver_3_4_B17a n s w f) k = rc at ih ⊢
    have hb4 := bnd_le (k := kt s n b)
    have hbn := h.1
    have stop : (bnd (kt s n b) < 3 ∨ most < bnd (kt s n b)) → RP (OverIs (kt s n) (nt s n) 3 4 b0) s n b0 fa (len, code, nx, pl, kd, vl, lt, fa, true) := fun y => ⟨_, _, _, _, _, _, _, _, true, 0, b, rfl, ov_stop hO y, Nat.le_of_lt hb0, h, fun z => Bool.noConfusion z, fun _ => ⟨rfl, hb0, rfl, hln⟩⟩
    unfold fX0_readOver_3_4_B17a fX0_readOver_3_4_J51a
    by_cases h1 : 1000 ≤ i
    · rw [if_pos h1]
      have e : b = n := by omega
      refine stop (Or.inl ?_)
      rw [kt_0 (by unfold tK; rw [if_pos e]; decide)]
      decide
    rw [if_neg h1, bn1_, bn1_, opT h]
    by_cases ht : bnd (kt s n b) < 3
    · rw [if_pos (by rw [Int32.lt_iff_toInt_lt, nI_toInt (by omega), show Int32.toInt 3 = 3 by decide]; omega)]
      exact stop (Or.inl ht)
    · rw [if_neg (show ¬ (nI (bnd (kt s n b)) < 3) from fun z => by rw [Int32.lt_iff_toInt_lt, nI_toInt (by omega), show Int32.toInt 3 = 3 by decide] at z; omega)]
      by_cases hm : most < bnd (kt s n b)
      · rw [if_neg (show ¬ (nI (bnd (kt s n b)) ≤ nI most) from fun z => by rw [Int32.le_iff_toInt_le, nI_toInt (by omega), nI_toInt (by omega)] at z; omega)]
        exact stop (Or.inr hm)
      rw [if_pos (by rw [Int32.le_iff_toInt_le, nI_toInt (by omega), nI_toInt (by omega)]; omega)]
      have hq : bnd (kt s n b) = 3 ∨ bnd (kt s n b) = 4 := by omega
      rcases hq with hq | hq
      · have eb : bnd (kt s n b) = 3 := hq
        try rw [eb]
        rw [if_pos (show (nI 3 : Int32) = 3 by decide)]
        obtain ⟨a1, a2, a3, a4, a5, e1, e2⟩ := c_adv hn hw hf h
        rw [e1, bn5_]
        obtain ⟨x1, x2, x3, x4, x5, x6, x7, x8, ok, kk, b', p1, p2, p3, p4, p5, p6⟩ := ro_4_4 (len := len) (code := code) (fa := fa) hn hw hf e2
        rw [p1, bn9_]
        have hlt := nt_gt (f := s) (k_lt h.1 (by intro z; rw [z] at eb; exact absurd eb (by decide)))
        have nx_ := ov_next (by decide) hO (by omega) (by omega) (by rw [eb]; exact p2)
        cases ok with
        | true =>
          obtain ⟨q1, q2, q3, q4⟩ := p6 rfl
          rw [if_pos rfl]
          have hz := wr1 (x := fX0_operatorAt kd vl) (len := x1) (code := x2)
          generalize fX0_write (fX0_operatorAt kd vl) x1 x2 = zz at hz ⊢
          obtain ⟨z1, z2⟩ := zz
          rw [bn2_]
          unfold fX0_readOver_3_4_J93a
          have hO' := nx_.1 rfl
          rw [eb] at hO'
          have r := ih (i + 1) 3 z1 z2 b' x3 x4 x5 x6 x7 x8 (by omega) (by omega) p4 hO' (by omega) (by decide) hz
          obtain ⟨y1, y2, y3, y4, y5, y6, y7, y8, y9, y10, y11, g1, g2, g3, g4, g5, g6⟩ := r
          exact ⟨y1, y2, y3, y4, y5, y6, y7, y8, y9, y10, y11, g1, g2, by omega, g4, g5, fun z => ⟨(g6 z).1, (g6 z).2.1, (g6 z).2.2.1.trans q3, (g6 z).2.2.2⟩⟩
        | false =>
          rw [if_neg (by decide)]
          exact ⟨_, _, _, _, _, _, _, _, false, kk, b', rfl, nx_.2 rfl, by omega, p4, p5, fun z => Bool.noConfusion z⟩
      · have eb : bnd (kt s n b) = 4 := hq
        try rw [eb]
        rw [if_neg (show ¬ ((nI 4 : Int32) = 3) by decide)]
        obtain ⟨a1, a2, a3, a4, a5, e1, e2⟩ := c_adv hn hw hf h
        rw [e1, bn5_]
        obtain ⟨x1, x2, x3, x4, x5, x6, x7, x8, ok, kk, b', p1, p2, p3, p4, p5, p6⟩ := ro_5_4 (len := len) (code := code) (fa := fa) hn hw hf e2
        rw [p1, bn9_]
        have hlt := nt_gt (f := s) (k_lt h.1 (by intro z; rw [z] at eb; exact absurd eb (by decide)))
        have nx_ := ov_next (by decide) hO (by omega) (by omega) (by rw [eb]; exact p2)
        cases ok with
        | true =>
          obtain ⟨q1, q2, q3, q4⟩ := p6 rfl
          rw [if_pos rfl]
          have hz := wr1 (x := fX0_operatorAt kd vl) (len := x1) (code := x2)
          generalize fX0_write (fX0_operatorAt kd vl) x1 x2 = zz at hz ⊢
          obtain ⟨z1, z2⟩ := zz
          rw [bn2_]
          unfold fX0_readOver_3_4_J93b
          have hO' := nx_.1 rfl
          rw [eb] at hO'
          have r := ih (i + 1) 4 z1 z2 b' x3 x4 x5 x6 x7 x8 (by omega) (by omega) p4 hO' (by omega) (by decide) hz
          obtain ⟨y1, y2, y3, y4, y5, y6, y7, y8, y9, y10, y11, g1, g2, g3, g4, g5, g6⟩ := r
          exact ⟨y1, y2, y3, y4, y5, y6, y7, y8, y9, y10, y11, g1, g2, by omega, g4, g5, fun z => ⟨(g6 z).1, (g6 z).2.1, (g6 z).2.2.1.trans q3, (g6 z).2.2.2⟩⟩
        | false =>
          rw [if_neg (by decide)]
          exact ⟨_, _, _, _, _, _, _, _, false, kk, b', rfl, nx_.2 rfl, by omega, p4, p5, fun z => Bool.noConfusion z⟩
theorem ro_3_4 {s : Nat → Int32} {n b nx : Nat} {pl kd vl fa : Int32} {lt : Int64} {w : Nat → Int64} {f code : Nat → Int32} {len : Nat} (hn : n ≤ 1000) (hw : WT w) (hf : SG f s) (h : CT s n b nx pl kd vl lt) : RP (OverIs (kt s n) (nt s n) 3 4 b) s n b fa (fX0_readOver_3_4 len code n nx pl kd vl lt fa s w f) := by
  obtain ⟨x1, x2, x3, x4, x5, x6, x7, x8, ok, kk, b', p1, p2, p3, p4, p5, p6⟩ := rp_4 (len := len) (code := code) (fa := fa) hn hw hf h
  unfold fX0_readOver_3_4
  rw [p1, bn9_]
  cases ok with
  | true =>
    obtain ⟨q1, q2, q3, q4⟩ := p6 rfl
    subst q1
    rw [if_pos rfl, ← q3]
    exact ol_3_4 hn hw hf _ _ 0 4 x1 x2 b' x3 x4 x5 x6 x7 x8 (by omega) (by omega) p4 (ov_start p2) q2 (by decide) q4
  | false =>
    rw [if_neg (by decide)]
    exact ⟨_, _, _, _, _, _, _, _, false, kk, b', rfl, ov_fail0 p2, p3, p4, p5, fun z => Bool.noConfusion z⟩
set_option maxHeartbeats 4000000 in
theorem ol_2_4 {s : Nat → Int32} {n b0 : Nat} {w : Nat → Int64} {f : Nat → Int32} (hn : n ≤ 1000) (hw : WT w) (hf : SG f s) : ∀ k z i most len code b nx pl kd vl lt fa, 1000 + 1 - i < k → i ≤ b → CT s n b nx pl kd vl lt → OvL (kt s n) (nt s n) 2 4 b0 b most → b0 < b → most ≤ 4 → 1 ≤ len → RP (OverIs (kt s n) (nt s n) 2 4 b0) s n b0 fa (lp z (fX0_readOver_2_4_B17a n s w f) k (nI most) i len code nx pl kd vl lt fa) := by
  intro k
  induction k with
  | zero => intro z i most len code b nx pl kd vl lt fa q; exact absurd q (Nat.not_lt_zero _)
  | succ k ih =>
    intro z i most len code b nx pl kd vl lt fa hk hi h hO hb0 hm4 hln
    show RP _ s n b0 fa (fX0_readOver_2_4_B17a n s w f (lp z (fX0_readOver_2_4_B17a n s w f) k) (nI most) i len code nx pl kd vl lt fa)
    have ih := fun i most len code b nx pl kd vl lt fa => ih z i most len code b nx pl kd vl lt fa
    generalize lp z (fX0_readOver_2_4_B17a n s w f) k = rc at ih ⊢
    have hb4 := bnd_le (k := kt s n b)
    have hbn := h.1
    have stop : (bnd (kt s n b) < 2 ∨ most < bnd (kt s n b)) → RP (OverIs (kt s n) (nt s n) 2 4 b0) s n b0 fa (len, code, nx, pl, kd, vl, lt, fa, true) := fun y => ⟨_, _, _, _, _, _, _, _, true, 0, b, rfl, ov_stop hO y, Nat.le_of_lt hb0, h, fun z => Bool.noConfusion z, fun _ => ⟨rfl, hb0, rfl, hln⟩⟩
    unfold fX0_readOver_2_4_B17a fX0_readOver_2_4_J51a
    by_cases h1 : 1000 ≤ i
    · rw [if_pos h1]
      have e : b = n := by omega
      refine stop (Or.inl ?_)
      rw [kt_0 (by unfold tK; rw [if_pos e]; decide)]
      decide
    rw [if_neg h1, bn1_, bn1_, opT h]
    by_cases ht : bnd (kt s n b) < 2
    · rw [if_pos (by rw [Int32.lt_iff_toInt_lt, nI_toInt (by omega), show Int32.toInt 2 = 2 by decide]; omega)]
      exact stop (Or.inl ht)
    · rw [if_neg (show ¬ (nI (bnd (kt s n b)) < 2) from fun z => by rw [Int32.lt_iff_toInt_lt, nI_toInt (by omega), show Int32.toInt 2 = 2 by decide] at z; omega)]
      by_cases hm : most < bnd (kt s n b)
      · rw [if_neg (show ¬ (nI (bnd (kt s n b)) ≤ nI most) from fun z => by rw [Int32.le_iff_toInt_le, nI_toInt (by omega), nI_toInt (by omega)] at z; omega)]
        exact stop (Or.inr hm)
      rw [if_pos (by rw [Int32.le_iff_toInt_le, nI_toInt (by omega), nI_toInt (by omega)]; omega)]
      have hq : bnd (kt s n b) = 2 ∨ bnd (kt s n b) = 3 ∨ bnd (kt s n b) = 4 := by omega
      rcases hq with hq | hq | hq
      · have eb : bnd (kt s n b) = 2 := hq
        try rw [eb]
        rw [if_pos (show (nI 2 : Int32) = 2 by decide)]
        obtain ⟨a1, a2, a3, a4, a5, e1, e2⟩ := c_adv hn hw hf h
        rw [e1, bn5_]
        obtain ⟨x1, x2, x3, x4, x5, x6, x7, x8, ok, kk, b', p1, p2, p3, p4, p5, p6⟩ := ro_3_4 (len := len) (code := code) (fa := fa) hn hw hf e2
        rw [p1, bn9_]
        have hlt := nt_gt (f := s) (k_lt h.1 (by intro z; rw [z] at eb; exact absurd eb (by decide)))
        have nx_ := ov_next (by decide) hO (by omega) (by omega) (by rw [eb]; exact p2)
        cases ok with
        | true =>
          obtain ⟨q1, q2, q3, q4⟩ := p6 rfl
          rw [if_pos rfl]
          have hz := wr1 (x := fX0_operatorAt kd vl) (len := x1) (code := x2)
          generalize fX0_write (fX0_operatorAt kd vl) x1 x2 = zz at hz ⊢
          obtain ⟨z1, z2⟩ := zz
          rw [bn2_]
          unfold fX0_readOver_2_4_J93a
          have hO' := nx_.1 rfl
          rw [eb] at hO'
          have r := ih (i + 1) 1 z1 z2 b' x3 x4 x5 x6 x7 x8 (by omega) (by omega) p4 hO' (by omega) (by decide) hz
          obtain ⟨y1, y2, y3, y4, y5, y6, y7, y8, y9, y10, y11, g1, g2, g3, g4, g5, g6⟩ := r
          exact ⟨y1, y2, y3, y4, y5, y6, y7, y8, y9, y10, y11, g1, g2, by omega, g4, g5, fun z => ⟨(g6 z).1, (g6 z).2.1, (g6 z).2.2.1.trans q3, (g6 z).2.2.2⟩⟩
        | false =>
          rw [if_neg (by decide)]
          exact ⟨_, _, _, _, _, _, _, _, false, kk, b', rfl, nx_.2 rfl, by omega, p4, p5, fun z => Bool.noConfusion z⟩
      · have eb : bnd (kt s n b) = 3 := hq
        try rw [eb]
        rw [if_neg (show ¬ ((nI 3 : Int32) = 2) by decide)]
        rw [if_pos (show (nI 3 : Int32) = 3 by decide)]
        obtain ⟨a1, a2, a3, a4, a5, e1, e2⟩ := c_adv hn hw hf h
        rw [e1, bn5_]
        obtain ⟨x1, x2, x3, x4, x5, x6, x7, x8, ok, kk, b', p1, p2, p3, p4, p5, p6⟩ := ro_4_4 (len := len) (code := code) (fa := fa) hn hw hf e2
        rw [p1, bn9_]
        have hlt := nt_gt (f := s) (k_lt h.1 (by intro z; rw [z] at eb; exact absurd eb (by decide)))
        have nx_ := ov_next (by decide) hO (by omega) (by omega) (by rw [eb]; exact p2)
        cases ok with
        | true =>
          obtain ⟨q1, q2, q3, q4⟩ := p6 rfl
          rw [if_pos rfl]
          have hz := wr1 (x := fX0_operatorAt kd vl) (len := x1) (code := x2)
          generalize fX0_write (fX0_operatorAt kd vl) x1 x2 = zz at hz ⊢
          obtain ⟨z1, z2⟩ := zz
          rw [bn2_]
          unfold fX0_readOver_2_4_J93b
          have hO' := nx_.1 rfl
          rw [eb] at hO'
          have r := ih (i + 1) 3 z1 z2 b' x3 x4 x5 x6 x7 x8 (by omega) (by omega) p4 hO' (by omega) (by decide) hz
          obtain ⟨y1, y2, y3, y4, y5, y6, y7, y8, y9, y10, y11, g1, g2, g3, g4, g5, g6⟩ := r
          exact ⟨y1, y2, y3, y4, y5, y6, y7, y8, y9, y10, y11, g1, g2, by omega, g4, g5, fun z => ⟨(g6 z).1, (g6 z).2.1, (g6 z).2.2.1.trans q3, (g6 z).2.2.2⟩⟩
        | false =>
          rw [if_neg (by decide)]
          exact ⟨_, _, _, _, _, _, _, _, false, kk, b', rfl, nx_.2 rfl, by omega, p4, p5, fun z => Bool.noConfusion z⟩
      · have eb : bnd (kt s n b) = 4 := hq
        try rw [eb]
        rw [if_neg (show ¬ ((nI 4 : Int32) = 2) by decide)]
        rw [if_neg (show ¬ ((nI 4 : Int32) = 3) by decide)]
        obtain ⟨a1, a2, a3, a4, a5, e1, e2⟩ := c_adv hn hw hf h
        rw [e1, bn5_]
        obtain ⟨x1, x2, x3, x4, x5, x6, x7, x8, ok, kk, b', p1, p2, p3, p4, p5, p6⟩ := ro_5_4 (len := len) (code := code) (fa := fa) hn hw hf e2
        rw [p1, bn9_]
        have hlt := nt_gt (f := s) (k_lt h.1 (by intro z; rw [z] at eb; exact absurd eb (by decide)))
        have nx_ := ov_next (by decide) hO (by omega) (by omega) (by rw [eb]; exact p2)
        cases ok with
        | true =>
          obtain ⟨q1, q2, q3, q4⟩ := p6 rfl
          rw [if_pos rfl]
          have hz := wr1 (x := fX0_operatorAt kd vl) (len := x1) (code := x2)
          generalize fX0_write (fX0_operatorAt kd vl) x1 x2 = zz at hz ⊢
          obtain ⟨z1, z2⟩ := zz
          rw [bn2_]
          unfold fX0_readOver_2_4_J93c
          have hO' := nx_.1 rfl
          rw [eb] at hO'
          have r := ih (i + 1) 4 z1 z2 b' x3 x4 x5 x6 x7 x8 (by omega) (by omega) p4 hO' (by omega) (by decide) hz
          obtain ⟨y1, y2, y3, y4, y5, y6, y7, y8, y9, y10, y11, g1, g2, g3, g4, g5, g6⟩ := r
          exact ⟨y1, y2, y3, y4, y5, y6, y7, y8, y9, y10, y11, g1, g2, by omega, g4, g5, fun z => ⟨(g6 z).1, (g6 z).2.1, (g6 z).2.2.1.trans q3, (g6 z).2.2.2⟩⟩
        | false =>
          rw [if_neg (by decide)]
          exact ⟨_, _, _, _, _, _, _, _, false, kk, b', rfl, nx_.2 rfl, by omega, p4, p5, fun z => Bool.noConfusion z⟩
theorem ro_2_4 {s : Nat → Int32} {n b nx : Nat} {pl kd vl fa : Int32} {lt : Int64} {w : Nat → Int64} {f code : Nat → Int32} {len : Nat} (hn : n ≤ 1000) (hw : WT w) (hf : SG f s) (h : CT s n b nx pl kd vl lt) : RP (OverIs (kt s n) (nt s n) 2 4 b) s n b fa (fX0_readOver_2_4 len code n nx pl kd vl lt fa s w f) := by
  obtain ⟨x1, x2, x3, x4, x5, x6, x7, x8, ok, kk, b', p1, p2, p3, p4, p5, p6⟩ := rp_4 (len := len) (code := code) (fa := fa) hn hw hf h
  unfold fX0_readOver_2_4
  rw [p1, bn9_]
  cases ok with
  | true =>
    obtain ⟨q1, q2, q3, q4⟩ := p6 rfl
    subst q1
    rw [if_pos rfl, ← q3]
    exact ol_2_4 hn hw hf _ _ 0 4 x1 x2 b' x3 x4 x5 x6 x7 x8 (by omega) (by omega) p4 (ov_start p2) q2 (by decide) q4
  | false =>
    rw [if_neg (by decide)]
    exact ⟨_, _, _, _, _, _, _, _, false, kk, b', rfl, ov_fail0 p2, p3, p4, p5, fun z => Bool.noConfusion z⟩
set_option maxHeartbeats 4000000 in
theorem ol_1_4 {s : Nat → Int32} {n b0 : Nat} {w : Nat → Int64} {f : Nat → Int32} (hn : n ≤ 1000) (hw : WT w) (hf : SG f s) : ∀ k z i most len code b nx pl kd vl lt fa, 1000 + 1 - i < k → i ≤ b → CT s n b nx pl kd vl lt → OvL (kt s n) (nt s n) 1 4 b0 b most → b0 < b → most ≤ 4 → 1 ≤ len → RP (OverIs (kt s n) (nt s n) 1 4 b0) s n b0 fa (lp z (fX0_readOver_1_4_B17a n s w f) k (nI most) i len code nx pl kd vl lt fa) := by
  intro k
  induction k with
  | zero => intro z i most len code b nx pl kd vl lt fa q; exact absurd q (Nat.not_lt_zero _)
  | succ k ih =>
    intro z i most len code b nx pl kd vl lt fa hk hi h hO hb0 hm4 hln
    show RP _ s n b0 fa (fX0_readOver_1_4_B17a n s w f (lp z (fX0_readOver_1_4_B17a n s w f) k) (nI most) i len code nx pl kd vl lt fa)
    have ih := fun i most len code b nx pl kd vl lt fa => ih z i most len code b nx pl kd vl lt fa
    generalize lp z (fX0_readOver_1_4_B17a n s w f) k = rc at ih ⊢
    have hb4 := bnd_le (k := kt s n b)
    have hbn := h.1
    have stop : (bnd (kt s n b) < 1 ∨ most < bnd (kt s n b)) → RP (OverIs (kt s n) (nt s n) 1 4 b0) s n b0 fa (len, code, nx, pl, kd, vl, lt, fa, true) := fun y => ⟨_, _, _, _, _, _, _, _, true, 0, b, rfl, ov_stop hO y, Nat.le_of_lt hb0, h, fun z => Bool.noConfusion z, fun _ => ⟨rfl, hb0, rfl, hln⟩⟩
    unfold fX0_readOver_1_4_B17a fX0_readOver_1_4_J51a
    by_cases h1 : 1000 ≤ i
    · rw [if_pos h1]
      have e : b = n := by omega
      refine stop (Or.inl ?_)
      rw [kt_0 (by unfold tK; rw [if_pos e]; decide)]
      decide
    rw [if_neg h1, bn1_, bn1_, opT h]
    by_cases ht : bnd (kt s n b) < 1
    · rw [if_pos (by rw [Int32.lt_iff_toInt_lt, nI_toInt (by omega), show Int32.toInt 1 = 1 by decide]; omega)]
      exact stop (Or.inl ht)
    · rw [if_neg (show ¬ (nI (bnd (kt s n b)) < 1) from fun z => by rw [Int32.lt_iff_toInt_lt, nI_toInt (by omega), show Int32.toInt 1 = 1 by decide] at z; omega)]
      by_cases hm : most < bnd (kt s n b)
      · rw [if_neg (show ¬ (nI (bnd (kt s n b)) ≤ nI most) from fun z => by rw [Int32.le_iff_toInt_le, nI_toInt (by omega), nI_toInt (by omega)] at z; omega)]
        exact stop (Or.inr hm)
      rw [if_pos (by rw [Int32.le_iff_toInt_le, nI_toInt (by omega), nI_toInt (by omega)]; omega)]
      have hq : bnd (kt s n b) = 1 ∨ bnd (kt s n b) = 2 ∨ bnd (kt s n b) = 3 ∨ bnd (kt s n b) = 4 := by omega
      rcases hq with hq | hq | hq | hq
      · have eb : bnd (kt s n b) = 1 := hq
        try rw [eb]
        rw [if_pos (show (nI 1 : Int32) = 1 by decide)]
        obtain ⟨a1, a2, a3, a4, a5, e1, e2⟩ := c_adv hn hw hf h
        rw [e1, bn5_]
        obtain ⟨x1, x2, x3, x4, x5, x6, x7, x8, ok, kk, b', p1, p2, p3, p4, p5, p6⟩ := ro_2_4 (len := len) (code := code) (fa := fa) hn hw hf e2
        rw [p1, bn9_]
        have hlt := nt_gt (f := s) (k_lt h.1 (by intro z; rw [z] at eb; exact absurd eb (by decide)))
        have nx_ := ov_next (by decide) hO (by omega) (by omega) (by rw [eb]; exact p2)
        cases ok with
        | true =>
          obtain ⟨q1, q2, q3, q4⟩ := p6 rfl
          rw [if_pos rfl]
          have hz := wr1 (x := fX0_operatorAt kd vl) (len := x1) (code := x2)
          generalize fX0_write (fX0_operatorAt kd vl) x1 x2 = zz at hz ⊢
          obtain ⟨z1, z2⟩ := zz
          rw [bn2_]
          unfold fX0_readOver_1_4_J93a
          have hO' := nx_.1 rfl
          rw [eb] at hO'
          have r := ih (i + 1) 1 z1 z2 b' x3 x4 x5 x6 x7 x8 (by omega) (by omega) p4 hO' (by omega) (by decide) hz
          obtain ⟨y1, y2, y3, y4, y5, y6, y7, y8, y9, y10, y11, g1, g2, g3, g4, g5, g6⟩ := r
          exact ⟨y1, y2, y3, y4, y5, y6, y7, y8, y9, y10, y11, g1, g2, by omega, g4, g5, fun z => ⟨(g6 z).1, (g6 z).2.1, (g6 z).2.2.1.trans q3, (g6 z).2.2.2⟩⟩
        | false =>
          rw [if_neg (by decide)]
          exact ⟨_, _, _, _, _, _, _, _, false, kk, b', rfl, nx_.2 rfl, by omega, p4, p5, fun z => Bool.noConfusion z⟩
      · have eb : bnd (kt s n b) = 2 := hq
        try rw [eb]
        rw [if_neg (show ¬ ((nI 2 : Int32) = 1) by decide)]
        rw [if_pos (show (nI 2 : Int32) = 2 by decide)]
        obtain ⟨a1, a2, a3, a4, a5, e1, e2⟩ := c_adv hn hw hf h
        rw [e1, bn5_]
        obtain ⟨x1, x2, x3, x4, x5, x6, x7, x8, ok, kk, b', p1, p2, p3, p4, p5, p6⟩ := ro_3_4 (len := len) (code := code) (fa := fa) hn hw hf e2
        rw [p1, bn9_]
        have hlt := nt_gt (f := s) (k_lt h.1 (by intro z; rw [z] at eb; exact absurd eb (by decide)))
        have nx_ := ov_next (by decide) hO (by omega) (by omega) (by rw [eb]; exact p2)
        cases ok with
        | true =>
          obtain ⟨q1, q2, q3, q4⟩ := p6 rfl
          rw [if_pos rfl]
          have hz := wr1 (x := fX0_operatorAt kd vl) (len := x1) (code := x2)
          generalize fX0_write (fX0_operatorAt kd vl) x1 x2 = zz at hz ⊢
          obtain ⟨z1, z2⟩ := zz
          rw [bn2_]
          unfold fX0_readOver_1_4_J93b
          have hO' := nx_.1 rfl
          rw [eb] at hO'
          have r := ih (i + 1) 1 z1 z2 b' x3 x4 x5 x6 x7 x8 (by omega) (by omega) p4 hO' (by omega) (by decide) hz
          obtain ⟨y1, y2, y3, y4, y5, y6, y7, y8, y9, y10, y11, g1, g2, g3, g4, g5, g6⟩ := r
          exact ⟨y1, y2, y3, y4, y5, y6, y7, y8, y9, y10, y11, g1, g2, by omega, g4, g5, fun z => ⟨(g6 z).1, (g6 z).2.1, (g6 z).2.2.1.trans q3, (g6 z).2.2.2⟩⟩
        | false =>
          rw [if_neg (by decide)]
          exact ⟨_, _, _, _, _, _, _, _, false, kk, b', rfl, nx_.2 rfl, by omega, p4, p5, fun z => Bool.noConfusion z⟩
      · have eb : bnd (kt s n b) = 3 := hq
        try rw [eb]
        rw [if_neg (show ¬ ((nI 3 : Int32) = 1) by decide)]
        rw [if_neg (show ¬ ((nI 3 : Int32) = 2) by decide)]
        rw [if_pos (show (nI 3 : Int32) = 3 by decide)]
        obtain ⟨a1, a2, a3, a4, a5, e1, e2⟩ := c_adv hn hw hf h
        rw [e1, bn5_]
        obtain ⟨x1, x2, x3, x4, x5, x6, x7, x8, ok, kk, b', p1, p2, p3, p4, p5, p6⟩ := ro_4_4 (len := len) (code := code) (fa := fa) hn hw hf e2
        rw [p1, bn9_]
        have hlt := nt_gt (f := s) (k_lt h.1 (by intro z; rw [z] at eb; exact absurd eb (by decide)))
        have nx_ := ov_next (by decide) hO (by omega) (by omega) (by rw [eb]; exact p2)
        cases ok with
        | true =>
          obtain ⟨q1, q2, q3, q4⟩ := p6 rfl
          rw [if_pos rfl]
          have hz := wr1 (x := fX0_operatorAt kd vl) (len := x1) (code := x2)
          generalize fX0_write (fX0_operatorAt kd vl) x1 x2 = zz at hz ⊢
          obtain ⟨z1, z2⟩ := zz
          rw [bn2_]
          unfold fX0_readOver_1_4_J93c
          have hO' := nx_.1 rfl
          rw [eb] at hO'
          have r := ih (i + 1) 3 z1 z2 b' x3 x4 x5 x6 x7 x8 (by omega) (by omega) p4 hO' (by omega) (by decide) hz
          obtain ⟨y1, y2, y3, y4, y5, y6, y7, y8, y9, y10, y11, g1, g2, g3, g4, g5, g6⟩ := r
          exact ⟨y1, y2, y3, y4, y5, y6, y7, y8, y9, y10, y11, g1, g2, by omega, g4, g5, fun z => ⟨(g6 z).1, (g6 z).2.1, (g6 z).2.2.1.trans q3, (g6 z).2.2.2⟩⟩
        | false =>
          rw [if_neg (by decide)]
          exact ⟨_, _, _, _, _, _, _, _, false, kk, b', rfl, nx_.2 rfl, by omega, p4, p5, fun z => Bool.noConfusion z⟩
      · have eb : bnd (kt s n b) = 4 := hq
        try rw [eb]
        rw [if_neg (show ¬ ((nI 4 : Int32) = 1) by decide)]
        rw [if_neg (show ¬ ((nI 4 : Int32) = 2) by decide)]
        rw [if_neg (show ¬ ((nI 4 : Int32) = 3) by decide)]
        obtain ⟨a1, a2, a3, a4, a5, e1, e2⟩ := c_adv hn hw hf h
        rw [e1, bn5_]
        obtain ⟨x1, x2, x3, x4, x5, x6, x7, x8, ok, kk, b', p1, p2, p3, p4, p5, p6⟩ := ro_5_4 (len := len) (code := code) (fa := fa) hn hw hf e2
        rw [p1, bn9_]
        have hlt := nt_gt (f := s) (k_lt h.1 (by intro z; rw [z] at eb; exact absurd eb (by decide)))
        have nx_ := ov_next (by decide) hO (by omega) (by omega) (by rw [eb]; exact p2)
        cases ok with
        | true =>
          obtain ⟨q1, q2, q3, q4⟩ := p6 rfl
          rw [if_pos rfl]
          have hz := wr1 (x := fX0_operatorAt kd vl) (len := x1) (code := x2)
          generalize fX0_write (fX0_operatorAt kd vl) x1 x2 = zz at hz ⊢
          obtain ⟨z1, z2⟩ := zz
          rw [bn2_]
          unfold fX0_readOver_1_4_J93d
          have hO' := nx_.1 rfl
          rw [eb] at hO'
          have r := ih (i + 1) 4 z1 z2 b' x3 x4 x5 x6 x7 x8 (by omega) (by omega) p4 hO' (by omega) (by decide) hz
          obtain ⟨y1, y2, y3, y4, y5, y6, y7, y8, y9, y10, y11, g1, g2, g3, g4, g5, g6⟩ := r
          exact ⟨y1, y2, y3, y4, y5, y6, y7, y8, y9, y10, y11, g1, g2, by omega, g4, g5, fun z => ⟨(g6 z).1, (g6 z).2.1, (g6 z).2.2.1.trans q3, (g6 z).2.2.2⟩⟩
        | false =>
          rw [if_neg (by decide)]
          exact ⟨_, _, _, _, _, _, _, _, false, kk, b', rfl, nx_.2 rfl, by omega, p4, p5, fun z => Bool.noConfusion z⟩
theorem ro_1_4 {s : Nat → Int32} {n b nx : Nat} {pl kd vl fa : Int32} {lt : Int64} {w : Nat → Int64} {f code : Nat → Int32} {len : Nat} (hn : n ≤ 1000) (hw : WT w) (hf : SG f s) (h : CT s n b nx pl kd vl lt) : RP (OverIs (kt s n) (nt s n) 1 4 b) s n b fa (fX0_readOver_1_4 len code n nx pl kd vl lt fa s w f) := by
  obtain ⟨x1, x2, x3, x4, x5, x6, x7, x8, ok, kk, b', p1, p2, p3, p4, p5, p6⟩ := rp_4 (len := len) (code := code) (fa := fa) hn hw hf h
  unfold fX0_readOver_1_4
  rw [p1, bn9_]
  cases ok with
  | true =>
    obtain ⟨q1, q2, q3, q4⟩ := p6 rfl
    subst q1
    rw [if_pos rfl, ← q3]
    exact ol_1_4 hn hw hf _ _ 0 4 x1 x2 b' x3 x4 x5 x6 x7 x8 (by omega) (by omega) p4 (ov_start p2) q2 (by decide) q4
  | false =>
    rw [if_neg (by decide)]
    exact ⟨_, _, _, _, _, _, _, _, false, kk, b', rfl, ov_fail0 p2, p3, p4, p5, fun z => Bool.noConfusion z⟩
set_option maxHeartbeats 4000000 in
theorem rp_3 {s : Nat → Int32} {n b nx : Nat} {pl kd vl fa : Int32} {lt : Int64} {w : Nat → Int64} {f code : Nat → Int32} {len : Nat} (hn : n ≤ 1000) (hw : WT w) (hf : SG f s) (h : CT s n b nx pl kd vl lt) : RP (PartIs (kt s n) (nt s n) 3 b) s n b fa (fX0_readPart_3 len code n nx pl kd vl lt fa s w f) := by
  have w16 : fX6_isWord 16 kd vl = true ↔ tK s n b = 1 ∧ wo_ s n b = wd 16 := c_word h (j := 16) (by decide)
  obtain ⟨a1, a2, a3, a4, a5, e1, e2⟩ := c_adv hn hw hf h
  have vA : ∀ (x : Int32), kt s n b = 1 → RP (PartIs (kt s n) (nt s n) 3 b) s n b fa (fX0_readPart_3_J99a len code n nx lt fa s w f x) := by
    intro x k1
    unfold fX0_readPart_3_J99a
    have hz := wr1 (x := x) (len := len) (code := code)
    generalize fX0_write x len code = zz at hz ⊢
    obtain ⟨z1, z2⟩ := zz
    rw [bn2_, e1, bn5_]
    have hlt := nt_gt (f := s) (k_lt h.1 (by rw [k1]; decide))
    exact ⟨_, _, _, _, _, _, _, _, true, 0, _, rfl, part_v (by decide) k1, Nat.le_of_lt hlt, e2, fun z => Bool.noConfusion z, fun _ => ⟨rfl, hlt, rfl, hz⟩⟩
  have key : ∀ u1 s0 : Bool, (u1 = true ↔ tK s n b = 2) → (s0 = true ↔ tK s n b = 1 ∧ ∃ j, 19 ≤ j ∧ j < 23 ∧ wo_ s n b = wd j) → RP (PartIs (kt s n) (nt s n) 3 b) s n b fa (fX0_readPart_3_J19a len code n nx pl kd vl lt fa s w f u1 s0) := by
    intro u1 s0 h1 h2
    unfold fX0_readPart_3_J19a fX0_readPart_3_J58a fX0_readPart_3_J78a
    rw [bn1_]
    by_cases a : u1 = true
    · rw [if_pos a, if_pos a, if_pos a]; exact vA _ (k_1.mpr (Or.inl (h1.mp a)))
    rw [if_neg a, if_neg a, if_neg a]
    by_cases c : s0 = true
    · rw [if_pos c, if_pos c]; exact vA _ (k_1.mpr (Or.inr (h2.mp c)))
    rw [if_neg c, if_neg c, e1, bn5_]
    by_cases d : fX6_isWord 16 kd vl = true
    · rw [if_pos d, if_pos d]
      have hlt := nt_gt (f := s) (k_lt h.1 (by rw [k_2.mpr (w16.mp d)]; decide))
      obtain ⟨x1, x2, x3, x4, x5, x6, x7, x8, ok, k, b', p1, p2, p3, p4, p5, p6⟩ := rp_4 (len := len) (code := code) (fa := fa) hn hw hf e2
      rw [p1, bn9_]
      cases ok with
      | true =>
        obtain ⟨q1, q2, q3, q4⟩ := p6 rfl
        rw [if_pos rfl]
        have hz := wr1 (x := -5) (len := x1) (code := x2)
        generalize fX0_write (-5) x1 x2 = zz at hz ⊢
        obtain ⟨z1, z2⟩ := zz
        rw [bn2_]
        exact ⟨_, _, _, _, _, _, _, _, true, k, b', rfl, part_n (by decide) (k_2.mpr (w16.mp d)) p2, by omega, p4, fun z => Bool.noConfusion z, fun _ => ⟨q1, by omega, q3, hz⟩⟩
      | false =>
        rw [if_neg (by decide)]
        exact ⟨_, _, _, _, _, _, _, _, false, k, b', rfl, part_n (by decide) (k_2.mpr (w16.mp d)) p2, by omega, p4, p5, fun z => Bool.noConfusion z⟩
    rw [if_neg d, if_neg d, bn1_]
    by_cases e : fX6_isSign 40 kd vl = true
    · rw [if_pos e]
      have k3 := k_3.mpr ((c_sign h).mp e)
      have hlt := nt_gt (f := s) (k_lt h.1 (by rw [k3]; decide))
      unfold fX0_readPart_3_J142a
      obtain ⟨x1, x2, x3, x4, x5, x6, x7, x8, ok, k, b', p1, p2, p3, p4, p5, p6⟩ := ro_1_4 (len := len) (code := code) (fa := fa) hn hw hf e2
      rw [p1, bn9_]
      cases ok with
      | true =>
        obtain ⟨q1, q2, q3, q4⟩ := p6 rfl
        subst q1
        rw [if_pos rfl]
        unfold fX6_takeSign
        rw [bn1_]
        by_cases y : fX6_isSign 41 x5 x6 = true
        · have k4 := k_4.mpr ((c_sign p4).mp y)
          obtain ⟨c1, c2, c3, c4, c5, g1, g2⟩ := c_adv hn hw hf p4
          rw [if_pos y, g1, bn5_, bn7_, if_pos rfl]
          have := nt_gt (f := s) (k_lt p4.1 (by rw [k4]; decide))
          exact ⟨_, _, _, _, _, _, _, _, true, 0, _, rfl, part_ot (by decide) k3 p2 k4, by omega, g2, fun z => Bool.noConfusion z, fun _ => ⟨rfl, by omega, q3, q4⟩⟩
        · rw [if_neg y, c_wrong p4 1, bn2_, bn7_, if_neg (by decide)]
          exact ⟨_, _, _, _, _, _, _, _, false, 1, b', rfl, part_on (by decide) k3 p2 (fun z => y ((c_sign p4).mpr (k_4.mp z))), by omega, p4, fun _ => ⟨rfl, by decide⟩, fun z => Bool.noConfusion z⟩
      | false =>
        rw [if_neg (by decide)]
        exact ⟨_, _, _, _, _, _, _, _, false, k, b', rfl, part_of (by decide) k3 p2, by omega, p4, p5, fun z => Bool.noConfusion z⟩
    rw [if_neg e, c_wrong h 1, bn2_]
    refine ⟨_, _, _, _, _, _, _, _, false, 1, b, rfl, part_1 ?_, Nat.le_refl b, h, fun _ => ⟨rfl, by decide⟩, fun z => Bool.noConfusion z⟩
    rintro (y | y | y)
    · rcases k_1.mp y with z | z
      · exact a (h1.mpr z)
      · exact c (h2.mpr z)
    · exact d (w16.mpr (k_2.mp y))
    · exact e ((c_sign h).mpr (k_3.mp y))
  unfold fX0_readPart_3
  rw [bn1_, bn1_, c_num h]
  by_cases q : fX6_wordHere kd vl < 19
  · rw [if_pos q]
    exact key _ _ decide_eq_true_iff ⟨fun z => Bool.noConfusion z, fun z => absurd q ((c_fact h).mpr z)⟩
  · rw [if_neg q]
    exact key _ _ decide_eq_true_iff ⟨fun _ => (c_fact h).mp q, fun _ => rfl⟩
theorem ro_5_3 {s : Nat → Int32} {n b nx : Nat} {pl kd vl fa : Int32} {lt : Int64} {w : Nat → Int64} {f code : Nat → Int32} {len : Nat} (hn : n ≤ 1000) (hw : WT w) (hf : SG f s) (h : CT s n b nx pl kd vl lt) : RP (OverIs (kt s n) (nt s n) 5 3 b) s n b fa (fX0_readOver_5_3 len code n nx pl kd vl lt fa s w f) := by
  obtain ⟨x1, x2, x3, x4, x5, x6, x7, x8, ok, kk, b', p1, p2, p3, p4, p5, p6⟩ := rp_3 (len := len) (code := code) (fa := fa) hn hw hf h
  unfold fX0_readOver_5_3
  rw [p1, bn9_]
  cases ok with
  | true =>
    obtain ⟨q1, q2, q3, q4⟩ := p6 rfl
    subst q1
    rw [if_pos rfl]
    show RP _ s n b fa (fX0_readOver_5_3_B17a x1 x2 x3 x4 x5 x6 x7 x8 _ 0)
    unfold fX0_readOver_5_3_B17a fX0_readOver_5_3_J51a
    have hb4 := bnd_le (k := kt s n b')
    rw [if_neg (by decide), bn1_, bn1_, opT p4, if_pos (by rw [Int32.lt_iff_toInt_lt, nI_toInt (by omega), show Int32.toInt 5 = 5 by decide]; omega)]
    exact ⟨_, _, _, _, _, _, _, _, true, 0, b', rfl, ov_stop (ov_start p2) (Or.inl (by omega)), p3, p4, fun z => Bool.noConfusion z, fun _ => ⟨rfl, q2, q3, q4⟩⟩
  | false =>
    rw [if_neg (by decide)]
    exact ⟨_, _, _, _, _, _, _, _, false, kk, b', rfl, ov_fail0 p2, p3, p4, p5, fun z => Bool.noConfusion z⟩
set_option maxHeartbeats 4000000 in
theorem ol_4_3 {s : Nat → Int32} {n b0 : Nat} {w : Nat → Int64} {f : Nat → Int32} (hn : n ≤ 1000) (hw : WT w) (hf : SG f s) : ∀ k z i most len code b nx pl kd vl lt fa, 1000 + 1 - i < k → i ≤ b → CT s n b nx pl kd vl lt → OvL (kt s n) (nt s n) 4 3 b0 b most → b0 < b → most ≤ 4 → 1 ≤ len → RP (OverIs (kt s n) (nt s n) 4 3 b0) s n b0 fa (lp z (fX0_readOver_4_3_B17a n s w f) k (nI most) i len code nx pl kd vl lt fa) := by
  intro k
  induction k with
  | zero => intro z i most len code b nx pl kd vl lt fa q; exact absurd q (Nat.not_lt_zero _)
  | succ k ih =>
    intro z i most len code b nx pl kd vl lt fa hk hi h hO hb0 hm4 hln
    show RP _ s n b0 fa (fX0_readOver_4_3_B17a n s w f (lp z (fX0_readOver_4_3_B17a n s w f) k) (nI most) i len code nx pl kd vl lt fa)
    have ih := fun i most len code b nx pl kd vl lt fa => ih z i most len code b nx pl kd vl lt fa
    generalize lp z (fX0_readOver_4_3_B17a n s w f) k = rc at ih ⊢
    have hb4 := bnd_le (k := kt s n b)
    have hbn := h.1
    have stop : (bnd (kt s n b) < 4 ∨ most < bnd (kt s n b)) → RP (OverIs (kt s n) (nt s n) 4 3 b0) s n b0 fa (len, code, nx, pl, kd, vl, lt, fa, true) := fun y => ⟨_, _, _, _, _, _, _, _, true, 0, b, rfl, ov_stop hO y, Nat.le_of_lt hb0, h, fun z => Bool.noConfusion z, fun _ => ⟨rfl, hb0, rfl, hln⟩⟩
    unfold fX0_readOver_4_3_B17a fX0_readOver_4_3_J51a
    by_cases h1 : 1000 ≤ i
    · rw [if_pos h1]
      have e : b = n := by omega
      refine stop (Or.inl ?_)
      rw [kt_0 (by unfold tK; rw [if_pos e]; decide)]
      decide
    rw [if_neg h1, bn1_, bn1_, opT h]
    by_cases ht : bnd (kt s n b) < 4
    · rw [if_pos (by rw [Int32.lt_iff_toInt_lt, nI_toInt (by omega), show Int32.toInt 4 = 4 by decide]; omega)]
      exact stop (Or.inl ht)
    · rw [if_neg (show ¬ (nI (bnd (kt s n b)) < 4) from fun z => by rw [Int32.lt_iff_toInt_lt, nI_toInt (by omega), show Int32.toInt 4 = 4 by decide] at z; omega)]
      by_cases hm : most < bnd (kt s n b)
      · rw [if_neg (show ¬ (nI (bnd (kt s n b)) ≤ nI most) from fun z => by rw [Int32.le_iff_toInt_le, nI_toInt (by omega), nI_toInt (by omega)] at z; omega)]
        exact stop (Or.inr hm)
      rw [if_pos (by rw [Int32.le_iff_toInt_le, nI_toInt (by omega), nI_toInt (by omega)]; omega)]
      have hq : bnd (kt s n b) = 4 := by omega
      rcases hq with hq
      · have eb : bnd (kt s n b) = 4 := hq
        try rw [eb]
        obtain ⟨a1, a2, a3, a4, a5, e1, e2⟩ := c_adv hn hw hf h
        rw [e1, bn5_]
        obtain ⟨x1, x2, x3, x4, x5, x6, x7, x8, ok, kk, b', p1, p2, p3, p4, p5, p6⟩ := ro_5_3 (len := len) (code := code) (fa := fa) hn hw hf e2
        rw [p1, bn9_]
        have hlt := nt_gt (f := s) (k_lt h.1 (by intro z; rw [z] at eb; exact absurd eb (by decide)))
        have nx_ := ov_next (by decide) hO (by omega) (by omega) (by rw [eb]; exact p2)
        cases ok with
        | true =>
          obtain ⟨q1, q2, q3, q4⟩ := p6 rfl
          rw [if_pos rfl]
          have hz := wr1 (x := fX0_operatorAt kd vl) (len := x1) (code := x2)
          generalize fX0_write (fX0_operatorAt kd vl) x1 x2 = zz at hz ⊢
          obtain ⟨z1, z2⟩ := zz
          rw [bn2_]
          unfold fX0_readOver_4_3_J93a
          have hO' := nx_.1 rfl
          rw [eb] at hO'
          have r := ih (i + 1) 4 z1 z2 b' x3 x4 x5 x6 x7 x8 (by omega) (by omega) p4 hO' (by omega) (by decide) hz
          obtain ⟨y1, y2, y3, y4, y5, y6, y7, y8, y9, y10, y11, g1, g2, g3, g4, g5, g6⟩ := r
          exact ⟨y1, y2, y3, y4, y5, y6, y7, y8, y9, y10, y11, g1, g2, by omega, g4, g5, fun z => ⟨(g6 z).1, (g6 z).2.1, (g6 z).2.2.1.trans q3, (g6 z).2.2.2⟩⟩
        | false =>
          rw [if_neg (by decide)]
          exact ⟨_, _, _, _, _, _, _, _, false, kk, b', rfl, nx_.2 rfl, by omega, p4, p5, fun z => Bool.noConfusion z⟩
theorem ro_4_3 {s : Nat → Int32} {n b nx : Nat} {pl kd vl fa : Int32} {lt : Int64} {w : Nat → Int64} {f code : Nat → Int32} {len : Nat} (hn : n ≤ 1000) (hw : WT w) (hf : SG f s) (h : CT s n b nx pl kd vl lt) : RP (OverIs (kt s n) (nt s n) 4 3 b) s n b fa (fX0_readOver_4_3 len code n nx pl kd vl lt fa s w f) := by
  obtain ⟨x1, x2, x3, x4, x5, x6, x7, x8, ok, kk, b', p1, p2, p3, p4, p5, p6⟩ := rp_3 (len := len) (code := code) (fa := fa) hn hw hf h
  unfold fX0_readOver_4_3
  rw [p1, bn9_]
  cases ok with
  | true =>
    obtain ⟨q1, q2, q3, q4⟩ := p6 rfl
    subst q1
    rw [if_pos rfl, ← q3]
    exact ol_4_3 hn hw hf _ _ 0 4 x1 x2 b' x3 x4 x5 x6 x7 x8 (by omega) (by omega) p4 (ov_start p2) q2 (by decide) q4
  | false =>
    rw [if_neg (by decide)]
    exact ⟨_, _, _, _, _, _, _, _, false, kk, b', rfl, ov_fail0 p2, p3, p4, p5, fun z => Bool.noConfusion z⟩
set_option maxHeartbeats 4000000 in
theorem ol_3_3 {s : Nat → Int32} {n b0 : Nat} {w : Nat → Int64} {f : Nat → Int32} (hn : n ≤ 1000) (hw : WT w) (hf : SG f s) : ∀ k z i most len code b nx pl kd vl lt fa, 1000 + 1 - i < k → i ≤ b → CT s n b nx pl kd vl lt → OvL (kt s n) (nt s n) 3 3 b0 b most → b0 < b → most ≤ 4 → 1 ≤ len → RP (OverIs (kt s n) (nt s n) 3 3 b0) s n b0 fa (lp z (fX0_readOver_3_3_B17a n s w f) k (nI most) i len code nx pl kd vl lt fa) := by
  intro k
  induction k with
  | zero => intro z i most len code b nx pl kd vl lt fa q; exact absurd q (Nat.not_lt_zero _)
  | succ k ih =>
    intro z i most len code b nx pl kd vl lt fa hk hi h hO hb0 hm4 hln
    show RP _ s n b0 fa (fX0_readOver_3_3_B17a n s w f (lp z (fX0_readOver_3_3_B17a n s w f) k) (nI most) i len code nx pl kd vl lt fa)
    have ih := fun i most len code b nx pl kd vl lt fa => ih z i most len code b nx pl kd vl lt fa
    generalize lp z (fX0_readOver_3_3_B17a n s w f) k = rc at ih ⊢
    have hb4 := bnd_le (k := kt s n b)
    have hbn := h.1
    have stop : (bnd (kt s n b) < 3 ∨ most < bnd (kt s n b)) → RP (OverIs (kt s n) (nt s n) 3 3 b0) s n b0 fa (len, code, nx, pl, kd, vl, lt, fa, true) := fun y => ⟨_, _, _, _, _, _, _, _, true, 0, b, rfl, ov_stop hO y, Nat.le_of_lt hb0, h, fun z => Bool.noConfusion z, fun _ => ⟨rfl, hb0, rfl, hln⟩⟩
    unfold fX0_readOver_3_3_B17a fX0_readOver_3_3_J51a
    by_cases h1 : 1000 ≤ i
    · rw [if_pos h1]
      have e : b = n := by omega
      refine stop (Or.inl ?_)
      rw [kt_0 (by unfold tK; rw [if_pos e]; decide)]
      decide
    rw [if_neg h1, bn1_, bn1_, opT h]
    by_cases ht : bnd (kt s n b) < 3
    · rw [if_pos (by rw [Int32.lt_iff_toInt_lt, nI_toInt (by omega), show Int32.toInt 3 = 3 by decide]; omega)]
      exact stop (Or.inl ht)
    · rw [if_neg (show ¬ (nI (bnd (kt s n b)) < 3) from fun z => by rw [Int32.lt_iff_toInt_lt, nI_toInt (by omega), show Int32.toInt 3 = 3 by decide] at z; omega)]
      by_cases hm : most < bnd (kt s n b)
      · rw [if_neg (show ¬ (nI (bnd (kt s n b)) ≤ nI most) from fun z => by rw [Int32.le_iff_toInt_le, nI_toInt (by omega), nI_toInt (by omega)] at z; omega)]
        exact stop (Or.inr hm)
      rw [if_pos (by rw [Int32.le_iff_toInt_le, nI_toInt (by omega), nI_toInt (by omega)]; omega)]
      have hq : bnd (kt s n b) = 3 ∨ bnd (kt s n b) = 4 := by omega
      rcases hq with hq | hq
      · have eb : bnd (kt s n b) = 3 := hq
        try rw [eb]
        rw [if_pos (show (nI 3 : Int32) = 3 by decide)]
        obtain ⟨a1, a2, a3, a4, a5, e1, e2⟩ := c_adv hn hw hf h
        rw [e1, bn5_]
        obtain ⟨x1, x2, x3, x4, x5, x6, x7, x8, ok, kk, b', p1, p2, p3, p4, p5, p6⟩ := ro_4_3 (len := len) (code := code) (fa := fa) hn hw hf e2
        rw [p1, bn9_]
        have hlt := nt_gt (f := s) (k_lt h.1 (by intro z; rw [z] at eb; exact absurd eb (by decide)))
        have nx_ := ov_next (by decide) hO (by omega) (by omega) (by rw [eb]; exact p2)
        cases ok with
        | true =>
          obtain ⟨q1, q2, q3, q4⟩ := p6 rfl
          rw [if_pos rfl]
          have hz := wr1 (x := fX0_operatorAt kd vl) (len := x1) (code := x2)
          generalize fX0_write (fX0_operatorAt kd vl) x1 x2 = zz at hz ⊢
          obtain ⟨z1, z2⟩ := zz
          rw [bn2_]
          unfold fX0_readOver_3_3_J93a
          have hO' := nx_.1 rfl
          rw [eb] at hO'
          have r := ih (i + 1) 3 z1 z2 b' x3 x4 x5 x6 x7 x8 (by omega) (by omega) p4 hO' (by omega) (by decide) hz
          obtain ⟨y1, y2, y3, y4, y5, y6, y7, y8, y9, y10, y11, g1, g2, g3, g4, g5, g6⟩ := r
          exact ⟨y1, y2, y3, y4, y5, y6, y7, y8, y9, y10, y11, g1, g2, by omega, g4, g5, fun z => ⟨(g6 z).1, (g6 z).2.1, (g6 z).2.2.1.trans q3, (g6 z).2.2.2⟩⟩
        | false =>
          rw [if_neg (by decide)]
          exact ⟨_, _, _, _, _, _, _, _, false, kk, b', rfl, nx_.2 rfl, by omega, p4, p5, fun z => Bool.noConfusion z⟩
      · have eb : bnd (kt s n b) = 4 := hq
        try rw [eb]
        rw [if_neg (show ¬ ((nI 4 : Int32) = 3) by decide)]
        obtain ⟨a1, a2, a3, a4, a5, e1, e2⟩ := c_adv hn hw hf h
        rw [e1, bn5_]
        obtain ⟨x1, x2, x3, x4, x5, x6, x7, x8, ok, kk, b', p1, p2, p3, p4, p5, p6⟩ := ro_5_3 (len := len) (code := code) (fa := fa) hn hw hf e2
        rw [p1, bn9_]
        have hlt := nt_gt (f := s) (k_lt h.1 (by intro z; rw [z] at eb; exact absurd eb (by decide)))
        have nx_ := ov_next (by decide) hO (by omega) (by omega) (by rw [eb]; exact p2)
        cases ok with
        | true =>
          obtain ⟨q1, q2, q3, q4⟩ := p6 rfl
          rw [if_pos rfl]
          have hz := wr1 (x := fX0_operatorAt kd vl) (len := x1) (code := x2)
          generalize fX0_write (fX0_operatorAt kd vl) x1 x2 = zz at hz ⊢
          obtain ⟨z1, z2⟩ := zz
          rw [bn2_]
          unfold fX0_readOver_3_3_J93b
          have hO' := nx_.1 rfl
          rw [eb] at hO'
          have r := ih (i + 1) 4 z1 z2 b' x3 x4 x5 x6 x7 x8 (by omega) (by omega) p4 hO' (by omega) (by decide) hz
          obtain ⟨y1, y2, y3, y4, y5, y6, y7, y8, y9, y10, y11, g1, g2, g3, g4, g5, g6⟩ := r
          exact ⟨y1, y2, y3, y4, y5, y6, y7, y8, y9, y10, y11, g1, g2, by omega, g4, g5, fun z => ⟨(g6 z).1, (g6 z).2.1, (g6 z).2.2.1.trans q3, (g6 z).2.2.2⟩⟩
        | false =>
          rw [if_neg (by decide)]
          exact ⟨_, _, _, _, _, _, _, _, false, kk, b', rfl, nx_.2 rfl, by omega, p4, p5, fun z => Bool.noConfusion z⟩
theorem ro_3_3 {s : Nat → Int32} {n b nx : Nat} {pl kd vl fa : Int32} {lt : Int64} {w : Nat → Int64} {f code : Nat → Int32} {len : Nat} (hn : n ≤ 1000) (hw : WT w) (hf : SG f s) (h : CT s n b nx pl kd vl lt) : RP (OverIs (kt s n) (nt s n) 3 3 b) s n b fa (fX0_readOver_3_3 len code n nx pl kd vl lt fa s w f) := by
  obtain ⟨x1, x2, x3, x4, x5, x6, x7, x8, ok, kk, b', p1, p2, p3, p4, p5, p6⟩ := rp_3 (len := len) (code := code) (fa := fa) hn hw hf h
  unfold fX0_readOver_3_3
  rw [p1, bn9_]
  cases ok with
  | true =>
    obtain ⟨q1, q2, q3, q4⟩ := p6 rfl
    subst q1
    rw [if_pos rfl, ← q3]
    exact ol_3_3 hn hw hf _ _ 0 4 x1 x2 b' x3 x4 x5 x6 x7 x8 (by omega) (by omega) p4 (ov_start p2) q2 (by decide) q4
  | false =>
    rw [if_neg (by decide)]
    exact ⟨_, _, _, _, _, _, _, _, false, kk, b', rfl, ov_fail0 p2, p3, p4, p5, fun z => Bool.noConfusion z⟩
set_option maxHeartbeats 4000000 in
theorem ol_2_3 {s : Nat → Int32} {n b0 : Nat} {w : Nat → Int64} {f : Nat → Int32} (hn : n ≤ 1000) (hw : WT w) (hf : SG f s) : ∀ k z i most len code b nx pl kd vl lt fa, 1000 + 1 - i < k → i ≤ b → CT s n b nx pl kd vl lt → OvL (kt s n) (nt s n) 2 3 b0 b most → b0 < b → most ≤ 4 → 1 ≤ len → RP (OverIs (kt s n) (nt s n) 2 3 b0) s n b0 fa (lp z (fX0_readOver_2_3_B17a n s w f) k (nI most) i len code nx pl kd vl lt fa) := by
  intro k
  induction k with
  | zero => intro z i most len code b nx pl kd vl lt fa q; exact absurd q (Nat.not_lt_zero _)
  | succ k ih =>
    intro z i most len code b nx pl kd vl lt fa hk hi h hO hb0 hm4 hln
    show RP _ s n b0 fa (fX0_readOver_2_3_B17a n s w f (lp z (fX0_readOver_2_3_B17a n s w f) k) (nI most) i len code nx pl kd vl lt fa)
    have ih := fun i most len code b nx pl kd vl lt fa => ih z i most len code b nx pl kd vl lt fa
    generalize lp z (fX0_readOver_2_3_B17a n s w f) k = rc at ih ⊢
    have hb4 := bnd_le (k := kt s n b)
    have hbn := h.1
    have stop : (bnd (kt s n b) < 2 ∨ most < bnd (kt s n b)) → RP (OverIs (kt s n) (nt s n) 2 3 b0) s n b0 fa (len, code, nx, pl, kd, vl, lt, fa, true) := fun y => ⟨_, _, _, _, _, _, _, _, true, 0, b, rfl, ov_stop hO y, Nat.le_of_lt hb0, h, fun z => Bool.noConfusion z, fun _ => ⟨rfl, hb0, rfl, hln⟩⟩
    unfold fX0_readOver_2_3_B17a fX0_readOver_2_3_J51a
    by_cases h1 : 1000 ≤ i
    · rw [if_pos h1]
      have e : b = n := by omega
      refine stop (Or.inl ?_)
      rw [kt_0 (by unfold tK; rw [if_pos e]; decide)]
      decide
    rw [if_neg h1, bn1_, bn1_, opT h]
    by_cases ht : bnd (kt s n b) < 2
    · rw [if_pos (by rw [Int32.lt_iff_toInt_lt, nI_toInt (by omega), show Int32.toInt 2 = 2 by decide]; omega)]
      exact stop (Or.inl ht)
    · rw [if_neg (show ¬ (nI (bnd (kt s n b)) < 2) from fun z => by rw [Int32.lt_iff_toInt_lt, nI_toInt (by omega), show Int32.toInt 2 = 2 by decide] at z; omega)]
      by_cases hm : most < bnd (kt s n b)
      · rw [if_neg (show ¬ (nI (bnd (kt s n b)) ≤ nI most) from fun z => by rw [Int32.le_iff_toInt_le, nI_toInt (by omega), nI_toInt (by omega)] at z; omega)]
        exact stop (Or.inr hm)
      rw [if_pos (by rw [Int32.le_iff_toInt_le, nI_toInt (by omega), nI_toInt (by omega)]; omega)]
      have hq : bnd (kt s n b) = 2 ∨ bnd (kt s n b) = 3 ∨ bnd (kt s n b) = 4 := by omega
      rcases hq with hq | hq | hq
      · have eb : bnd (kt s n b) = 2 := hq
        try rw [eb]
        rw [if_pos (show (nI 2 : Int32) = 2 by decide)]
        obtain ⟨a1, a2, a3, a4, a5, e1, e2⟩ := c_adv hn hw hf h
        rw [e1, bn5_]
        obtain ⟨x1, x2, x3, x4, x5, x6, x7, x8, ok, kk, b', p1, p2, p3, p4, p5, p6⟩ := ro_3_3 (len := len) (code := code) (fa := fa) hn hw hf e2
        rw [p1, bn9_]
        have hlt := nt_gt (f := s) (k_lt h.1 (by intro z; rw [z] at eb; exact absurd eb (by decide)))
        have nx_ := ov_next (by decide) hO (by omega) (by omega) (by rw [eb]; exact p2)
        cases ok with
        | true =>
          obtain ⟨q1, q2, q3, q4⟩ := p6 rfl
          rw [if_pos rfl]
          have hz := wr1 (x := fX0_operatorAt kd vl) (len := x1) (code := x2)
          generalize fX0_write (fX0_operatorAt kd vl) x1 x2 = zz at hz ⊢
          obtain ⟨z1, z2⟩ := zz
          rw [bn2_]
          unfold fX0_readOver_2_3_J93a
          have hO' := nx_.1 rfl
          rw [eb] at hO'
          have r := ih (i + 1) 1 z1 z2 b' x3 x4 x5 x6 x7 x8 (by omega) (by omega) p4 hO' (by omega) (by decide) hz
          obtain ⟨y1, y2, y3, y4, y5, y6, y7, y8, y9, y10, y11, g1, g2, g3, g4, g5, g6⟩ := r
          exact ⟨y1, y2, y3, y4, y5, y6, y7, y8, y9, y10, y11, g1, g2, by omega, g4, g5, fun z => ⟨(g6 z).1, (g6 z).2.1, (g6 z).2.2.1.trans q3, (g6 z).2.2.2⟩⟩
        | false =>
          rw [if_neg (by decide)]
          exact ⟨_, _, _, _, _, _, _, _, false, kk, b', rfl, nx_.2 rfl, by omega, p4, p5, fun z => Bool.noConfusion z⟩
      · have eb : bnd (kt s n b) = 3 := hq
        try rw [eb]
        rw [if_neg (show ¬ ((nI 3 : Int32) = 2) by decide)]
        rw [if_pos (show (nI 3 : Int32) = 3 by decide)]
        obtain ⟨a1, a2, a3, a4, a5, e1, e2⟩ := c_adv hn hw hf h
        rw [e1, bn5_]
        obtain ⟨x1, x2, x3, x4, x5, x6, x7, x8, ok, kk, b', p1, p2, p3, p4, p5, p6⟩ := ro_4_3 (len := len) (code := code) (fa := fa) hn hw hf e2
        rw [p1, bn9_]
        have hlt := nt_gt (f := s) (k_lt h.1 (by intro z; rw [z] at eb; exact absurd eb (by decide)))
        have nx_ := ov_next (by decide) hO (by omega) (by omega) (by rw [eb]; exact p2)
        cases ok with
        | true =>
          obtain ⟨q1, q2, q3, q4⟩ := p6 rfl
          rw [if_pos rfl]
          have hz := wr1 (x := fX0_operatorAt kd vl) (len := x1) (code := x2)
          generalize fX0_write (fX0_operatorAt kd vl) x1 x2 = zz at hz ⊢
          obtain ⟨z1, z2⟩ := zz
          rw [bn2_]
          unfold fX0_readOver_2_3_J93b
          have hO' := nx_.1 rfl
          rw [eb] at hO'
          have r := ih (i + 1) 3 z1 z2 b' x3 x4 x5 x6 x7 x8 (by omega) (by omega) p4 hO' (by omega) (by decide) hz
          obtain ⟨y1, y2, y3, y4, y5, y6, y7, y8, y9, y10, y11, g1, g2, g3, g4, g5, g6⟩ := r
          exact ⟨y1, y2, y3, y4, y5, y6, y7, y8, y9, y10, y11, g1, g2, by omega, g4, g5, fun z => ⟨(g6 z).1, (g6 z).2.1, (g6 z).2.2.1.trans q3, (g6 z).2.2.2⟩⟩
        | false =>
          rw [if_neg (by decide)]
          exact ⟨_, _, _, _, _, _, _, _, false, kk, b', rfl, nx_.2 rfl, by omega, p4, p5, fun z => Bool.noConfusion z⟩
      · have eb : bnd (kt s n b) = 4 := hq
        try rw [eb]
        rw [if_neg (show ¬ ((nI 4 : Int32) = 2) by decide)]
        rw [if_neg (show ¬ ((nI 4 : Int32) = 3) by decide)]
        obtain ⟨a1, a2, a3, a4, a5, e1, e2⟩ := c_adv hn hw hf h
        rw [e1, bn5_]
        obtain ⟨x1, x2, x3, x4, x5, x6, x7, x8, ok, kk, b', p1, p2, p3, p4, p5, p6⟩ := ro_5_3 (len := len) (code := code) (fa := fa) hn hw hf e2
        rw [p1, bn9_]
        have hlt := nt_gt (f := s) (k_lt h.1 (by intro z; rw [z] at eb; exact absurd eb (by decide)))
        have nx_ := ov_next (by decide) hO (by omega) (by omega) (by rw [eb]; exact p2)
        cases ok with
        | true =>
          obtain ⟨q1, q2, q3, q4⟩ := p6 rfl
          rw [if_pos rfl]
          have hz := wr1 (x := fX0_operatorAt kd vl) (len := x1) (code := x2)
          generalize fX0_write (fX0_operatorAt kd vl) x1 x2 = zz at hz ⊢
          obtain ⟨z1, z2⟩ := zz
          rw [bn2_]
          unfold fX0_readOver_2_3_J93c
          have hO' := nx_.1 rfl
          rw [eb] at hO'
          have r := ih (i + 1) 4 z1 z2 b' x3 x4 x5 x6 x7 x8 (by omega) (by omega) p4 hO' (by omega) (by decide) hz
          obtain ⟨y1, y2, y3, y4, y5, y6, y7, y8, y9, y10, y11, g1, g2, g3, g4, g5, g6⟩ := r
          exact ⟨y1, y2, y3, y4, y5, y6, y7, y8, y9, y10, y11, g1, g2, by omega, g4, g5, fun z => ⟨(g6 z).1, (g6 z).2.1, (g6 z).2.2.1.trans q3, (g6 z).2.2.2⟩⟩
        | false =>
          rw [if_neg (by decide)]
          exact ⟨_, _, _, _, _, _, _, _, false, kk, b', rfl, nx_.2 rfl, by omega, p4, p5, fun z => Bool.noConfusion z⟩
theorem ro_2_3 {s : Nat → Int32} {n b nx : Nat} {pl kd vl fa : Int32} {lt : Int64} {w : Nat → Int64} {f code : Nat → Int32} {len : Nat} (hn : n ≤ 1000) (hw : WT w) (hf : SG f s) (h : CT s n b nx pl kd vl lt) : RP (OverIs (kt s n) (nt s n) 2 3 b) s n b fa (fX0_readOver_2_3 len code n nx pl kd vl lt fa s w f) := by
  obtain ⟨x1, x2, x3, x4, x5, x6, x7, x8, ok, kk, b', p1, p2, p3, p4, p5, p6⟩ := rp_3 (len := len) (code := code) (fa := fa) hn hw hf h
  unfold fX0_readOver_2_3
  rw [p1, bn9_]
  cases ok with
  | true =>
    obtain ⟨q1, q2, q3, q4⟩ := p6 rfl
    subst q1
    rw [if_pos rfl, ← q3]
    exact ol_2_3 hn hw hf _ _ 0 4 x1 x2 b' x3 x4 x5 x6 x7 x8 (by omega) (by omega) p4 (ov_start p2) q2 (by decide) q4
  | false =>
    rw [if_neg (by decide)]
    exact ⟨_, _, _, _, _, _, _, _, false, kk, b', rfl, ov_fail0 p2, p3, p4, p5, fun z => Bool.noConfusion z⟩
set_option maxHeartbeats 4000000 in
theorem ol_1_3 {s : Nat → Int32} {n b0 : Nat} {w : Nat → Int64} {f : Nat → Int32} (hn : n ≤ 1000) (hw : WT w) (hf : SG f s) : ∀ k z i most len code b nx pl kd vl lt fa, 1000 + 1 - i < k → i ≤ b → CT s n b nx pl kd vl lt → OvL (kt s n) (nt s n) 1 3 b0 b most → b0 < b → most ≤ 4 → 1 ≤ len → RP (OverIs (kt s n) (nt s n) 1 3 b0) s n b0 fa (lp z (fX0_readOver_1_3_B17a n s w f) k (nI most) i len code nx pl kd vl lt fa) := by
  intro k
  induction k with
  | zero => intro z i most len code b nx pl kd vl lt fa q; exact absurd q (Nat.not_lt_zero _)
  | succ k ih =>
    intro z i most len code b nx pl kd vl lt fa hk hi h hO hb0 hm4 hln
    show RP _ s n b0 fa (fX0_readOver_1_3_B17a n s w f (lp z (fX0_readOver_1_3_B17a n s w f) k) (nI most) i len code nx pl kd vl lt fa)
    have ih := fun i most len code b nx pl kd vl lt fa => ih z i most len code b nx pl kd vl lt fa
    generalize lp z (fX0_readOver_1_3_B17a n s w f) k = rc at ih ⊢
    have hb4 := bnd_le (k := kt s n b)
    have hbn := h.1
    have stop : (bnd (kt s n b) < 1 ∨ most < bnd (kt s n b)) → RP (OverIs (kt s n) (nt s n) 1 3 b0) s n b0 fa (len, code, nx, pl, kd, vl, lt, fa, true) := fun y => ⟨_, _, _, _, _, _, _, _, true, 0, b, rfl, ov_stop hO y, Nat.le_of_lt hb0, h, fun z => Bool.noConfusion z, fun _ => ⟨rfl, hb0, rfl, hln⟩⟩
    unfold fX0_readOver_1_3_B17a fX0_readOver_1_3_J51a
    by_cases h1 : 1000 ≤ i
    · rw [if_pos h1]
      have e : b = n := by omega
      refine stop (Or.inl ?_)
      rw [kt_0 (by unfold tK; rw [if_pos e]; decide)]
      decide
    rw [if_neg h1, bn1_, bn1_, opT h]
    by_cases ht : bnd (kt s n b) < 1
    · rw [if_pos (by rw [Int32.lt_iff_toInt_lt, nI_toInt (by omega), show Int32.toInt 1 = 1 by decide]; omega)]
      exact stop (Or.inl ht)
    · rw [if_neg (show ¬ (nI (bnd (kt s n b)) < 1) from fun z => by rw [Int32.lt_iff_toInt_lt, nI_toInt (by omega), show Int32.toInt 1 = 1 by decide] at z; omega)]
      by_cases hm : most < bnd (kt s n b)
      · rw [if_neg (show ¬ (nI (bnd (kt s n b)) ≤ nI most) from fun z => by rw [Int32.le_iff_toInt_le, nI_toInt (by omega), nI_toInt (by omega)] at z; omega)]
        exact stop (Or.inr hm)
      rw [if_pos (by rw [Int32.le_iff_toInt_le, nI_toInt (by omega), nI_toInt (by omega)]; omega)]
      have hq : bnd (kt s n b) = 1 ∨ bnd (kt s n b) = 2 ∨ bnd (kt s n b) = 3 ∨ bnd (kt s n b) = 4 := by omega
      rcases hq with hq | hq | hq | hq
      · have eb : bnd (kt s n b) = 1 := hq
        try rw [eb]
        rw [if_pos (show (nI 1 : Int32) = 1 by decide)]
        obtain ⟨a1, a2, a3, a4, a5, e1, e2⟩ := c_adv hn hw hf h
        rw [e1, bn5_]
        obtain ⟨x1, x2, x3, x4, x5, x6, x7, x8, ok, kk, b', p1, p2, p3, p4, p5, p6⟩ := ro_2_3 (len := len) (code := code) (fa := fa) hn hw hf e2
        rw [p1, bn9_]
        have hlt := nt_gt (f := s) (k_lt h.1 (by intro z; rw [z] at eb; exact absurd eb (by decide)))
        have nx_ := ov_next (by decide) hO (by omega) (by omega) (by rw [eb]; exact p2)
        cases ok with
        | true =>
          obtain ⟨q1, q2, q3, q4⟩ := p6 rfl
          rw [if_pos rfl]
          have hz := wr1 (x := fX0_operatorAt kd vl) (len := x1) (code := x2)
          generalize fX0_write (fX0_operatorAt kd vl) x1 x2 = zz at hz ⊢
          obtain ⟨z1, z2⟩ := zz
          rw [bn2_]
          unfold fX0_readOver_1_3_J93a
          have hO' := nx_.1 rfl
          rw [eb] at hO'
          have r := ih (i + 1) 1 z1 z2 b' x3 x4 x5 x6 x7 x8 (by omega) (by omega) p4 hO' (by omega) (by decide) hz
          obtain ⟨y1, y2, y3, y4, y5, y6, y7, y8, y9, y10, y11, g1, g2, g3, g4, g5, g6⟩ := r
          exact ⟨y1, y2, y3, y4, y5, y6, y7, y8, y9, y10, y11, g1, g2, by omega, g4, g5, fun z => ⟨(g6 z).1, (g6 z).2.1, (g6 z).2.2.1.trans q3, (g6 z).2.2.2⟩⟩
        | false =>
          rw [if_neg (by decide)]
          exact ⟨_, _, _, _, _, _, _, _, false, kk, b', rfl, nx_.2 rfl, by omega, p4, p5, fun z => Bool.noConfusion z⟩
      · have eb : bnd (kt s n b) = 2 := hq
        try rw [eb]
        rw [if_neg (show ¬ ((nI 2 : Int32) = 1) by decide)]
        rw [if_pos (show (nI 2 : Int32) = 2 by decide)]
        obtain ⟨a1, a2, a3, a4, a5, e1, e2⟩ := c_adv hn hw hf h
        rw [e1, bn5_]
        obtain ⟨x1, x2, x3, x4, x5, x6, x7, x8, ok, kk, b', p1, p2, p3, p4, p5, p6⟩ := ro_3_3 (len := len) (code := code) (fa := fa) hn hw hf e2
        rw [p1, bn9_]
        have hlt := nt_gt (f := s) (k_lt h.1 (by intro z; rw [z] at eb; exact absurd eb (by decide)))
        have nx_ := ov_next (by decide) hO (by omega) (by omega) (by rw [eb]; exact p2)
        cases ok with
        | true =>
          obtain ⟨q1, q2, q3, q4⟩ := p6 rfl
          rw [if_pos rfl]
          have hz := wr1 (x := fX0_operatorAt kd vl) (len := x1) (code := x2)
          generalize fX0_write (fX0_operatorAt kd vl) x1 x2 = zz at hz ⊢
          obtain ⟨z1, z2⟩ := zz
          rw [bn2_]
          unfold fX0_readOver_1_3_J93b
          have hO' := nx_.1 rfl
          rw [eb] at hO'
          have r := ih (i + 1) 1 z1 z2 b' x3 x4 x5 x6 x7 x8 (by omega) (by omega) p4 hO' (by omega) (by decide) hz
          obtain ⟨y1, y2, y3, y4, y5, y6, y7, y8, y9, y10, y11, g1, g2, g3, g4, g5, g6⟩ := r
          exact ⟨y1, y2, y3, y4, y5, y6, y7, y8, y9, y10, y11, g1, g2, by omega, g4, g5, fun z => ⟨(g6 z).1, (g6 z).2.1, (g6 z).2.2.1.trans q3, (g6 z).2.2.2⟩⟩
        | false =>
          rw [if_neg (by decide)]
          exact ⟨_, _, _, _, _, _, _, _, false, kk, b', rfl, nx_.2 rfl, by omega, p4, p5, fun z => Bool.noConfusion z⟩
      · have eb : bnd (kt s n b) = 3 := hq
        try rw [eb]
        rw [if_neg (show ¬ ((nI 3 : Int32) = 1) by decide)]
        rw [if_neg (show ¬ ((nI 3 : Int32) = 2) by decide)]
        rw [if_pos (show (nI 3 : Int32) = 3 by decide)]
        obtain ⟨a1, a2, a3, a4, a5, e1, e2⟩ := c_adv hn hw hf h
        rw [e1, bn5_]
        obtain ⟨x1, x2, x3, x4, x5, x6, x7, x8, ok, kk, b', p1, p2, p3, p4, p5, p6⟩ := ro_4_3 (len := len) (code := code) (fa := fa) hn hw hf e2
        rw [p1, bn9_]
        have hlt := nt_gt (f := s) (k_lt h.1 (by intro z; rw [z] at eb; exact absurd eb (by decide)))
        have nx_ := ov_next (by decide) hO (by omega) (by omega) (by rw [eb]; exact p2)
        cases ok with
        | true =>
          obtain ⟨q1, q2, q3, q4⟩ := p6 rfl
          rw [if_pos rfl]
          have hz := wr1 (x := fX0_operatorAt kd vl) (len := x1) (code := x2)
          generalize fX0_write (fX0_operatorAt kd vl) x1 x2 = zz at hz ⊢
          obtain ⟨z1, z2⟩ := zz
          rw [bn2_]
          unfold fX0_readOver_1_3_J93c
          have hO' := nx_.1 rfl
          rw [eb] at hO'
          have r := ih (i + 1) 3 z1 z2 b' x3 x4 x5 x6 x7 x8 (by omega) (by omega) p4 hO' (by omega) (by decide) hz
          obtain ⟨y1, y2, y3, y4, y5, y6, y7, y8, y9, y10, y11, g1, g2, g3, g4, g5, g6⟩ := r
          exact ⟨y1, y2, y3, y4, y5, y6, y7, y8, y9, y10, y11, g1, g2, by omega, g4, g5, fun z => ⟨(g6 z).1, (g6 z).2.1, (g6 z).2.2.1.trans q3, (g6 z).2.2.2⟩⟩
        | false =>
          rw [if_neg (by decide)]
          exact ⟨_, _, _, _, _, _, _, _, false, kk, b', rfl, nx_.2 rfl, by omega, p4, p5, fun z => Bool.noConfusion z⟩
      · have eb : bnd (kt s n b) = 4 := hq
        try rw [eb]
        rw [if_neg (show ¬ ((nI 4 : Int32) = 1) by decide)]
        rw [if_neg (show ¬ ((nI 4 : Int32) = 2) by decide)]
        rw [if_neg (show ¬ ((nI 4 : Int32) = 3) by decide)]
        obtain ⟨a1, a2, a3, a4, a5, e1, e2⟩ := c_adv hn hw hf h
        rw [e1, bn5_]
        obtain ⟨x1, x2, x3, x4, x5, x6, x7, x8, ok, kk, b', p1, p2, p3, p4, p5, p6⟩ := ro_5_3 (len := len) (code := code) (fa := fa) hn hw hf e2
        rw [p1, bn9_]
        have hlt := nt_gt (f := s) (k_lt h.1 (by intro z; rw [z] at eb; exact absurd eb (by decide)))
        have nx_ := ov_next (by decide) hO (by omega) (by omega) (by rw [eb]; exact p2)
        cases ok with
        | true =>
          obtain ⟨q1, q2, q3, q4⟩ := p6 rfl
          rw [if_pos rfl]
          have hz := wr1 (x := fX0_operatorAt kd vl) (len := x1) (code := x2)
          generalize fX0_write (fX0_operatorAt kd vl) x1 x2 = zz at hz ⊢
          obtain ⟨z1, z2⟩ := zz
          rw [bn2_]
          unfold fX0_readOver_1_3_J93d
          have hO' := nx_.1 rfl
          rw [eb] at hO'
          have r := ih (i + 1) 4 z1 z2 b' x3 x4 x5 x6 x7 x8 (by omega) (by omega) p4 hO' (by omega) (by decide) hz
          obtain ⟨y1, y2, y3, y4, y5, y6, y7, y8, y9, y10, y11, g1, g2, g3, g4, g5, g6⟩ := r
          exact ⟨y1, y2, y3, y4, y5, y6, y7, y8, y9, y10, y11, g1, g2, by omega, g4, g5, fun z => ⟨(g6 z).1, (g6 z).2.1, (g6 z).2.2.1.trans q3, (g6 z).2.2.2⟩⟩
        | false =>
          rw [if_neg (by decide)]
          exact ⟨_, _, _, _, _, _, _, _, false, kk, b', rfl, nx_.2 rfl, by omega, p4, p5, fun z => Bool.noConfusion z⟩
theorem ro_1_3 {s : Nat → Int32} {n b nx : Nat} {pl kd vl fa : Int32} {lt : Int64} {w : Nat → Int64} {f code : Nat → Int32} {len : Nat} (hn : n ≤ 1000) (hw : WT w) (hf : SG f s) (h : CT s n b nx pl kd vl lt) : RP (OverIs (kt s n) (nt s n) 1 3 b) s n b fa (fX0_readOver_1_3 len code n nx pl kd vl lt fa s w f) := by
  obtain ⟨x1, x2, x3, x4, x5, x6, x7, x8, ok, kk, b', p1, p2, p3, p4, p5, p6⟩ := rp_3 (len := len) (code := code) (fa := fa) hn hw hf h
  unfold fX0_readOver_1_3
  rw [p1, bn9_]
  cases ok with
  | true =>
    obtain ⟨q1, q2, q3, q4⟩ := p6 rfl
    subst q1
    rw [if_pos rfl, ← q3]
    exact ol_1_3 hn hw hf _ _ 0 4 x1 x2 b' x3 x4 x5 x6 x7 x8 (by omega) (by omega) p4 (ov_start p2) q2 (by decide) q4
  | false =>
    rw [if_neg (by decide)]
    exact ⟨_, _, _, _, _, _, _, _, false, kk, b', rfl, ov_fail0 p2, p3, p4, p5, fun z => Bool.noConfusion z⟩
set_option maxHeartbeats 4000000 in
theorem rp_2 {s : Nat → Int32} {n b nx : Nat} {pl kd vl fa : Int32} {lt : Int64} {w : Nat → Int64} {f code : Nat → Int32} {len : Nat} (hn : n ≤ 1000) (hw : WT w) (hf : SG f s) (h : CT s n b nx pl kd vl lt) : RP (PartIs (kt s n) (nt s n) 2 b) s n b fa (fX0_readPart_2 len code n nx pl kd vl lt fa s w f) := by
  have w16 : fX6_isWord 16 kd vl = true ↔ tK s n b = 1 ∧ wo_ s n b = wd 16 := c_word h (j := 16) (by decide)
  obtain ⟨a1, a2, a3, a4, a5, e1, e2⟩ := c_adv hn hw hf h
  have vA : ∀ (x : Int32), kt s n b = 1 → RP (PartIs (kt s n) (nt s n) 2 b) s n b fa (fX0_readPart_2_J99a len code n nx lt fa s w f x) := by
    intro x k1
    unfold fX0_readPart_2_J99a
    have hz := wr1 (x := x) (len := len) (code := code)
    generalize fX0_write x len code = zz at hz ⊢
    obtain ⟨z1, z2⟩ := zz
    rw [bn2_, e1, bn5_]
    have hlt := nt_gt (f := s) (k_lt h.1 (by rw [k1]; decide))
    exact ⟨_, _, _, _, _, _, _, _, true, 0, _, rfl, part_v (by decide) k1, Nat.le_of_lt hlt, e2, fun z => Bool.noConfusion z, fun _ => ⟨rfl, hlt, rfl, hz⟩⟩
  have key : ∀ u1 s0 : Bool, (u1 = true ↔ tK s n b = 2) → (s0 = true ↔ tK s n b = 1 ∧ ∃ j, 19 ≤ j ∧ j < 23 ∧ wo_ s n b = wd j) → RP (PartIs (kt s n) (nt s n) 2 b) s n b fa (fX0_readPart_2_J19a len code n nx pl kd vl lt fa s w f u1 s0) := by
    intro u1 s0 h1 h2
    unfold fX0_readPart_2_J19a fX0_readPart_2_J58a fX0_readPart_2_J78a
    rw [bn1_]
    by_cases a : u1 = true
    · rw [if_pos a, if_pos a, if_pos a]; exact vA _ (k_1.mpr (Or.inl (h1.mp a)))
    rw [if_neg a, if_neg a, if_neg a]
    by_cases c : s0 = true
    · rw [if_pos c, if_pos c]; exact vA _ (k_1.mpr (Or.inr (h2.mp c)))
    rw [if_neg c, if_neg c, e1, bn5_]
    by_cases d : fX6_isWord 16 kd vl = true
    · rw [if_pos d, if_pos d]
      have hlt := nt_gt (f := s) (k_lt h.1 (by rw [k_2.mpr (w16.mp d)]; decide))
      obtain ⟨x1, x2, x3, x4, x5, x6, x7, x8, ok, k, b', p1, p2, p3, p4, p5, p6⟩ := rp_3 (len := len) (code := code) (fa := fa) hn hw hf e2
      rw [p1, bn9_]
      cases ok with
      | true =>
        obtain ⟨q1, q2, q3, q4⟩ := p6 rfl
        rw [if_pos rfl]
        have hz := wr1 (x := -5) (len := x1) (code := x2)
        generalize fX0_write (-5) x1 x2 = zz at hz ⊢
        obtain ⟨z1, z2⟩ := zz
        rw [bn2_]
        exact ⟨_, _, _, _, _, _, _, _, true, k, b', rfl, part_n (by decide) (k_2.mpr (w16.mp d)) p2, by omega, p4, fun z => Bool.noConfusion z, fun _ => ⟨q1, by omega, q3, hz⟩⟩
      | false =>
        rw [if_neg (by decide)]
        exact ⟨_, _, _, _, _, _, _, _, false, k, b', rfl, part_n (by decide) (k_2.mpr (w16.mp d)) p2, by omega, p4, p5, fun z => Bool.noConfusion z⟩
    rw [if_neg d, if_neg d, bn1_]
    by_cases e : fX6_isSign 40 kd vl = true
    · rw [if_pos e]
      have k3 := k_3.mpr ((c_sign h).mp e)
      have hlt := nt_gt (f := s) (k_lt h.1 (by rw [k3]; decide))
      unfold fX0_readPart_2_J142a
      obtain ⟨x1, x2, x3, x4, x5, x6, x7, x8, ok, k, b', p1, p2, p3, p4, p5, p6⟩ := ro_1_3 (len := len) (code := code) (fa := fa) hn hw hf e2
      rw [p1, bn9_]
      cases ok with
      | true =>
        obtain ⟨q1, q2, q3, q4⟩ := p6 rfl
        subst q1
        rw [if_pos rfl]
        unfold fX6_takeSign
        rw [bn1_]
        by_cases y : fX6_isSign 41 x5 x6 = true
        · have k4 := k_4.mpr ((c_sign p4).mp y)
          obtain ⟨c1, c2, c3, c4, c5, g1, g2⟩ := c_adv hn hw hf p4
          rw [if_pos y, g1, bn5_, bn7_, if_pos rfl]
          have := nt_gt (f := s) (k_lt p4.1 (by rw [k4]; decide))
          exact ⟨_, _, _, _, _, _, _, _, true, 0, _, rfl, part_ot (by decide) k3 p2 k4, by omega, g2, fun z => Bool.noConfusion z, fun _ => ⟨rfl, by omega, q3, q4⟩⟩
        · rw [if_neg y, c_wrong p4 1, bn2_, bn7_, if_neg (by decide)]
          exact ⟨_, _, _, _, _, _, _, _, false, 1, b', rfl, part_on (by decide) k3 p2 (fun z => y ((c_sign p4).mpr (k_4.mp z))), by omega, p4, fun _ => ⟨rfl, by decide⟩, fun z => Bool.noConfusion z⟩
      | false =>
        rw [if_neg (by decide)]
        exact ⟨_, _, _, _, _, _, _, _, false, k, b', rfl, part_of (by decide) k3 p2, by omega, p4, p5, fun z => Bool.noConfusion z⟩
    rw [if_neg e, c_wrong h 1, bn2_]
    refine ⟨_, _, _, _, _, _, _, _, false, 1, b, rfl, part_1 ?_, Nat.le_refl b, h, fun _ => ⟨rfl, by decide⟩, fun z => Bool.noConfusion z⟩
    rintro (y | y | y)
    · rcases k_1.mp y with z | z
      · exact a (h1.mpr z)
      · exact c (h2.mpr z)
    · exact d (w16.mpr (k_2.mp y))
    · exact e ((c_sign h).mpr (k_3.mp y))
  unfold fX0_readPart_2
  rw [bn1_, bn1_, c_num h]
  by_cases q : fX6_wordHere kd vl < 19
  · rw [if_pos q]
    exact key _ _ decide_eq_true_iff ⟨fun z => Bool.noConfusion z, fun z => absurd q ((c_fact h).mpr z)⟩
  · rw [if_neg q]
    exact key _ _ decide_eq_true_iff ⟨fun _ => (c_fact h).mp q, fun _ => rfl⟩
theorem ro_5_2 {s : Nat → Int32} {n b nx : Nat} {pl kd vl fa : Int32} {lt : Int64} {w : Nat → Int64} {f code : Nat → Int32} {len : Nat} (hn : n ≤ 1000) (hw : WT w) (hf : SG f s) (h : CT s n b nx pl kd vl lt) : RP (OverIs (kt s n) (nt s n) 5 2 b) s n b fa (fX0_readOver_5_2 len code n nx pl kd vl lt fa s w f) := by
  obtain ⟨x1, x2, x3, x4, x5, x6, x7, x8, ok, kk, b', p1, p2, p3, p4, p5, p6⟩ := rp_2 (len := len) (code := code) (fa := fa) hn hw hf h
  unfold fX0_readOver_5_2
  rw [p1, bn9_]
  cases ok with
  | true =>
    obtain ⟨q1, q2, q3, q4⟩ := p6 rfl
    subst q1
    rw [if_pos rfl]
    show RP _ s n b fa (fX0_readOver_5_2_B17a x1 x2 x3 x4 x5 x6 x7 x8 _ 0)
    unfold fX0_readOver_5_2_B17a fX0_readOver_5_2_J51a
    have hb4 := bnd_le (k := kt s n b')
    rw [if_neg (by decide), bn1_, bn1_, opT p4, if_pos (by rw [Int32.lt_iff_toInt_lt, nI_toInt (by omega), show Int32.toInt 5 = 5 by decide]; omega)]
    exact ⟨_, _, _, _, _, _, _, _, true, 0, b', rfl, ov_stop (ov_start p2) (Or.inl (by omega)), p3, p4, fun z => Bool.noConfusion z, fun _ => ⟨rfl, q2, q3, q4⟩⟩
  | false =>
    rw [if_neg (by decide)]
    exact ⟨_, _, _, _, _, _, _, _, false, kk, b', rfl, ov_fail0 p2, p3, p4, p5, fun z => Bool.noConfusion z⟩
set_option maxHeartbeats 4000000 in
theorem ol_4_2 {s : Nat → Int32} {n b0 : Nat} {w : Nat → Int64} {f : Nat → Int32} (hn : n ≤ 1000) (hw : WT w) (hf : SG f s) : ∀ k z i most len code b nx pl kd vl lt fa, 1000 + 1 - i < k → i ≤ b → CT s n b nx pl kd vl lt → OvL (kt s n) (nt s n) 4 2 b0 b most → b0 < b → most ≤ 4 → 1 ≤ len → RP (OverIs (kt s n) (nt s n) 4 2 b0) s n b0 fa (lp z (fX0_readOver_4_2_B17a n s w f) k (nI most) i len code nx pl kd vl lt fa) := by
  intro k
  induction k with
  | zero => intro z i most len code b nx pl kd vl lt fa q; exact absurd q (Nat.not_lt_zero _)
  | succ k ih =>
    intro z i most len code b nx pl kd vl lt fa hk hi h hO hb0 hm4 hln
    show RP _ s n b0 fa (fX0_readOver_4_2_B17a n s w f (lp z (fX0_readOver_4_2_B17a n s w f) k) (nI most) i len code nx pl kd vl lt fa)
    have ih := fun i most len code b nx pl kd vl lt fa => ih z i most len code b nx pl kd vl lt fa
    generalize lp z (fX0_readOver_4_2_B17a n s w f) k = rc at ih ⊢
    have hb4 := bnd_le (k := kt s n b)
    have hbn := h.1
    have stop : (bnd (kt s n b) < 4 ∨ most < bnd (kt s n b)) → RP (OverIs (kt s n) (nt s n) 4 2 b0) s n b0 fa (len, code, nx, pl, kd, vl, lt, fa, true) := fun y => ⟨_, _, _, _, _, _, _, _, true, 0, b, rfl, ov_stop hO y, Nat.le_of_lt hb0, h, fun z => Bool.noConfusion z, fun _ => ⟨rfl, hb0, rfl, hln⟩⟩
    unfold fX0_readOver_4_2_B17a fX0_readOver_4_2_J51a
    by_cases h1 : 1000 ≤ i
    · rw [if_pos h1]
      have e : b = n := by omega
      refine stop (Or.inl ?_)
      rw [kt_0 (by unfold tK; rw [if_pos e]; decide)]
      decide
    rw [if_neg h1, bn1_, bn1_, opT h]
    by_cases ht : bnd (kt s n b) < 4
    · rw [if_pos (by rw [Int32.lt_iff_toInt_lt, nI_toInt (by omega), show Int32.toInt 4 = 4 by decide]; omega)]
      exact stop (Or.inl ht)
    · rw [if_neg (show ¬ (nI (bnd (kt s n b)) < 4) from fun z => by rw [Int32.lt_iff_toInt_lt, nI_toInt (by omega), show Int32.toInt 4 = 4 by decide] at z; omega)]
      by_cases hm : most < bnd (kt s n b)
      · rw [if_neg (show ¬ (nI (bnd (kt s n b)) ≤ nI most) from fun z => by rw [Int32.le_iff_toInt_le, nI_toInt (by omega), nI_toInt (by omega)] at z; omega)]
        exact stop (Or.inr hm)
      rw [if_pos (by rw [Int32.le_iff_toInt_le, nI_toInt (by omega), nI_toInt (by omega)]; omega)]
      have hq : bnd (kt s n b) = 4 := by omega
      rcases hq with hq
      · have eb : bnd (kt s n b) = 4 := hq
        try rw [eb]
        obtain ⟨a1, a2, a3, a4, a5, e1, e2⟩ := c_adv hn hw hf h
        rw [e1, bn5_]
        obtain ⟨x1, x2, x3, x4, x5, x6, x7, x8, ok, kk, b', p1, p2, p3, p4, p5, p6⟩ := ro_5_2 (len := len) (code := code) (fa := fa) hn hw hf e2
        rw [p1, bn9_]
        have hlt := nt_gt (f := s) (k_lt h.1 (by intro z; rw [z] at eb; exact absurd eb (by decide)))
        have nx_ := ov_next (by decide) hO (by omega) (by omega) (by rw [eb]; exact p2)
        cases ok with
        | true =>
          obtain ⟨q1, q2, q3, q4⟩ := p6 rfl
          rw [if_pos rfl]
          have hz := wr1 (x := fX0_operatorAt kd vl) (len := x1) (code := x2)
          generalize fX0_write (fX0_operatorAt kd vl) x1 x2 = zz at hz ⊢
          obtain ⟨z1, z2⟩ := zz
          rw [bn2_]
          unfold fX0_readOver_4_2_J93a
          have hO' := nx_.1 rfl
          rw [eb] at hO'
          have r := ih (i + 1) 4 z1 z2 b' x3 x4 x5 x6 x7 x8 (by omega) (by omega) p4 hO' (by omega) (by decide) hz
          obtain ⟨y1, y2, y3, y4, y5, y6, y7, y8, y9, y10, y11, g1, g2, g3, g4, g5, g6⟩ := r
          exact ⟨y1, y2, y3, y4, y5, y6, y7, y8, y9, y10, y11, g1, g2, by omega, g4, g5, fun z => ⟨(g6 z).1, (g6 z).2.1, (g6 z).2.2.1.trans q3, (g6 z).2.2.2⟩⟩
        | false =>
          rw [if_neg (by decide)]
          exact ⟨_, _, _, _, _, _, _, _, false, kk, b', rfl, nx_.2 rfl, by omega, p4, p5, fun z => Bool.noConfusion z⟩
theorem ro_4_2 {s : Nat → Int32} {n b nx : Nat} {pl kd vl fa : Int32} {lt : Int64} {w : Nat → Int64} {f code : Nat → Int32} {len : Nat} (hn : n ≤ 1000) (hw : WT w) (hf : SG f s) (h : CT s n b nx pl kd vl lt) : RP (OverIs (kt s n) (nt s n) 4 2 b) s n b fa (fX0_readOver_4_2 len code n nx pl kd vl lt fa s w f) := by
  obtain ⟨x1, x2, x3, x4, x5, x6, x7, x8, ok, kk, b', p1, p2, p3, p4, p5, p6⟩ := rp_2 (len := len) (code := code) (fa := fa) hn hw hf h
  unfold fX0_readOver_4_2
  rw [p1, bn9_]
  cases ok with
  | true =>
    obtain ⟨q1, q2, q3, q4⟩ := p6 rfl
    subst q1
    rw [if_pos rfl, ← q3]
    exact ol_4_2 hn hw hf _ _ 0 4 x1 x2 b' x3 x4 x5 x6 x7 x8 (by omega) (by omega) p4 (ov_start p2) q2 (by decide) q4
  | false =>
    rw [if_neg (by decide)]
    exact ⟨_, _, _, _, _, _, _, _, false, kk, b', rfl, ov_fail0 p2, p3, p4, p5, fun z => Bool.noConfusion z⟩
set_option maxHeartbeats 4000000 in
theorem ol_3_2 {s : Nat → Int32} {n b0 : Nat} {w : Nat → Int64} {f : Nat → Int32} (hn : n ≤ 1000) (hw : WT w) (hf : SG f s) : ∀ k z i most len code b nx pl kd vl lt fa, 1000 + 1 - i < k → i ≤ b → CT s n b nx pl kd vl lt → OvL (kt s n) (nt s n) 3 2 b0 b most → b0 < b → most ≤ 4 → 1 ≤ len → RP (OverIs (kt s n) (nt s n) 3 2 b0) s n b0 fa (lp z (fX0_readOver_3_2_B17a n s w f) k (nI most) i len code nx pl kd vl lt fa) := by
  intro k
  induction k with
  | zero => intro z i most len code b nx pl kd vl lt fa q; exact absurd q (Nat.not_lt_zero _)
  | succ k ih =>
    intro z i most len code b nx pl kd vl lt fa hk hi h hO hb0 hm4 hln
    show RP _ s n b0 fa (fX0_readOver_3_2_B17a n s w f (lp z (fX0_readOver_3_2_B17a n s w f) k) (nI most) i len code nx pl kd vl lt fa)
    have ih := fun i most len code b nx pl kd vl lt fa => ih z i most len code b nx pl kd vl lt fa
    generalize lp z (fX0_readOver_3_2_B17a n s w f) k = rc at ih ⊢
    have hb4 := bnd_le (k := kt s n b)
    have hbn := h.1
    have stop : (bnd (kt s n b) < 3 ∨ most < bnd (kt s n b)) → RP (OverIs (kt s n) (nt s n) 3 2 b0) s n b0 fa (len, code, nx, pl, kd, vl, lt, fa, true) := fun y => ⟨_, _, _, _, _, _, _, _, true, 0, b, rfl, ov_stop hO y, Nat.le_of_lt hb0, h, fun z => Bool.noConfusion z, fun _ => ⟨rfl, hb0, rfl, hln⟩⟩
    unfold fX0_readOver_3_2_B17a fX0_readOver_3_2_J51a
    by_cases h1 : 1000 ≤ i
    · rw [if_pos h1]
      have e : b = n := by omega
      refine stop (Or.inl ?_)
      rw [kt_0 (by unfold tK; rw [if_pos e]; decide)]
      decide
    rw [if_neg h1, bn1_, bn1_, opT h]
    by_cases ht : bnd (kt s n b) < 3
    · rw [if_pos (by rw [Int32.lt_iff_toInt_lt, nI_toInt (by omega), show Int32.toInt 3 = 3 by decide]; omega)]
      exact stop (Or.inl ht)
    · rw [if_neg (show ¬ (nI (bnd (kt s n b)) < 3) from fun z => by rw [Int32.lt_iff_toInt_lt, nI_toInt (by omega), show Int32.toInt 3 = 3 by decide] at z; omega)]
      by_cases hm : most < bnd (kt s n b)
      · rw [if_neg (show ¬ (nI (bnd (kt s n b)) ≤ nI most) from fun z => by rw [Int32.le_iff_toInt_le, nI_toInt (by omega), nI_toInt (by omega)] at z; omega)]
        exact stop (Or.inr hm)
      rw [if_pos (by rw [Int32.le_iff_toInt_le, nI_toInt (by omega), nI_toInt (by omega)]; omega)]
      have hq : bnd (kt s n b) = 3 ∨ bnd (kt s n b) = 4 := by omega
      rcases hq with hq | hq
      · have eb : bnd (kt s n b) = 3 := hq
        try rw [eb]
        rw [if_pos (show (nI 3 : Int32) = 3 by decide)]
        obtain ⟨a1, a2, a3, a4, a5, e1, e2⟩ := c_adv hn hw hf h
        rw [e1, bn5_]
        obtain ⟨x1, x2, x3, x4, x5, x6, x7, x8, ok, kk, b', p1, p2, p3, p4, p5, p6⟩ := ro_4_2 (len := len) (code := code) (fa := fa) hn hw hf e2
        rw [p1, bn9_]
        have hlt := nt_gt (f := s) (k_lt h.1 (by intro z; rw [z] at eb; exact absurd eb (by decide)))
        have nx_ := ov_next (by decide) hO (by omega) (by omega) (by rw [eb]; exact p2)
        cases ok with
        | true =>
          obtain ⟨q1, q2, q3, q4⟩ := p6 rfl
          rw [if_pos rfl]
          have hz := wr1 (x := fX0_operatorAt kd vl) (len := x1) (code := x2)
          generalize fX0_write (fX0_operatorAt kd vl) x1 x2 = zz at hz ⊢
          obtain ⟨z1, z2⟩ := zz
          rw [bn2_]
          unfold fX0_readOver_3_2_J93a
          have hO' := nx_.1 rfl
          rw [eb] at hO'
          have r := ih (i + 1) 3 z1 z2 b' x3 x4 x5 x6 x7 x8 (by omega) (by omega) p4 hO' (by omega) (by decide) hz
          obtain ⟨y1, y2, y3, y4, y5, y6, y7, y8, y9, y10, y11, g1, g2, g3, g4, g5, g6⟩ := r
          exact ⟨y1, y2, y3, y4, y5, y6, y7, y8, y9, y10, y11, g1, g2, by omega, g4, g5, fun z => ⟨(g6 z).1, (g6 z).2.1, (g6 z).2.2.1.trans q3, (g6 z).2.2.2⟩⟩
        | false =>
          rw [if_neg (by decide)]
          exact ⟨_, _, _, _, _, _, _, _, false, kk, b', rfl, nx_.2 rfl, by omega, p4, p5, fun z => Bool.noConfusion z⟩
      · have eb : bnd (kt s n b) = 4 := hq
        try rw [eb]
        rw [if_neg (show ¬ ((nI 4 : Int32) = 3) by decide)]
        obtain ⟨a1, a2, a3, a4, a5, e1, e2⟩ := c_adv hn hw hf h
        rw [e1, bn5_]
        obtain ⟨x1, x2, x3, x4, x5, x6, x7, x8, ok, kk, b', p1, p2, p3, p4, p5, p6⟩ := ro_5_2 (len := len) (code := code) (fa := fa) hn hw hf e2
        rw [p1, bn9_]
        have hlt := nt_gt (f := s) (k_lt h.1 (by intro z; rw [z] at eb; exact absurd eb (by decide)))
        have nx_ := ov_next (by decide) hO (by omega) (by omega) (by rw [eb]; exact p2)
        cases ok with
        | true =>
          obtain ⟨q1, q2, q3, q4⟩ := p6 rfl
          rw [if_pos rfl]
          have hz := wr1 (x := fX0_operatorAt kd vl) (len := x1) (code := x2)
          generalize fX0_write (fX0_operatorAt kd vl) x1 x2 = zz at hz ⊢
          obtain ⟨z1, z2⟩ := zz
          rw [bn2_]
          unfold fX0_readOver_3_2_J93b
          have hO' := nx_.1 rfl
          rw [eb] at hO'
          have r := ih (i + 1) 4 z1 z2 b' x3 x4 x5 x6 x7 x8 (by omega) (by omega) p4 hO' (by omega) (by decide) hz
          obtain ⟨y1, y2, y3, y4, y5, y6, y7, y8, y9, y10, y11, g1, g2, g3, g4, g5, g6⟩ := r
          exact ⟨y1, y2, y3, y4, y5, y6, y7, y8, y9, y10, y11, g1, g2, by omega, g4, g5, fun z => ⟨(g6 z).1, (g6 z).2.1, (g6 z).2.2.1.trans q3, (g6 z).2.2.2⟩⟩
        | false =>
          rw [if_neg (by decide)]
          exact ⟨_, _, _, _, _, _, _, _, false, kk, b', rfl, nx_.2 rfl, by omega, p4, p5, fun z => Bool.noConfusion z⟩
theorem ro_3_2 {s : Nat → Int32} {n b nx : Nat} {pl kd vl fa : Int32} {lt : Int64} {w : Nat → Int64} {f code : Nat → Int32} {len : Nat} (hn : n ≤ 1000) (hw : WT w) (hf : SG f s) (h : CT s n b nx pl kd vl lt) : RP (OverIs (kt s n) (nt s n) 3 2 b) s n b fa (fX0_readOver_3_2 len code n nx pl kd vl lt fa s w f) := by
  obtain ⟨x1, x2, x3, x4, x5, x6, x7, x8, ok, kk, b', p1, p2, p3, p4, p5, p6⟩ := rp_2 (len := len) (code := code) (fa := fa) hn hw hf h
  unfold fX0_readOver_3_2
  rw [p1, bn9_]
  cases ok with
  | true =>
    obtain ⟨q1, q2, q3, q4⟩ := p6 rfl
    subst q1
    rw [if_pos rfl, ← q3]
    exact ol_3_2 hn hw hf _ _ 0 4 x1 x2 b' x3 x4 x5 x6 x7 x8 (by omega) (by omega) p4 (ov_start p2) q2 (by decide) q4
  | false =>
    rw [if_neg (by decide)]
    exact ⟨_, _, _, _, _, _, _, _, false, kk, b', rfl, ov_fail0 p2, p3, p4, p5, fun z => Bool.noConfusion z⟩
set_option maxHeartbeats 4000000 in
theorem ol_2_2 {s : Nat → Int32} {n b0 : Nat} {w : Nat → Int64} {f : Nat → Int32} (hn : n ≤ 1000) (hw : WT w) (hf : SG f s) : ∀ k z i most len code b nx pl kd vl lt fa, 1000 + 1 - i < k → i ≤ b → CT s n b nx pl kd vl lt → OvL (kt s n) (nt s n) 2 2 b0 b most → b0 < b → most ≤ 4 → 1 ≤ len → RP (OverIs (kt s n) (nt s n) 2 2 b0) s n b0 fa (lp z (fX0_readOver_2_2_B17a n s w f) k (nI most) i len code nx pl kd vl lt fa) := by
  intro k
  induction k with
  | zero => intro z i most len code b nx pl kd vl lt fa q; exact absurd q (Nat.not_lt_zero _)
  | succ k ih =>
    intro z i most len code b nx pl kd vl lt fa hk hi h hO hb0 hm4 hln
    show RP _ s n b0 fa (fX0_readOver_2_2_B17a n s w f (lp z (fX0_readOver_2_2_B17a n s w f) k) (nI most) i len code nx pl kd vl lt fa)
    have ih := fun i most len code b nx pl kd vl lt fa => ih z i most len code b nx pl kd vl lt fa
    generalize lp z (fX0_readOver_2_2_B17a n s w f) k = rc at ih ⊢
    have hb4 := bnd_le (k := kt s n b)
    have hbn := h.1
    have stop : (bnd (kt s n b) < 2 ∨ most < bnd (kt s n b)) → RP (OverIs (kt s n) (nt s n) 2 2 b0) s n b0 fa (len, code, nx, pl, kd, vl, lt, fa, true) := fun y => ⟨_, _, _, _, _, _, _, _, true, 0, b, rfl, ov_stop hO y, Nat.le_of_lt hb0, h, fun z => Bool.noConfusion z, fun _ => ⟨rfl, hb0, rfl, hln⟩⟩
    unfold fX0_readOver_2_2_B17a fX0_readOver_2_2_J51a
    by_cases h1 : 1000 ≤ i
    · rw [if_pos h1]
      have e : b = n := by omega
      refine stop (Or.inl ?_)
      rw [kt_0 (by unfold tK; rw [if_pos e]; decide)]
      decide
    rw [if_neg h1, bn1_, bn1_, opT h]
    by_cases ht : bnd (kt s n b) < 2
    · rw [if_pos (by rw [Int32.lt_iff_toInt_lt, nI_toInt (by omega), show Int32.toInt 2 = 2 by decide]; omega)]
      exact stop (Or.inl ht)
    · rw [if_neg (show ¬ (nI (bnd (kt s n b)) < 2) from fun z => by rw [Int32.lt_iff_toInt_lt, nI_toInt (by omega), show Int32.toInt 2 = 2 by decide] at z; omega)]
      by_cases hm : most < bnd (kt s n b)
      · rw [if_neg (show ¬ (nI (bnd (kt s n b)) ≤ nI most) from fun z => by rw [Int32.le_iff_toInt_le, nI_toInt (by omega), nI_toInt (by omega)] at z; omega)]
        exact stop (Or.inr hm)
      rw [if_pos (by rw [Int32.le_iff_toInt_le, nI_toInt (by omega), nI_toInt (by omega)]; omega)]
      have hq : bnd (kt s n b) = 2 ∨ bnd (kt s n b) = 3 ∨ bnd (kt s n b) = 4 := by omega
      rcases hq with hq | hq | hq
      · have eb : bnd (kt s n b) = 2 := hq
        try rw [eb]
        rw [if_pos (show (nI 2 : Int32) = 2 by decide)]
        obtain ⟨a1, a2, a3, a4, a5, e1, e2⟩ := c_adv hn hw hf h
        rw [e1, bn5_]
        obtain ⟨x1, x2, x3, x4, x5, x6, x7, x8, ok, kk, b', p1, p2, p3, p4, p5, p6⟩ := ro_3_2 (len := len) (code := code) (fa := fa) hn hw hf e2
        rw [p1, bn9_]
        have hlt := nt_gt (f := s) (k_lt h.1 (by intro z; rw [z] at eb; exact absurd eb (by decide)))
        have nx_ := ov_next (by decide) hO (by omega) (by omega) (by rw [eb]; exact p2)
        cases ok with
        | true =>
          obtain ⟨q1, q2, q3, q4⟩ := p6 rfl
          rw [if_pos rfl]
          have hz := wr1 (x := fX0_operatorAt kd vl) (len := x1) (code := x2)
          generalize fX0_write (fX0_operatorAt kd vl) x1 x2 = zz at hz ⊢
          obtain ⟨z1, z2⟩ := zz
          rw [bn2_]
          unfold fX0_readOver_2_2_J93a
          have hO' := nx_.1 rfl
          rw [eb] at hO'
          have r := ih (i + 1) 1 z1 z2 b' x3 x4 x5 x6 x7 x8 (by omega) (by omega) p4 hO' (by omega) (by decide) hz
          obtain ⟨y1, y2, y3, y4, y5, y6, y7, y8, y9, y10, y11, g1, g2, g3, g4, g5, g6⟩ := r
          exact ⟨y1, y2, y3, y4, y5, y6, y7, y8, y9, y10, y11, g1, g2, by omega, g4, g5, fun z => ⟨(g6 z).1, (g6 z).2.1, (g6 z).2.2.1.trans q3, (g6 z).2.2.2⟩⟩
        | false =>
          rw [if_neg (by decide)]
          exact ⟨_, _, _, _, _, _, _, _, false, kk, b', rfl, nx_.2 rfl, by omega, p4, p5, fun z => Bool.noConfusion z⟩
      · have eb : bnd (kt s n b) = 3 := hq
        try rw [eb]
        rw [if_neg (show ¬ ((nI 3 : Int32) = 2) by decide)]
        rw [if_pos (show (nI 3 : Int32) = 3 by decide)]
        obtain ⟨a1, a2, a3, a4, a5, e1, e2⟩ := c_adv hn hw hf h
        rw [e1, bn5_]
        obtain ⟨x1, x2, x3, x4, x5, x6, x7, x8, ok, kk, b', p1, p2, p3, p4, p5, p6⟩ := ro_4_2 (len := len) (code := code) (fa := fa) hn hw hf e2
        rw [p1, bn9_]
        have hlt := nt_gt (f := s) (k_lt h.1 (by intro z; rw [z] at eb; exact absurd eb (by decide)))
        have nx_ := ov_next (by decide) hO (by omega) (by omega) (by rw [eb]; exact p2)
        cases ok with
        | true =>
          obtain ⟨q1, q2, q3, q4⟩ := p6 rfl
          rw [if_pos rfl]
          have hz := wr1 (x := fX0_operatorAt kd vl) (len := x1) (code := x2)
          generalize fX0_write (fX0_operatorAt kd vl) x1 x2 = zz at hz ⊢
          obtain ⟨z1, z2⟩ := zz
          rw [bn2_]
          unfold fX0_readOver_2_2_J93b
          have hO' := nx_.1 rfl
          rw [eb] at hO'
          have r := ih (i + 1) 3 z1 z2 b' x3 x4 x5 x6 x7 x8 (by omega) (by omega) p4 hO' (by omega) (by decide) hz
          obtain ⟨y1, y2, y3, y4, y5, y6, y7, y8, y9, y10, y11, g1, g2, g3, g4, g5, g6⟩ := r
          exact ⟨y1, y2, y3, y4, y5, y6, y7, y8, y9, y10, y11, g1, g2, by omega, g4, g5, fun z => ⟨(g6 z).1, (g6 z).2.1, (g6 z).2.2.1.trans q3, (g6 z).2.2.2⟩⟩
        | false =>
          rw [if_neg (by decide)]
          exact ⟨_, _, _, _, _, _, _, _, false, kk, b', rfl, nx_.2 rfl, by omega, p4, p5, fun z => Bool.noConfusion z⟩
      · have eb : bnd (kt s n b) = 4 := hq
        try rw [eb]
        rw [if_neg (show ¬ ((nI 4 : Int32) = 2) by decide)]
        rw [if_neg (show ¬ ((nI 4 : Int32) = 3) by decide)]
        obtain ⟨a1, a2, a3, a4, a5, e1, e2⟩ := c_adv hn hw hf h
        rw [e1, bn5_]
        obtain ⟨x1, x2, x3, x4, x5, x6, x7, x8, ok, kk, b', p1, p2, p3, p4, p5, p6⟩ := ro_5_2 (len := len) (code := code) (fa := fa) hn hw hf e2
        rw [p1, bn9_]
        have hlt := nt_gt (f := s) (k_lt h.1 (by intro z; rw [z] at eb; exact absurd eb (by decide)))
        have nx_ := ov_next (by decide) hO (by omega) (by omega) (by rw [eb]; exact p2)
        cases ok with
        | true =>
          obtain ⟨q1, q2, q3, q4⟩ := p6 rfl
          rw [if_pos rfl]
          have hz := wr1 (x := fX0_operatorAt kd vl) (len := x1) (code := x2)
          generalize fX0_write (fX0_operatorAt kd vl) x1 x2 = zz at hz ⊢
          obtain ⟨z1, z2⟩ := zz
          rw [bn2_]
          unfold fX0_readOver_2_2_J93c
          have hO' := nx_.1 rfl
          rw [eb] at hO'
          have r := ih (i + 1) 4 z1 z2 b' x3 x4 x5 x6 x7 x8 (by omega) (by omega) p4 hO' (by omega) (by decide) hz
          obtain ⟨y1, y2, y3, y4, y5, y6, y7, y8, y9, y10, y11, g1, g2, g3, g4, g5, g6⟩ := r
          exact ⟨y1, y2, y3, y4, y5, y6, y7, y8, y9, y10, y11, g1, g2, by omega, g4, g5, fun z => ⟨(g6 z).1, (g6 z).2.1, (g6 z).2.2.1.trans q3, (g6 z).2.2.2⟩⟩
        | false =>
          rw [if_neg (by decide)]
          exact ⟨_, _, _, _, _, _, _, _, false, kk, b', rfl, nx_.2 rfl, by omega, p4, p5, fun z => Bool.noConfusion z⟩
theorem ro_2_2 {s : Nat → Int32} {n b nx : Nat} {pl kd vl fa : Int32} {lt : Int64} {w : Nat → Int64} {f code : Nat → Int32} {len : Nat} (hn : n ≤ 1000) (hw : WT w) (hf : SG f s) (h : CT s n b nx pl kd vl lt) : RP (OverIs (kt s n) (nt s n) 2 2 b) s n b fa (fX0_readOver_2_2 len code n nx pl kd vl lt fa s w f) := by
  obtain ⟨x1, x2, x3, x4, x5, x6, x7, x8, ok, kk, b', p1, p2, p3, p4, p5, p6⟩ := rp_2 (len := len) (code := code) (fa := fa) hn hw hf h
  unfold fX0_readOver_2_2
  rw [p1, bn9_]
  cases ok with
  | true =>
    obtain ⟨q1, q2, q3, q4⟩ := p6 rfl
    subst q1
    rw [if_pos rfl, ← q3]
    exact ol_2_2 hn hw hf _ _ 0 4 x1 x2 b' x3 x4 x5 x6 x7 x8 (by omega) (by omega) p4 (ov_start p2) q2 (by decide) q4
  | false =>
    rw [if_neg (by decide)]
    exact ⟨_, _, _, _, _, _, _, _, false, kk, b', rfl, ov_fail0 p2, p3, p4, p5, fun z => Bool.noConfusion z⟩
set_option maxHeartbeats 4000000 in
theorem ol_1_2 {s : Nat → Int32} {n b0 : Nat} {w : Nat → Int64} {f : Nat → Int32} (hn : n ≤ 1000) (hw : WT w) (hf : SG f s) : ∀ k z i most len code b nx pl kd vl lt fa, 1000 + 1 - i < k → i ≤ b → CT s n b nx pl kd vl lt → OvL (kt s n) (nt s n) 1 2 b0 b most → b0 < b → most ≤ 4 → 1 ≤ len → RP (OverIs (kt s n) (nt s n) 1 2 b0) s n b0 fa (lp z (fX0_readOver_1_2_B17a n s w f) k (nI most) i len code nx pl kd vl lt fa) := by
  intro k
  induction k with
  | zero => intro z i most len code b nx pl kd vl lt fa q; exact absurd q (Nat.not_lt_zero _)
  | succ k ih =>
    intro z i most len code b nx pl kd vl lt fa hk hi h hO hb0 hm4 hln
    show RP _ s n b0 fa (fX0_readOver_1_2_B17a n s w f (lp z (fX0_readOver_1_2_B17a n s w f) k) (nI most) i len code nx pl kd vl lt fa)
    have ih := fun i most len code b nx pl kd vl lt fa => ih z i most len code b nx pl kd vl lt fa
    generalize lp z (fX0_readOver_1_2_B17a n s w f) k = rc at ih ⊢
    have hb4 := bnd_le (k := kt s n b)
    have hbn := h.1
    have stop : (bnd (kt s n b) < 1 ∨ most < bnd (kt s n b)) → RP (OverIs (kt s n) (nt s n) 1 2 b0) s n b0 fa (len, code, nx, pl, kd, vl, lt, fa, true) := fun y => ⟨_, _, _, _, _, _, _, _, true, 0, b, rfl, ov_stop hO y, Nat.le_of_lt hb0, h, fun z => Bool.noConfusion z, fun _ => ⟨rfl, hb0, rfl, hln⟩⟩
    unfold fX0_readOver_1_2_B17a fX0_readOver_1_2_J51a
    by_cases h1 : 1000 ≤ i
    · rw [if_pos h1]
      have e : b = n := by omega
      refine stop (Or.inl ?_)
      rw [kt_0 (by unfold tK; rw [if_pos e]; decide)]
      decide
    rw [if_neg h1, bn1_, bn1_, opT h]
    by_cases ht : bnd (kt s n b) < 1
    · rw [if_pos (by rw [Int32.lt_iff_toInt_lt, nI_toInt (by omega), show Int32.toInt 1 = 1 by decide]; omega)]
      exact stop (Or.inl ht)
    · rw [if_neg (show ¬ (nI (bnd (kt s n b)) < 1) from fun z => by rw [Int32.lt_iff_toInt_lt, nI_toInt (by omega), show Int32.toInt 1 = 1 by decide] at z; omega)]
      by_cases hm : most < bnd (kt s n b)
      · rw [if_neg (show ¬ (nI (bnd (kt s n b)) ≤ nI most) from fun z => by rw [Int32.le_iff_toInt_le, nI_toInt (by omega), nI_toInt (by omega)] at z; omega)]
        exact stop (Or.inr hm)
      rw [if_pos (by rw [Int32.le_iff_toInt_le, nI_toInt (by omega), nI_toInt (by omega)]; omega)]
      have hq : bnd (kt s n b) = 1 ∨ bnd (kt s n b) = 2 ∨ bnd (kt s n b) = 3 ∨ bnd (kt s n b) = 4 := by omega
      rcases hq with hq | hq | hq | hq
      · have eb : bnd (kt s n b) = 1 := hq
        try rw [eb]
        rw [if_pos (show (nI 1 : Int32) = 1 by decide)]
        obtain ⟨a1, a2, a3, a4, a5, e1, e2⟩ := c_adv hn hw hf h
        rw [e1, bn5_]
        obtain ⟨x1, x2, x3, x4, x5, x6, x7, x8, ok, kk, b', p1, p2, p3, p4, p5, p6⟩ := ro_2_2 (len := len) (code := code) (fa := fa) hn hw hf e2
        rw [p1, bn9_]
        have hlt := nt_gt (f := s) (k_lt h.1 (by intro z; rw [z] at eb; exact absurd eb (by decide)))
        have nx_ := ov_next (by decide) hO (by omega) (by omega) (by rw [eb]; exact p2)
        cases ok with
        | true =>
          obtain ⟨q1, q2, q3, q4⟩ := p6 rfl
          rw [if_pos rfl]
          have hz := wr1 (x := fX0_operatorAt kd vl) (len := x1) (code := x2)
          generalize fX0_write (fX0_operatorAt kd vl) x1 x2 = zz at hz ⊢
          obtain ⟨z1, z2⟩ := zz
          rw [bn2_]
          unfold fX0_readOver_1_2_J93a
          have hO' := nx_.1 rfl
          rw [eb] at hO'
          have r := ih (i + 1) 1 z1 z2 b' x3 x4 x5 x6 x7 x8 (by omega) (by omega) p4 hO' (by omega) (by decide) hz
          obtain ⟨y1, y2, y3, y4, y5, y6, y7, y8, y9, y10, y11, g1, g2, g3, g4, g5, g6⟩ := r
          exact ⟨y1, y2, y3, y4, y5, y6, y7, y8, y9, y10, y11, g1, g2, by omega, g4, g5, fun z => ⟨(g6 z).1, (g6 z).2.1, (g6 z).2.2.1.trans q3, (g6 z).2.2.2⟩⟩
        | false =>
          rw [if_neg (by decide)]
          exact ⟨_, _, _, _, _, _, _, _, false, kk, b', rfl, nx_.2 rfl, by omega, p4, p5, fun z => Bool.noConfusion z⟩
      · have eb : bnd (kt s n b) = 2 := hq
        try rw [eb]
        rw [if_neg (show ¬ ((nI 2 : Int32) = 1) by decide)]
        rw [if_pos (show (nI 2 : Int32) = 2 by decide)]
        obtain ⟨a1, a2, a3, a4, a5, e1, e2⟩ := c_adv hn hw hf h
        rw [e1, bn5_]
        obtain ⟨x1, x2, x3, x4, x5, x6, x7, x8, ok, kk, b', p1, p2, p3, p4, p5, p6⟩ := ro_3_2 (len := len) (code := code) (fa := fa) hn hw hf e2
        rw [p1, bn9_]
        have hlt := nt_gt (f := s) (k_lt h.1 (by intro z; rw [z] at eb; exact absurd eb (by decide)))
        have nx_ := ov_next (by decide) hO (by omega) (by omega) (by rw [eb]; exact p2)
        cases ok with
        | true =>
          obtain ⟨q1, q2, q3, q4⟩ := p6 rfl
          rw [if_pos rfl]
          have hz := wr1 (x := fX0_operatorAt kd vl) (len := x1) (code := x2)
          generalize fX0_write (fX0_operatorAt kd vl) x1 x2 = zz at hz ⊢
          obtain ⟨z1, z2⟩ := zz
          rw [bn2_]
          unfold fX0_readOver_1_2_J93b
          have hO' := nx_.1 rfl
          rw [eb] at hO'
          have r := ih (i + 1) 1 z1 z2 b' x3 x4 x5 x6 x7 x8 (by omega) (by omega) p4 hO' (by omega) (by decide) hz
          obtain ⟨y1, y2, y3, y4, y5, y6, y7, y8, y9, y10, y11, g1, g2, g3, g4, g5, g6⟩ := r
          exact ⟨y1, y2, y3, y4, y5, y6, y7, y8, y9, y10, y11, g1, g2, by omega, g4, g5, fun z => ⟨(g6 z).1, (g6 z).2.1, (g6 z).2.2.1.trans q3, (g6 z).2.2.2⟩⟩
        | false =>
          rw [if_neg (by decide)]
          exact ⟨_, _, _, _, _, _, _, _, false, kk, b', rfl, nx_.2 rfl, by omega, p4, p5, fun z => Bool.noConfusion z⟩
      · have eb : bnd (kt s n b) = 3 := hq
        try rw [eb]
        rw [if_neg (show ¬ ((nI 3 : Int32) = 1) by decide)]
        rw [if_neg (show ¬ ((nI 3 : Int32) = 2) by decide)]
        rw [if_pos (show (nI 3 : Int32) = 3 by decide)]
        obtain ⟨a1, a2, a3, a4, a5, e1, e2⟩ := c_adv hn hw hf h
        rw [e1, bn5_]
        obtain ⟨x1, x2, x3, x4, x5, x6, x7, x8, ok, kk, b', p1, p2, p3, p4, p5, p6⟩ := ro_4_2 (len := len) (code := code) (fa := fa) hn hw hf e2
        rw [p1, bn9_]
        have hlt := nt_gt (f := s) (k_lt h.1 (by intro z; rw [z] at eb; exact absurd eb (by decide)))
        have nx_ := ov_next (by decide) hO (by omega) (by omega) (by rw [eb]; exact p2)
        cases ok with
        | true =>
          obtain ⟨q1, q2, q3, q4⟩ := p6 rfl
          rw [if_pos rfl]
          have hz := wr1 (x := fX0_operatorAt kd vl) (len := x1) (code := x2)
          generalize fX0_write (fX0_operatorAt kd vl) x1 x2 = zz at hz ⊢
          obtain ⟨z1, z2⟩ := zz
          rw [bn2_]
          unfold fX0_readOver_1_2_J93c
          have hO' := nx_.1 rfl
          rw [eb] at hO'
          have r := ih (i + 1) 3 z1 z2 b' x3 x4 x5 x6 x7 x8 (by omega) (by omega) p4 hO' (by omega) (by decide) hz
          obtain ⟨y1, y2, y3, y4, y5, y6, y7, y8, y9, y10, y11, g1, g2, g3, g4, g5, g6⟩ := r
          exact ⟨y1, y2, y3, y4, y5, y6, y7, y8, y9, y10, y11, g1, g2, by omega, g4, g5, fun z => ⟨(g6 z).1, (g6 z).2.1, (g6 z).2.2.1.trans q3, (g6 z).2.2.2⟩⟩
        | false =>
          rw [if_neg (by decide)]
          exact ⟨_, _, _, _, _, _, _, _, false, kk, b', rfl, nx_.2 rfl, by omega, p4, p5, fun z => Bool.noConfusion z⟩
      · have eb : bnd (kt s n b) = 4 := hq
        try rw [eb]
        rw [if_neg (show ¬ ((nI 4 : Int32) = 1) by decide)]
        rw [if_neg (show ¬ ((nI 4 : Int32) = 2) by decide)]
        rw [if_neg (show ¬ ((nI 4 : Int32) = 3) by decide)]
        obtain ⟨a1, a2, a3, a4, a5, e1, e2⟩ := c_adv hn hw hf h
        rw [e1, bn5_]
        obtain ⟨x1, x2, x3, x4, x5, x6, x7, x8, ok, kk, b', p1, p2, p3, p4, p5, p6⟩ := ro_5_2 (len := len) (code := code) (fa := fa) hn hw hf e2
        rw [p1, bn9_]
        have hlt := nt_gt (f := s) (k_lt h.1 (by intro z; rw [z] at eb; exact absurd eb (by decide)))
        have nx_ := ov_next (by decide) hO (by omega) (by omega) (by rw [eb]; exact p2)
        cases ok with
        | true =>
          obtain ⟨q1, q2, q3, q4⟩ := p6 rfl
          rw [if_pos rfl]
          have hz := wr1 (x := fX0_operatorAt kd vl) (len := x1) (code := x2)
          generalize fX0_write (fX0_operatorAt kd vl) x1 x2 = zz at hz ⊢
          obtain ⟨z1, z2⟩ := zz
          rw [bn2_]
          unfold fX0_readOver_1_2_J93d
          have hO' := nx_.1 rfl
          rw [eb] at hO'
          have r := ih (i + 1) 4 z1 z2 b' x3 x4 x5 x6 x7 x8 (by omega) (by omega) p4 hO' (by omega) (by decide) hz
          obtain ⟨y1, y2, y3, y4, y5, y6, y7, y8, y9, y10, y11, g1, g2, g3, g4, g5, g6⟩ := r
          exact ⟨y1, y2, y3, y4, y5, y6, y7, y8, y9, y10, y11, g1, g2, by omega, g4, g5, fun z => ⟨(g6 z).1, (g6 z).2.1, (g6 z).2.2.1.trans q3, (g6 z).2.2.2⟩⟩
        | false =>
          rw [if_neg (by decide)]
          exact ⟨_, _, _, _, _, _, _, _, false, kk, b', rfl, nx_.2 rfl, by omega, p4, p5, fun z => Bool.noConfusion z⟩
theorem ro_1_2 {s : Nat → Int32} {n b nx : Nat} {pl kd vl fa : Int32} {lt : Int64} {w : Nat → Int64} {f code : Nat → Int32} {len : Nat} (hn : n ≤ 1000) (hw : WT w) (hf : SG f s) (h : CT s n b nx pl kd vl lt) : RP (OverIs (kt s n) (nt s n) 1 2 b) s n b fa (fX0_readOver_1_2 len code n nx pl kd vl lt fa s w f) := by
  obtain ⟨x1, x2, x3, x4, x5, x6, x7, x8, ok, kk, b', p1, p2, p3, p4, p5, p6⟩ := rp_2 (len := len) (code := code) (fa := fa) hn hw hf h
  unfold fX0_readOver_1_2
  rw [p1, bn9_]
  cases ok with
  | true =>
    obtain ⟨q1, q2, q3, q4⟩ := p6 rfl
    subst q1
    rw [if_pos rfl, ← q3]
    exact ol_1_2 hn hw hf _ _ 0 4 x1 x2 b' x3 x4 x5 x6 x7 x8 (by omega) (by omega) p4 (ov_start p2) q2 (by decide) q4
  | false =>
    rw [if_neg (by decide)]
    exact ⟨_, _, _, _, _, _, _, _, false, kk, b', rfl, ov_fail0 p2, p3, p4, p5, fun z => Bool.noConfusion z⟩
set_option maxHeartbeats 4000000 in
theorem rp_1 {s : Nat → Int32} {n b nx : Nat} {pl kd vl fa : Int32} {lt : Int64} {w : Nat → Int64} {f code : Nat → Int32} {len : Nat} (hn : n ≤ 1000) (hw : WT w) (hf : SG f s) (h : CT s n b nx pl kd vl lt) : RP (PartIs (kt s n) (nt s n) 1 b) s n b fa (fX0_readPart_1 len code n nx pl kd vl lt fa s w f) := by
  have w16 : fX6_isWord 16 kd vl = true ↔ tK s n b = 1 ∧ wo_ s n b = wd 16 := c_word h (j := 16) (by decide)
  obtain ⟨a1, a2, a3, a4, a5, e1, e2⟩ := c_adv hn hw hf h
  have vA : ∀ (x : Int32), kt s n b = 1 → RP (PartIs (kt s n) (nt s n) 1 b) s n b fa (fX0_readPart_1_J99a len code n nx lt fa s w f x) := by
    intro x k1
    unfold fX0_readPart_1_J99a
    have hz := wr1 (x := x) (len := len) (code := code)
    generalize fX0_write x len code = zz at hz ⊢
    obtain ⟨z1, z2⟩ := zz
    rw [bn2_, e1, bn5_]
    have hlt := nt_gt (f := s) (k_lt h.1 (by rw [k1]; decide))
    exact ⟨_, _, _, _, _, _, _, _, true, 0, _, rfl, part_v (by decide) k1, Nat.le_of_lt hlt, e2, fun z => Bool.noConfusion z, fun _ => ⟨rfl, hlt, rfl, hz⟩⟩
  have key : ∀ u1 s0 : Bool, (u1 = true ↔ tK s n b = 2) → (s0 = true ↔ tK s n b = 1 ∧ ∃ j, 19 ≤ j ∧ j < 23 ∧ wo_ s n b = wd j) → RP (PartIs (kt s n) (nt s n) 1 b) s n b fa (fX0_readPart_1_J19a len code n nx pl kd vl lt fa s w f u1 s0) := by
    intro u1 s0 h1 h2
    unfold fX0_readPart_1_J19a fX0_readPart_1_J58a fX0_readPart_1_J78a
    rw [bn1_]
    by_cases a : u1 = true
    · rw [if_pos a, if_pos a, if_pos a]; exact vA _ (k_1.mpr (Or.inl (h1.mp a)))
    rw [if_neg a, if_neg a, if_neg a]
    by_cases c : s0 = true
    · rw [if_pos c, if_pos c]; exact vA _ (k_1.mpr (Or.inr (h2.mp c)))
    rw [if_neg c, if_neg c, e1, bn5_]
    by_cases d : fX6_isWord 16 kd vl = true
    · rw [if_pos d, if_pos d]
      have hlt := nt_gt (f := s) (k_lt h.1 (by rw [k_2.mpr (w16.mp d)]; decide))
      obtain ⟨x1, x2, x3, x4, x5, x6, x7, x8, ok, k, b', p1, p2, p3, p4, p5, p6⟩ := rp_2 (len := len) (code := code) (fa := fa) hn hw hf e2
      rw [p1, bn9_]
      cases ok with
      | true =>
        obtain ⟨q1, q2, q3, q4⟩ := p6 rfl
        rw [if_pos rfl]
        have hz := wr1 (x := -5) (len := x1) (code := x2)
        generalize fX0_write (-5) x1 x2 = zz at hz ⊢
        obtain ⟨z1, z2⟩ := zz
        rw [bn2_]
        exact ⟨_, _, _, _, _, _, _, _, true, k, b', rfl, part_n (by decide) (k_2.mpr (w16.mp d)) p2, by omega, p4, fun z => Bool.noConfusion z, fun _ => ⟨q1, by omega, q3, hz⟩⟩
      | false =>
        rw [if_neg (by decide)]
        exact ⟨_, _, _, _, _, _, _, _, false, k, b', rfl, part_n (by decide) (k_2.mpr (w16.mp d)) p2, by omega, p4, p5, fun z => Bool.noConfusion z⟩
    rw [if_neg d, if_neg d, bn1_]
    by_cases e : fX6_isSign 40 kd vl = true
    · rw [if_pos e]
      have k3 := k_3.mpr ((c_sign h).mp e)
      have hlt := nt_gt (f := s) (k_lt h.1 (by rw [k3]; decide))
      unfold fX0_readPart_1_J142a
      obtain ⟨x1, x2, x3, x4, x5, x6, x7, x8, ok, k, b', p1, p2, p3, p4, p5, p6⟩ := ro_1_2 (len := len) (code := code) (fa := fa) hn hw hf e2
      rw [p1, bn9_]
      cases ok with
      | true =>
        obtain ⟨q1, q2, q3, q4⟩ := p6 rfl
        subst q1
        rw [if_pos rfl]
        unfold fX6_takeSign
        rw [bn1_]
        by_cases y : fX6_isSign 41 x5 x6 = true
        · have k4 := k_4.mpr ((c_sign p4).mp y)
          obtain ⟨c1, c2, c3, c4, c5, g1, g2⟩ := c_adv hn hw hf p4
          rw [if_pos y, g1, bn5_, bn7_, if_pos rfl]
          have := nt_gt (f := s) (k_lt p4.1 (by rw [k4]; decide))
          exact ⟨_, _, _, _, _, _, _, _, true, 0, _, rfl, part_ot (by decide) k3 p2 k4, by omega, g2, fun z => Bool.noConfusion z, fun _ => ⟨rfl, by omega, q3, q4⟩⟩
        · rw [if_neg y, c_wrong p4 1, bn2_, bn7_, if_neg (by decide)]
          exact ⟨_, _, _, _, _, _, _, _, false, 1, b', rfl, part_on (by decide) k3 p2 (fun z => y ((c_sign p4).mpr (k_4.mp z))), by omega, p4, fun _ => ⟨rfl, by decide⟩, fun z => Bool.noConfusion z⟩
      | false =>
        rw [if_neg (by decide)]
        exact ⟨_, _, _, _, _, _, _, _, false, k, b', rfl, part_of (by decide) k3 p2, by omega, p4, p5, fun z => Bool.noConfusion z⟩
    rw [if_neg e, c_wrong h 1, bn2_]
    refine ⟨_, _, _, _, _, _, _, _, false, 1, b, rfl, part_1 ?_, Nat.le_refl b, h, fun _ => ⟨rfl, by decide⟩, fun z => Bool.noConfusion z⟩
    rintro (y | y | y)
    · rcases k_1.mp y with z | z
      · exact a (h1.mpr z)
      · exact c (h2.mpr z)
    · exact d (w16.mpr (k_2.mp y))
    · exact e ((c_sign h).mpr (k_3.mp y))
  unfold fX0_readPart_1
  rw [bn1_, bn1_, c_num h]
  by_cases q : fX6_wordHere kd vl < 19
  · rw [if_pos q]
    exact key _ _ decide_eq_true_iff ⟨fun z => Bool.noConfusion z, fun z => absurd q ((c_fact h).mpr z)⟩
  · rw [if_neg q]
    exact key _ _ decide_eq_true_iff ⟨fun _ => (c_fact h).mp q, fun _ => rfl⟩
theorem ro_5_1 {s : Nat → Int32} {n b nx : Nat} {pl kd vl fa : Int32} {lt : Int64} {w : Nat → Int64} {f code : Nat → Int32} {len : Nat} (hn : n ≤ 1000) (hw : WT w) (hf : SG f s) (h : CT s n b nx pl kd vl lt) : RP (OverIs (kt s n) (nt s n) 5 1 b) s n b fa (fX0_readOver_5_1 len code n nx pl kd vl lt fa s w f) := by
  obtain ⟨x1, x2, x3, x4, x5, x6, x7, x8, ok, kk, b', p1, p2, p3, p4, p5, p6⟩ := rp_1 (len := len) (code := code) (fa := fa) hn hw hf h
  unfold fX0_readOver_5_1
  rw [p1, bn9_]
  cases ok with
  | true =>
    obtain ⟨q1, q2, q3, q4⟩ := p6 rfl
    subst q1
    rw [if_pos rfl]
    show RP _ s n b fa (fX0_readOver_5_1_B17a x1 x2 x3 x4 x5 x6 x7 x8 _ 0)
    unfold fX0_readOver_5_1_B17a fX0_readOver_5_1_J51a
    have hb4 := bnd_le (k := kt s n b')
    rw [if_neg (by decide), bn1_, bn1_, opT p4, if_pos (by rw [Int32.lt_iff_toInt_lt, nI_toInt (by omega), show Int32.toInt 5 = 5 by decide]; omega)]
    exact ⟨_, _, _, _, _, _, _, _, true, 0, b', rfl, ov_stop (ov_start p2) (Or.inl (by omega)), p3, p4, fun z => Bool.noConfusion z, fun _ => ⟨rfl, q2, q3, q4⟩⟩
  | false =>
    rw [if_neg (by decide)]
    exact ⟨_, _, _, _, _, _, _, _, false, kk, b', rfl, ov_fail0 p2, p3, p4, p5, fun z => Bool.noConfusion z⟩
set_option maxHeartbeats 4000000 in
theorem ol_4_1 {s : Nat → Int32} {n b0 : Nat} {w : Nat → Int64} {f : Nat → Int32} (hn : n ≤ 1000) (hw : WT w) (hf : SG f s) : ∀ k z i most len code b nx pl kd vl lt fa, 1000 + 1 - i < k → i ≤ b → CT s n b nx pl kd vl lt → OvL (kt s n) (nt s n) 4 1 b0 b most → b0 < b → most ≤ 4 → 1 ≤ len → RP (OverIs (kt s n) (nt s n) 4 1 b0) s n b0 fa (lp z (fX0_readOver_4_1_B17a n s w f) k (nI most) i len code nx pl kd vl lt fa) := by
  intro k
  induction k with
  | zero => intro z i most len code b nx pl kd vl lt fa q; exact absurd q (Nat.not_lt_zero _)
  | succ k ih =>
    intro z i most len code b nx pl kd vl lt fa hk hi h hO hb0 hm4 hln
    show RP _ s n b0 fa (fX0_readOver_4_1_B17a n s w f (lp z (fX0_readOver_4_1_B17a n s w f) k) (nI most) i len code nx pl kd vl lt fa)
    have ih := fun i most len code b nx pl kd vl lt fa => ih z i most len code b nx pl kd vl lt fa
    generalize lp z (fX0_readOver_4_1_B17a n s w f) k = rc at ih ⊢
    have hb4 := bnd_le (k := kt s n b)
    have hbn := h.1
    have stop : (bnd (kt s n b) < 4 ∨ most < bnd (kt s n b)) → RP (OverIs (kt s n) (nt s n) 4 1 b0) s n b0 fa (len, code, nx, pl, kd, vl, lt, fa, true) := fun y => ⟨_, _, _, _, _, _, _, _, true, 0, b, rfl, ov_stop hO y, Nat.le_of_lt hb0, h, fun z => Bool.noConfusion z, fun _ => ⟨rfl, hb0, rfl, hln⟩⟩
    unfold fX0_readOver_4_1_B17a fX0_readOver_4_1_J51a
    by_cases h1 : 1000 ≤ i
    · rw [if_pos h1]
      have e : b = n := by omega
      refine stop (Or.inl ?_)
      rw [kt_0 (by unfold tK; rw [if_pos e]; decide)]
      decide
    rw [if_neg h1, bn1_, bn1_, opT h]
    by_cases ht : bnd (kt s n b) < 4
    · rw [if_pos (by rw [Int32.lt_iff_toInt_lt, nI_toInt (by omega), show Int32.toInt 4 = 4 by decide]; omega)]
      exact stop (Or.inl ht)
    · rw [if_neg (show ¬ (nI (bnd (kt s n b)) < 4) from fun z => by rw [Int32.lt_iff_toInt_lt, nI_toInt (by omega), show Int32.toInt 4 = 4 by decide] at z; omega)]
      by_cases hm : most < bnd (kt s n b)
      · rw [if_neg (show ¬ (nI (bnd (kt s n b)) ≤ nI most) from fun z => by rw [Int32.le_iff_toInt_le, nI_toInt (by omega), nI_toInt (by omega)] at z; omega)]
        exact stop (Or.inr hm)
      rw [if_pos (by rw [Int32.le_iff_toInt_le, nI_toInt (by omega), nI_toInt (by omega)]; omega)]
      have hq : bnd (kt s n b) = 4 := by omega
      rcases hq with hq
      · have eb : bnd (kt s n b) = 4 := hq
        try rw [eb]
        obtain ⟨a1, a2, a3, a4, a5, e1, e2⟩ := c_adv hn hw hf h
        rw [e1, bn5_]
        obtain ⟨x1, x2, x3, x4, x5, x6, x7, x8, ok, kk, b', p1, p2, p3, p4, p5, p6⟩ := ro_5_1 (len := len) (code := code) (fa := fa) hn hw hf e2
        rw [p1, bn9_]
        have hlt := nt_gt (f := s) (k_lt h.1 (by intro z; rw [z] at eb; exact absurd eb (by decide)))
        have nx_ := ov_next (by decide) hO (by omega) (by omega) (by rw [eb]; exact p2)
        cases ok with
        | true =>
          obtain ⟨q1, q2, q3, q4⟩ := p6 rfl
          rw [if_pos rfl]
          have hz := wr1 (x := fX0_operatorAt kd vl) (len := x1) (code := x2)
          generalize fX0_write (fX0_operatorAt kd vl) x1 x2 = zz at hz ⊢
          obtain ⟨z1, z2⟩ := zz
          rw [bn2_]
          unfold fX0_readOver_4_1_J93a
          have hO' := nx_.1 rfl
          rw [eb] at hO'
          have r := ih (i + 1) 4 z1 z2 b' x3 x4 x5 x6 x7 x8 (by omega) (by omega) p4 hO' (by omega) (by decide) hz
          obtain ⟨y1, y2, y3, y4, y5, y6, y7, y8, y9, y10, y11, g1, g2, g3, g4, g5, g6⟩ := r
          exact ⟨y1, y2, y3, y4, y5, y6, y7, y8, y9, y10, y11, g1, g2, by omega, g4, g5, fun z => ⟨(g6 z).1, (g6 z).2.1, (g6 z).2.2.1.trans q3, (g6 z).2.2.2⟩⟩
        | false =>
          rw [if_neg (by decide)]
          exact ⟨_, _, _, _, _, _, _, _, false, kk, b', rfl, nx_.2 rfl, by omega, p4, p5, fun z => Bool.noConfusion z⟩
theorem ro_4_1 {s : Nat → Int32} {n b nx : Nat} {pl kd vl fa : Int32} {lt : Int64} {w : Nat → Int64} {f code : Nat → Int32} {len : Nat} (hn : n ≤ 1000) (hw : WT w) (hf : SG f s) (h : CT s n b nx pl kd vl lt) : RP (OverIs (kt s n) (nt s n) 4 1 b) s n b fa (fX0_readOver_4_1 len code n nx pl kd vl lt fa s w f) := by
  obtain ⟨x1, x2, x3, x4, x5, x6, x7, x8, ok, kk, b', p1, p2, p3, p4, p5, p6⟩ := rp_1 (len := len) (code := code) (fa := fa) hn hw hf h
  unfold fX0_readOver_4_1
  rw [p1, bn9_]
  cases ok with
  | true =>
    obtain ⟨q1, q2, q3, q4⟩ := p6 rfl
    subst q1
    rw [if_pos rfl, ← q3]
    exact ol_4_1 hn hw hf _ _ 0 4 x1 x2 b' x3 x4 x5 x6 x7 x8 (by omega) (by omega) p4 (ov_start p2) q2 (by decide) q4
  | false =>
    rw [if_neg (by decide)]
    exact ⟨_, _, _, _, _, _, _, _, false, kk, b', rfl, ov_fail0 p2, p3, p4, p5, fun z => Bool.noConfusion z⟩
set_option maxHeartbeats 4000000 in
theorem ol_3_1 {s : Nat → Int32} {n b0 : Nat} {w : Nat → Int64} {f : Nat → Int32} (hn : n ≤ 1000) (hw : WT w) (hf : SG f s) : ∀ k z i most len code b nx pl kd vl lt fa, 1000 + 1 - i < k → i ≤ b → CT s n b nx pl kd vl lt → OvL (kt s n) (nt s n) 3 1 b0 b most → b0 < b → most ≤ 4 → 1 ≤ len → RP (OverIs (kt s n) (nt s n) 3 1 b0) s n b0 fa (lp z (fX0_readOver_3_1_B17a n s w f) k (nI most) i len code nx pl kd vl lt fa) := by
  intro k
  induction k with
  | zero => intro z i most len code b nx pl kd vl lt fa q; exact absurd q (Nat.not_lt_zero _)
  | succ k ih =>
    intro z i most len code b nx pl kd vl lt fa hk hi h hO hb0 hm4 hln
    show RP _ s n b0 fa (fX0_readOver_3_1_B17a n s w f (lp z (fX0_readOver_3_1_B17a n s w f) k) (nI most) i len code nx pl kd vl lt fa)
    have ih := fun i most len code b nx pl kd vl lt fa => ih z i most len code b nx pl kd vl lt fa
    generalize lp z (fX0_readOver_3_1_B17a n s w f) k = rc at ih ⊢
    have hb4 := bnd_le (k := kt s n b)
    have hbn := h.1
    have stop : (bnd (kt s n b) < 3 ∨ most < bnd (kt s n b)) → RP (OverIs (kt s n) (nt s n) 3 1 b0) s n b0 fa (len, code, nx, pl, kd, vl, lt, fa, true) := fun y => ⟨_, _, _, _, _, _, _, _, true, 0, b, rfl, ov_stop hO y, Nat.le_of_lt hb0, h, fun z => Bool.noConfusion z, fun _ => ⟨rfl, hb0, rfl, hln⟩⟩
    unfold fX0_readOver_3_1_B17a fX0_readOver_3_1_J51a
    by_cases h1 : 1000 ≤ i
    · rw [if_pos h1]
      have e : b = n := by omega
      refine stop (Or.inl ?_)
      rw [kt_0 (by unfold tK; rw [if_pos e]; decide)]
      decide
    rw [if_neg h1, bn1_, bn1_, opT h]
    by_cases ht : bnd (kt s n b) < 3
    · rw [if_pos (by rw [Int32.lt_iff_toInt_lt, nI_toInt (by omega), show Int32.toInt 3 = 3 by decide]; omega)]
      exact stop (Or.inl ht)
    · rw [if_neg (show ¬ (nI (bnd (kt s n b)) < 3) from fun z => by rw [Int32.lt_iff_toInt_lt, nI_toInt (by omega), show Int32.toInt 3 = 3 by decide] at z; omega)]
      by_cases hm : most < bnd (kt s n b)
      · rw [if_neg (show ¬ (nI (bnd (kt s n b)) ≤ nI most) from fun z => by rw [Int32.le_iff_toInt_le, nI_toInt (by omega), nI_toInt (by omega)] at z; omega)]
        exact stop (Or.inr hm)
      rw [if_pos (by rw [Int32.le_iff_toInt_le, nI_toInt (by omega), nI_toInt (by omega)]; omega)]
      have hq : bnd (kt s n b) = 3 ∨ bnd (kt s n b) = 4 := by omega
      rcases hq with hq | hq
      · have eb : bnd (kt s n b) = 3 := hq
        try rw [eb]
        rw [if_pos (show (nI 3 : Int32) = 3 by decide)]
        obtain ⟨a1, a2, a3, a4, a5, e1, e2⟩ := c_adv hn hw hf h
        rw [e1, bn5_]
        obtain ⟨x1, x2, x3, x4, x5, x6, x7, x8, ok, kk, b', p1, p2, p3, p4, p5, p6⟩ := ro_4_1 (len := len) (code := code) (fa := fa) hn hw hf e2
        rw [p1, bn9_]
        have hlt := nt_gt (f := s) (k_lt h.1 (by intro z; rw [z] at eb; exact absurd eb (by decide)))
        have nx_ := ov_next (by decide) hO (by omega) (by omega) (by rw [eb]; exact p2)
        cases ok with
        | true =>
          obtain ⟨q1, q2, q3, q4⟩ := p6 rfl
          rw [if_pos rfl]
          have hz := wr1 (x := fX0_operatorAt kd vl) (len := x1) (code := x2)
          generalize fX0_write (fX0_operatorAt kd vl) x1 x2 = zz at hz ⊢
          obtain ⟨z1, z2⟩ := zz
          rw [bn2_]
          unfold fX0_readOver_3_1_J93a
          have hO' := nx_.1 rfl
          rw [eb] at hO'
          have r := ih (i + 1) 3 z1 z2 b' x3 x4 x5 x6 x7 x8 (by omega) (by omega) p4 hO' (by omega) (by decide) hz
          obtain ⟨y1, y2, y3, y4, y5, y6, y7, y8, y9, y10, y11, g1, g2, g3, g4, g5, g6⟩ := r
          exact ⟨y1, y2, y3, y4, y5, y6, y7, y8, y9, y10, y11, g1, g2, by omega, g4, g5, fun z => ⟨(g6 z).1, (g6 z).2.1, (g6 z).2.2.1.trans q3, (g6 z).2.2.2⟩⟩
        | false =>
          rw [if_neg (by decide)]
          exact ⟨_, _, _, _, _, _, _, _, false, kk, b', rfl, nx_.2 rfl, by omega, p4, p5, fun z => Bool.noConfusion z⟩
      · have eb : bnd (kt s n b) = 4 := hq
        try rw [eb]
        rw [if_neg (show ¬ ((nI 4 : Int32) = 3) by decide)]
        obtain ⟨a1, a2, a3, a4, a5, e1, e2⟩ := c_adv hn hw hf h
        rw [e1, bn5_]
        obtain ⟨x1, x2, x3, x4, x5, x6, x7, x8, ok, kk, b', p1, p2, p3, p4, p5, p6⟩ := ro_5_1 (len := len) (code := code) (fa := fa) hn hw hf e2
        rw [p1, bn9_]
        have hlt := nt_gt (f := s) (k_lt h.1 (by intro z; rw [z] at eb; exact absurd eb (by decide)))
        have nx_ := ov_next (by decide) hO (by omega) (by omega) (by rw [eb]; exact p2)
        cases ok with
        | true =>
          obtain ⟨q1, q2, q3, q4⟩ := p6 rfl
          rw [if_pos rfl]
          have hz := wr1 (x := fX0_operatorAt kd vl) (len := x1) (code := x2)
          generalize fX0_write (fX0_operatorAt kd vl) x1 x2 = zz at hz ⊢
          obtain ⟨z1, z2⟩ := zz
          rw [bn2_]
          unfold fX0_readOver_3_1_J93b
          have hO' := nx_.1 rfl
          rw [eb] at hO'
          have r := ih (i + 1) 4 z1 z2 b' x3 x4 x5 x6 x7 x8 (by omega) (by omega) p4 hO' (by omega) (by decide) hz
          obtain ⟨y1, y2, y3, y4, y5, y6, y7, y8, y9, y10, y11, g1, g2, g3, g4, g5, g6⟩ := r
          exact ⟨y1, y2, y3, y4, y5, y6, y7, y8, y9, y10, y11, g1, g2, by omega, g4, g5, fun z => ⟨(g6 z).1, (g6 z).2.1, (g6 z).2.2.1.trans q3, (g6 z).2.2.2⟩⟩
        | false =>
          rw [if_neg (by decide)]
          exact ⟨_, _, _, _, _, _, _, _, false, kk, b', rfl, nx_.2 rfl, by omega, p4, p5, fun z => Bool.noConfusion z⟩
theorem ro_3_1 {s : Nat → Int32} {n b nx : Nat} {pl kd vl fa : Int32} {lt : Int64} {w : Nat → Int64} {f code : Nat → Int32} {len : Nat} (hn : n ≤ 1000) (hw : WT w) (hf : SG f s) (h : CT s n b nx pl kd vl lt) : RP (OverIs (kt s n) (nt s n) 3 1 b) s n b fa (fX0_readOver_3_1 len code n nx pl kd vl lt fa s w f) := by
  obtain ⟨x1, x2, x3, x4, x5, x6, x7, x8, ok, kk, b', p1, p2, p3, p4, p5, p6⟩ := rp_1 (len := len) (code := code) (fa := fa) hn hw hf h
  unfold fX0_readOver_3_1
  rw [p1, bn9_]
  cases ok with
  | true =>
    obtain ⟨q1, q2, q3, q4⟩ := p6 rfl
    subst q1
    rw [if_pos rfl, ← q3]
    exact ol_3_1 hn hw hf _ _ 0 4 x1 x2 b' x3 x4 x5 x6 x7 x8 (by omega) (by omega) p4 (ov_start p2) q2 (by decide) q4
  | false =>
    rw [if_neg (by decide)]
    exact ⟨_, _, _, _, _, _, _, _, false, kk, b', rfl, ov_fail0 p2, p3, p4, p5, fun z => Bool.noConfusion z⟩
set_option maxHeartbeats 4000000 in
theorem ol_2_1 {s : Nat → Int32} {n b0 : Nat} {w : Nat → Int64} {f : Nat → Int32} (hn : n ≤ 1000) (hw : WT w) (hf : SG f s) : ∀ k z i most len code b nx pl kd vl lt fa, 1000 + 1 - i < k → i ≤ b → CT s n b nx pl kd vl lt → OvL (kt s n) (nt s n) 2 1 b0 b most → b0 < b → most ≤ 4 → 1 ≤ len → RP (OverIs (kt s n) (nt s n) 2 1 b0) s n b0 fa (lp z (fX0_readOver_2_1_B17a n s w f) k (nI most) i len code nx pl kd vl lt fa) := by
  intro k
  induction k with
  | zero => intro z i most len code b nx pl kd vl lt fa q; exact absurd q (Nat.not_lt_zero _)
  | succ k ih =>
    intro z i most len code b nx pl kd vl lt fa hk hi h hO hb0 hm4 hln
    show RP _ s n b0 fa (fX0_readOver_2_1_B17a n s w f (lp z (fX0_readOver_2_1_B17a n s w f) k) (nI most) i len code nx pl kd vl lt fa)
    have ih := fun i most len code b nx pl kd vl lt fa => ih z i most len code b nx pl kd vl lt fa
    generalize lp z (fX0_readOver_2_1_B17a n s w f) k = rc at ih ⊢
    have hb4 := bnd_le (k := kt s n b)
    have hbn := h.1
    have stop : (bnd (kt s n b) < 2 ∨ most < bnd (kt s n b)) → RP (OverIs (kt s n) (nt s n) 2 1 b0) s n b0 fa (len, code, nx, pl, kd, vl, lt, fa, true) := fun y => ⟨_, _, _, _, _, _, _, _, true, 0, b, rfl, ov_stop hO y, Nat.le_of_lt hb0, h, fun z => Bool.noConfusion z, fun _ => ⟨rfl, hb0, rfl, hln⟩⟩
    unfold fX0_readOver_2_1_B17a fX0_readOver_2_1_J51a
    by_cases h1 : 1000 ≤ i
    · rw [if_pos h1]
      have e : b = n := by omega
      refine stop (Or.inl ?_)
      rw [kt_0 (by unfold tK; rw [if_pos e]; decide)]
      decide
    rw [if_neg h1, bn1_, bn1_, opT h]
    by_cases ht : bnd (kt s n b) < 2
    · rw [if_pos (by rw [Int32.lt_iff_toInt_lt, nI_toInt (by omega), show Int32.toInt 2 = 2 by decide]; omega)]
      exact stop (Or.inl ht)
    · rw [if_neg (show ¬ (nI (bnd (kt s n b)) < 2) from fun z => by rw [Int32.lt_iff_toInt_lt, nI_toInt (by omega), show Int32.toInt 2 = 2 by decide] at z; omega)]
      by_cases hm : most < bnd (kt s n b)
      · rw [if_neg (show ¬ (nI (bnd (kt s n b)) ≤ nI most) from fun z => by rw [Int32.le_iff_toInt_le, nI_toInt (by omega), nI_toInt (by omega)] at z; omega)]
        exact stop (Or.inr hm)
      rw [if_pos (by rw [Int32.le_iff_toInt_le, nI_toInt (by omega), nI_toInt (by omega)]; omega)]
      have hq : bnd (kt s n b) = 2 ∨ bnd (kt s n b) = 3 ∨ bnd (kt s n b) = 4 := by omega
      rcases hq with hq | hq | hq
      · have eb : bnd (kt s n b) = 2 := hq
        try rw [eb]
        rw [if_pos (show (nI 2 : Int32) = 2 by decide)]
        obtain ⟨a1, a2, a3, a4, a5, e1, e2⟩ := c_adv hn hw hf h
        rw [e1, bn5_]
        obtain ⟨x1, x2, x3, x4, x5, x6, x7, x8, ok, kk, b', p1, p2, p3, p4, p5, p6⟩ := ro_3_1 (len := len) (code := code) (fa := fa) hn hw hf e2
        rw [p1, bn9_]
        have hlt := nt_gt (f := s) (k_lt h.1 (by intro z; rw [z] at eb; exact absurd eb (by decide)))
        have nx_ := ov_next (by decide) hO (by omega) (by omega) (by rw [eb]; exact p2)
        cases ok with
        | true =>
          obtain ⟨q1, q2, q3, q4⟩ := p6 rfl
          rw [if_pos rfl]
          have hz := wr1 (x := fX0_operatorAt kd vl) (len := x1) (code := x2)
          generalize fX0_write (fX0_operatorAt kd vl) x1 x2 = zz at hz ⊢
          obtain ⟨z1, z2⟩ := zz
          rw [bn2_]
          unfold fX0_readOver_2_1_J93a
          have hO' := nx_.1 rfl
          rw [eb] at hO'
          have r := ih (i + 1) 1 z1 z2 b' x3 x4 x5 x6 x7 x8 (by omega) (by omega) p4 hO' (by omega) (by decide) hz
          obtain ⟨y1, y2, y3, y4, y5, y6, y7, y8, y9, y10, y11, g1, g2, g3, g4, g5, g6⟩ := r
          exact ⟨y1, y2, y3, y4, y5, y6, y7, y8, y9, y10, y11, g1, g2, by omega, g4, g5, fun z => ⟨(g6 z).1, (g6 z).2.1, (g6 z).2.2.1.trans q3, (g6 z).2.2.2⟩⟩
        | false =>
          rw [if_neg (by decide)]
          exact ⟨_, _, _, _, _, _, _, _, false, kk, b', rfl, nx_.2 rfl, by omega, p4, p5, fun z => Bool.noConfusion z⟩
      · have eb : bnd (kt s n b) = 3 := hq
        try rw [eb]
        rw [if_neg (show ¬ ((nI 3 : Int32) = 2) by decide)]
        rw [if_pos (show (nI 3 : Int32) = 3 by decide)]
        obtain ⟨a1, a2, a3, a4, a5, e1, e2⟩ := c_adv hn hw hf h
        rw [e1, bn5_]
        obtain ⟨x1, x2, x3, x4, x5, x6, x7, x8, ok, kk, b', p1, p2, p3, p4, p5, p6⟩ := ro_4_1 (len := len) (code := code) (fa := fa) hn hw hf e2
        rw [p1, bn9_]
        have hlt := nt_gt (f := s) (k_lt h.1 (by intro z; rw [z] at eb; exact absurd eb (by decide)))
        have nx_ := ov_next (by decide) hO (by omega) (by omega) (by rw [eb]; exact p2)
        cases ok with
        | true =>
          obtain ⟨q1, q2, q3, q4⟩ := p6 rfl
          rw [if_pos rfl]
          have hz := wr1 (x := fX0_operatorAt kd vl) (len := x1) (code := x2)
          generalize fX0_write (fX0_operatorAt kd vl) x1 x2 = zz at hz ⊢
          obtain ⟨z1, z2⟩ := zz
          rw [bn2_]
          unfold fX0_readOver_2_1_J93b
          have hO' := nx_.1 rfl
          rw [eb] at hO'
          have r := ih (i + 1) 3 z1 z2 b' x3 x4 x5 x6 x7 x8 (by omega) (by omega) p4 hO' (by omega) (by decide) hz
          obtain ⟨y1, y2, y3, y4, y5, y6, y7, y8, y9, y10, y11, g1, g2, g3, g4, g5, g6⟩ := r
          exact ⟨y1, y2, y3, y4, y5, y6, y7, y8, y9, y10, y11, g1, g2, by omega, g4, g5, fun z => ⟨(g6 z).1, (g6 z).2.1, (g6 z).2.2.1.trans q3, (g6 z).2.2.2⟩⟩
        | false =>
          rw [if_neg (by decide)]
          exact ⟨_, _, _, _, _, _, _, _, false, kk, b', rfl, nx_.2 rfl, by omega, p4, p5, fun z => Bool.noConfusion z⟩
      · have eb : bnd (kt s n b) = 4 := hq
        try rw [eb]
        rw [if_neg (show ¬ ((nI 4 : Int32) = 2) by decide)]
        rw [if_neg (show ¬ ((nI 4 : Int32) = 3) by decide)]
        obtain ⟨a1, a2, a3, a4, a5, e1, e2⟩ := c_adv hn hw hf h
        rw [e1, bn5_]
        obtain ⟨x1, x2, x3, x4, x5, x6, x7, x8, ok, kk, b', p1, p2, p3, p4, p5, p6⟩ := ro_5_1 (len := len) (code := code) (fa := fa) hn hw hf e2
        rw [p1, bn9_]
        have hlt := nt_gt (f := s) (k_lt h.1 (by intro z; rw [z] at eb; exact absurd eb (by decide)))
        have nx_ := ov_next (by decide) hO (by omega) (by omega) (by rw [eb]; exact p2)
        cases ok with
        | true =>
          obtain ⟨q1, q2, q3, q4⟩ := p6 rfl
          rw [if_pos rfl]
          have hz := wr1 (x := fX0_operatorAt kd vl) (len := x1) (code := x2)
          generalize fX0_write (fX0_operatorAt kd vl) x1 x2 = zz at hz ⊢
          obtain ⟨z1, z2⟩ := zz
          rw [bn2_]
          unfold fX0_readOver_2_1_J93c
          have hO' := nx_.1 rfl
          rw [eb] at hO'
          have r := ih (i + 1) 4 z1 z2 b' x3 x4 x5 x6 x7 x8 (by omega) (by omega) p4 hO' (by omega) (by decide) hz
          obtain ⟨y1, y2, y3, y4, y5, y6, y7, y8, y9, y10, y11, g1, g2, g3, g4, g5, g6⟩ := r
          exact ⟨y1, y2, y3, y4, y5, y6, y7, y8, y9, y10, y11, g1, g2, by omega, g4, g5, fun z => ⟨(g6 z).1, (g6 z).2.1, (g6 z).2.2.1.trans q3, (g6 z).2.2.2⟩⟩
        | false =>
          rw [if_neg (by decide)]
          exact ⟨_, _, _, _, _, _, _, _, false, kk, b', rfl, nx_.2 rfl, by omega, p4, p5, fun z => Bool.noConfusion z⟩
theorem ro_2_1 {s : Nat → Int32} {n b nx : Nat} {pl kd vl fa : Int32} {lt : Int64} {w : Nat → Int64} {f code : Nat → Int32} {len : Nat} (hn : n ≤ 1000) (hw : WT w) (hf : SG f s) (h : CT s n b nx pl kd vl lt) : RP (OverIs (kt s n) (nt s n) 2 1 b) s n b fa (fX0_readOver_2_1 len code n nx pl kd vl lt fa s w f) := by
  obtain ⟨x1, x2, x3, x4, x5, x6, x7, x8, ok, kk, b', p1, p2, p3, p4, p5, p6⟩ := rp_1 (len := len) (code := code) (fa := fa) hn hw hf h
  unfold fX0_readOver_2_1
  rw [p1, bn9_]
  cases ok with
  | true =>
    obtain ⟨q1, q2, q3, q4⟩ := p6 rfl
    subst q1
    rw [if_pos rfl, ← q3]
    exact ol_2_1 hn hw hf _ _ 0 4 x1 x2 b' x3 x4 x5 x6 x7 x8 (by omega) (by omega) p4 (ov_start p2) q2 (by decide) q4
  | false =>
    rw [if_neg (by decide)]
    exact ⟨_, _, _, _, _, _, _, _, false, kk, b', rfl, ov_fail0 p2, p3, p4, p5, fun z => Bool.noConfusion z⟩
set_option maxHeartbeats 4000000 in
theorem ol_1_1 {s : Nat → Int32} {n b0 : Nat} {w : Nat → Int64} {f : Nat → Int32} (hn : n ≤ 1000) (hw : WT w) (hf : SG f s) : ∀ k z i most len code b nx pl kd vl lt fa, 1000 + 1 - i < k → i ≤ b → CT s n b nx pl kd vl lt → OvL (kt s n) (nt s n) 1 1 b0 b most → b0 < b → most ≤ 4 → 1 ≤ len → RP (OverIs (kt s n) (nt s n) 1 1 b0) s n b0 fa (lp z (fX0_readOver_1_1_B17a n s w f) k (nI most) i len code nx pl kd vl lt fa) := by
  intro k
  induction k with
  | zero => intro z i most len code b nx pl kd vl lt fa q; exact absurd q (Nat.not_lt_zero _)
  | succ k ih =>
    intro z i most len code b nx pl kd vl lt fa hk hi h hO hb0 hm4 hln
    show RP _ s n b0 fa (fX0_readOver_1_1_B17a n s w f (lp z (fX0_readOver_1_1_B17a n s w f) k) (nI most) i len code nx pl kd vl lt fa)
    have ih := fun i most len code b nx pl kd vl lt fa => ih z i most len code b nx pl kd vl lt fa
    generalize lp z (fX0_readOver_1_1_B17a n s w f) k = rc at ih ⊢
    have hb4 := bnd_le (k := kt s n b)
    have hbn := h.1
    have stop : (bnd (kt s n b) < 1 ∨ most < bnd (kt s n b)) → RP (OverIs (kt s n) (nt s n) 1 1 b0) s n b0 fa (len, code, nx, pl, kd, vl, lt, fa, true) := fun y => ⟨_, _, _, _, _, _, _, _, true, 0, b, rfl, ov_stop hO y, Nat.le_of_lt hb0, h, fun z => Bool.noConfusion z, fun _ => ⟨rfl, hb0, rfl, hln⟩⟩
    unfold fX0_readOver_1_1_B17a fX0_readOver_1_1_J51a
    by_cases h1 : 1000 ≤ i
    · rw [if_pos h1]
      have e : b = n := by omega
      refine stop (Or.inl ?_)
      rw [kt_0 (by unfold tK; rw [if_pos e]; decide)]
      decide
    rw [if_neg h1, bn1_, bn1_, opT h]
    by_cases ht : bnd (kt s n b) < 1
    · rw [if_pos (by rw [Int32.lt_iff_toInt_lt, nI_toInt (by omega), show Int32.toInt 1 = 1 by decide]; omega)]
      exact stop (Or.inl ht)
    · rw [if_neg (show ¬ (nI (bnd (kt s n b)) < 1) from fun z => by rw [Int32.lt_iff_toInt_lt, nI_toInt (by omega), show Int32.toInt 1 = 1 by decide] at z; omega)]
      by_cases hm : most < bnd (kt s n b)
      · rw [if_neg (show ¬ (nI (bnd (kt s n b)) ≤ nI most) from fun z => by rw [Int32.le_iff_toInt_le, nI_toInt (by omega), nI_toInt (by omega)] at z; omega)]
        exact stop (Or.inr hm)
      rw [if_pos (by rw [Int32.le_iff_toInt_le, nI_toInt (by omega), nI_toInt (by omega)]; omega)]
      have hq : bnd (kt s n b) = 1 ∨ bnd (kt s n b) = 2 ∨ bnd (kt s n b) = 3 ∨ bnd (kt s n b) = 4 := by omega
      rcases hq with hq | hq | hq | hq
      · have eb : bnd (kt s n b) = 1 := hq
        try rw [eb]
        rw [if_pos (show (nI 1 : Int32) = 1 by decide)]
        obtain ⟨a1, a2, a3, a4, a5, e1, e2⟩ := c_adv hn hw hf h
        rw [e1, bn5_]
        obtain ⟨x1, x2, x3, x4, x5, x6, x7, x8, ok, kk, b', p1, p2, p3, p4, p5, p6⟩ := ro_2_1 (len := len) (code := code) (fa := fa) hn hw hf e2
        rw [p1, bn9_]
        have hlt := nt_gt (f := s) (k_lt h.1 (by intro z; rw [z] at eb; exact absurd eb (by decide)))
        have nx_ := ov_next (by decide) hO (by omega) (by omega) (by rw [eb]; exact p2)
        cases ok with
        | true =>
          obtain ⟨q1, q2, q3, q4⟩ := p6 rfl
          rw [if_pos rfl]
          have hz := wr1 (x := fX0_operatorAt kd vl) (len := x1) (code := x2)
          generalize fX0_write (fX0_operatorAt kd vl) x1 x2 = zz at hz ⊢
          obtain ⟨z1, z2⟩ := zz
          rw [bn2_]
          unfold fX0_readOver_1_1_J93a
          have hO' := nx_.1 rfl
          rw [eb] at hO'
          have r := ih (i + 1) 1 z1 z2 b' x3 x4 x5 x6 x7 x8 (by omega) (by omega) p4 hO' (by omega) (by decide) hz
          obtain ⟨y1, y2, y3, y4, y5, y6, y7, y8, y9, y10, y11, g1, g2, g3, g4, g5, g6⟩ := r
          exact ⟨y1, y2, y3, y4, y5, y6, y7, y8, y9, y10, y11, g1, g2, by omega, g4, g5, fun z => ⟨(g6 z).1, (g6 z).2.1, (g6 z).2.2.1.trans q3, (g6 z).2.2.2⟩⟩
        | false =>
          rw [if_neg (by decide)]
          exact ⟨_, _, _, _, _, _, _, _, false, kk, b', rfl, nx_.2 rfl, by omega, p4, p5, fun z => Bool.noConfusion z⟩
      · have eb : bnd (kt s n b) = 2 := hq
        try rw [eb]
        rw [if_neg (show ¬ ((nI 2 : Int32) = 1) by decide)]
        rw [if_pos (show (nI 2 : Int32) = 2 by decide)]
        obtain ⟨a1, a2, a3, a4, a5, e1, e2⟩ := c_adv hn hw hf h
        rw [e1, bn5_]
        obtain ⟨x1, x2, x3, x4, x5, x6, x7, x8, ok, kk, b', p1, p2, p3, p4, p5, p6⟩ := ro_3_1 (len := len) (code := code) (fa := fa) hn hw hf e2
        rw [p1, bn9_]
        have hlt := nt_gt (f := s) (k_lt h.1 (by intro z; rw [z] at eb; exact absurd eb (by decide)))
        have nx_ := ov_next (by decide) hO (by omega) (by omega) (by rw [eb]; exact p2)
        cases ok with
        | true =>
          obtain ⟨q1, q2, q3, q4⟩ := p6 rfl
          rw [if_pos rfl]
          have hz := wr1 (x := fX0_operatorAt kd vl) (len := x1) (code := x2)
          generalize fX0_write (fX0_operatorAt kd vl) x1 x2 = zz at hz ⊢
          obtain ⟨z1, z2⟩ := zz
          rw [bn2_]
          unfold fX0_readOver_1_1_J93b
          have hO' := nx_.1 rfl
          rw [eb] at hO'
          have r := ih (i + 1) 1 z1 z2 b' x3 x4 x5 x6 x7 x8 (by omega) (by omega) p4 hO' (by omega) (by decide) hz
          obtain ⟨y1, y2, y3, y4, y5, y6, y7, y8, y9, y10, y11, g1, g2, g3, g4, g5, g6⟩ := r
          exact ⟨y1, y2, y3, y4, y5, y6, y7, y8, y9, y10, y11, g1, g2, by omega, g4, g5, fun z => ⟨(g6 z).1, (g6 z).2.1, (g6 z).2.2.1.trans q3, (g6 z).2.2.2⟩⟩
        | false =>
          rw [if_neg (by decide)]
          exact ⟨_, _, _, _, _, _, _, _, false, kk, b', rfl, nx_.2 rfl, by omega, p4, p5, fun z => Bool.noConfusion z⟩
      · have eb : bnd (kt s n b) = 3 := hq
        try rw [eb]
        rw [if_neg (show ¬ ((nI 3 : Int32) = 1) by decide)]
        rw [if_neg (show ¬ ((nI 3 : Int32) = 2) by decide)]
        rw [if_pos (show (nI 3 : Int32) = 3 by decide)]
        obtain ⟨a1, a2, a3, a4, a5, e1, e2⟩ := c_adv hn hw hf h
        rw [e1, bn5_]
        obtain ⟨x1, x2, x3, x4, x5, x6, x7, x8, ok, kk, b', p1, p2, p3, p4, p5, p6⟩ := ro_4_1 (len := len) (code := code) (fa := fa) hn hw hf e2
        rw [p1, bn9_]
        have hlt := nt_gt (f := s) (k_lt h.1 (by intro z; rw [z] at eb; exact absurd eb (by decide)))
        have nx_ := ov_next (by decide) hO (by omega) (by omega) (by rw [eb]; exact p2)
        cases ok with
        | true =>
          obtain ⟨q1, q2, q3, q4⟩ := p6 rfl
          rw [if_pos rfl]
          have hz := wr1 (x := fX0_operatorAt kd vl) (len := x1) (code := x2)
          generalize fX0_write (fX0_operatorAt kd vl) x1 x2 = zz at hz ⊢
          obtain ⟨z1, z2⟩ := zz
          rw [bn2_]
          unfold fX0_readOver_1_1_J93c
          have hO' := nx_.1 rfl
          rw [eb] at hO'
          have r := ih (i + 1) 3 z1 z2 b' x3 x4 x5 x6 x7 x8 (by omega) (by omega) p4 hO' (by omega) (by decide) hz
          obtain ⟨y1, y2, y3, y4, y5, y6, y7, y8, y9, y10, y11, g1, g2, g3, g4, g5, g6⟩ := r
          exact ⟨y1, y2, y3, y4, y5, y6, y7, y8, y9, y10, y11, g1, g2, by omega, g4, g5, fun z => ⟨(g6 z).1, (g6 z).2.1, (g6 z).2.2.1.trans q3, (g6 z).2.2.2⟩⟩
        | false =>
          rw [if_neg (by decide)]
          exact ⟨_, _, _, _, _, _, _, _, false, kk, b', rfl, nx_.2 rfl, by omega, p4, p5, fun z => Bool.noConfusion z⟩
      · have eb : bnd (kt s n b) = 4 := hq
        try rw [eb]
        rw [if_neg (show ¬ ((nI 4 : Int32) = 1) by decide)]
        rw [if_neg (show ¬ ((nI 4 : Int32) = 2) by decide)]
        rw [if_neg (show ¬ ((nI 4 : Int32) = 3) by decide)]
        obtain ⟨a1, a2, a3, a4, a5, e1, e2⟩ := c_adv hn hw hf h
        rw [e1, bn5_]
        obtain ⟨x1, x2, x3, x4, x5, x6, x7, x8, ok, kk, b', p1, p2, p3, p4, p5, p6⟩ := ro_5_1 (len := len) (code := code) (fa := fa) hn hw hf e2
        rw [p1, bn9_]
        have hlt := nt_gt (f := s) (k_lt h.1 (by intro z; rw [z] at eb; exact absurd eb (by decide)))
        have nx_ := ov_next (by decide) hO (by omega) (by omega) (by rw [eb]; exact p2)
        cases ok with
        | true =>
          obtain ⟨q1, q2, q3, q4⟩ := p6 rfl
          rw [if_pos rfl]
          have hz := wr1 (x := fX0_operatorAt kd vl) (len := x1) (code := x2)
          generalize fX0_write (fX0_operatorAt kd vl) x1 x2 = zz at hz ⊢
          obtain ⟨z1, z2⟩ := zz
          rw [bn2_]
          unfold fX0_readOver_1_1_J93d
          have hO' := nx_.1 rfl
          rw [eb] at hO'
          have r := ih (i + 1) 4 z1 z2 b' x3 x4 x5 x6 x7 x8 (by omega) (by omega) p4 hO' (by omega) (by decide) hz
          obtain ⟨y1, y2, y3, y4, y5, y6, y7, y8, y9, y10, y11, g1, g2, g3, g4, g5, g6⟩ := r
          exact ⟨y1, y2, y3, y4, y5, y6, y7, y8, y9, y10, y11, g1, g2, by omega, g4, g5, fun z => ⟨(g6 z).1, (g6 z).2.1, (g6 z).2.2.1.trans q3, (g6 z).2.2.2⟩⟩
        | false =>
          rw [if_neg (by decide)]
          exact ⟨_, _, _, _, _, _, _, _, false, kk, b', rfl, nx_.2 rfl, by omega, p4, p5, fun z => Bool.noConfusion z⟩
theorem ro_1_1 {s : Nat → Int32} {n b nx : Nat} {pl kd vl fa : Int32} {lt : Int64} {w : Nat → Int64} {f code : Nat → Int32} {len : Nat} (hn : n ≤ 1000) (hw : WT w) (hf : SG f s) (h : CT s n b nx pl kd vl lt) : RP (OverIs (kt s n) (nt s n) 1 1 b) s n b fa (fX0_readOver_1_1 len code n nx pl kd vl lt fa s w f) := by
  obtain ⟨x1, x2, x3, x4, x5, x6, x7, x8, ok, kk, b', p1, p2, p3, p4, p5, p6⟩ := rp_1 (len := len) (code := code) (fa := fa) hn hw hf h
  unfold fX0_readOver_1_1
  rw [p1, bn9_]
  cases ok with
  | true =>
    obtain ⟨q1, q2, q3, q4⟩ := p6 rfl
    subst q1
    rw [if_pos rfl, ← q3]
    exact ol_1_1 hn hw hf _ _ 0 4 x1 x2 b' x3 x4 x5 x6 x7 x8 (by omega) (by omega) p4 (ov_start p2) q2 (by decide) q4
  | false =>
    rw [if_neg (by decide)]
    exact ⟨_, _, _, _, _, _, _, _, false, kk, b', rfl, ov_fail0 p2, p3, p4, p5, fun z => Bool.noConfusion z⟩
set_option maxHeartbeats 4000000 in
theorem rp_0 {s : Nat → Int32} {n b nx : Nat} {pl kd vl fa : Int32} {lt : Int64} {w : Nat → Int64} {f code : Nat → Int32} {len : Nat} (hn : n ≤ 1000) (hw : WT w) (hf : SG f s) (h : CT s n b nx pl kd vl lt) : RP (PartIs (kt s n) (nt s n) 0 b) s n b fa (fX0_readPart_0 len code n nx pl kd vl lt fa s w f) := by
  have w16 : fX6_isWord 16 kd vl = true ↔ tK s n b = 1 ∧ wo_ s n b = wd 16 := c_word h (j := 16) (by decide)
  obtain ⟨a1, a2, a3, a4, a5, e1, e2⟩ := c_adv hn hw hf h
  have vA : ∀ (x : Int32), kt s n b = 1 → RP (PartIs (kt s n) (nt s n) 0 b) s n b fa (fX0_readPart_0_J99a len code n nx lt fa s w f x) := by
    intro x k1
    unfold fX0_readPart_0_J99a
    have hz := wr1 (x := x) (len := len) (code := code)
    generalize fX0_write x len code = zz at hz ⊢
    obtain ⟨z1, z2⟩ := zz
    rw [bn2_, e1, bn5_]
    have hlt := nt_gt (f := s) (k_lt h.1 (by rw [k1]; decide))
    exact ⟨_, _, _, _, _, _, _, _, true, 0, _, rfl, part_v (by decide) k1, Nat.le_of_lt hlt, e2, fun z => Bool.noConfusion z, fun _ => ⟨rfl, hlt, rfl, hz⟩⟩
  have key : ∀ u1 s0 : Bool, (u1 = true ↔ tK s n b = 2) → (s0 = true ↔ tK s n b = 1 ∧ ∃ j, 19 ≤ j ∧ j < 23 ∧ wo_ s n b = wd j) → RP (PartIs (kt s n) (nt s n) 0 b) s n b fa (fX0_readPart_0_J19a len code n nx pl kd vl lt fa s w f u1 s0) := by
    intro u1 s0 h1 h2
    unfold fX0_readPart_0_J19a fX0_readPart_0_J58a fX0_readPart_0_J78a
    rw [bn1_]
    by_cases a : u1 = true
    · rw [if_pos a, if_pos a, if_pos a]; exact vA _ (k_1.mpr (Or.inl (h1.mp a)))
    rw [if_neg a, if_neg a, if_neg a]
    by_cases c : s0 = true
    · rw [if_pos c, if_pos c]; exact vA _ (k_1.mpr (Or.inr (h2.mp c)))
    rw [if_neg c, if_neg c, e1, bn5_]
    by_cases d : fX6_isWord 16 kd vl = true
    · rw [if_pos d, if_pos d]
      have hlt := nt_gt (f := s) (k_lt h.1 (by rw [k_2.mpr (w16.mp d)]; decide))
      obtain ⟨x1, x2, x3, x4, x5, x6, x7, x8, ok, k, b', p1, p2, p3, p4, p5, p6⟩ := rp_1 (len := len) (code := code) (fa := fa) hn hw hf e2
      rw [p1, bn9_]
      cases ok with
      | true =>
        obtain ⟨q1, q2, q3, q4⟩ := p6 rfl
        rw [if_pos rfl]
        have hz := wr1 (x := -5) (len := x1) (code := x2)
        generalize fX0_write (-5) x1 x2 = zz at hz ⊢
        obtain ⟨z1, z2⟩ := zz
        rw [bn2_]
        exact ⟨_, _, _, _, _, _, _, _, true, k, b', rfl, part_n (by decide) (k_2.mpr (w16.mp d)) p2, by omega, p4, fun z => Bool.noConfusion z, fun _ => ⟨q1, by omega, q3, hz⟩⟩
      | false =>
        rw [if_neg (by decide)]
        exact ⟨_, _, _, _, _, _, _, _, false, k, b', rfl, part_n (by decide) (k_2.mpr (w16.mp d)) p2, by omega, p4, p5, fun z => Bool.noConfusion z⟩
    rw [if_neg d, if_neg d, bn1_]
    by_cases e : fX6_isSign 40 kd vl = true
    · rw [if_pos e]
      have k3 := k_3.mpr ((c_sign h).mp e)
      have hlt := nt_gt (f := s) (k_lt h.1 (by rw [k3]; decide))
      unfold fX0_readPart_0_J142a
      obtain ⟨x1, x2, x3, x4, x5, x6, x7, x8, ok, k, b', p1, p2, p3, p4, p5, p6⟩ := ro_1_1 (len := len) (code := code) (fa := fa) hn hw hf e2
      rw [p1, bn9_]
      cases ok with
      | true =>
        obtain ⟨q1, q2, q3, q4⟩ := p6 rfl
        subst q1
        rw [if_pos rfl]
        unfold fX6_takeSign
        rw [bn1_]
        by_cases y : fX6_isSign 41 x5 x6 = true
        · have k4 := k_4.mpr ((c_sign p4).mp y)
          obtain ⟨c1, c2, c3, c4, c5, g1, g2⟩ := c_adv hn hw hf p4
          rw [if_pos y, g1, bn5_, bn7_, if_pos rfl]
          have := nt_gt (f := s) (k_lt p4.1 (by rw [k4]; decide))
          exact ⟨_, _, _, _, _, _, _, _, true, 0, _, rfl, part_ot (by decide) k3 p2 k4, by omega, g2, fun z => Bool.noConfusion z, fun _ => ⟨rfl, by omega, q3, q4⟩⟩
        · rw [if_neg y, c_wrong p4 1, bn2_, bn7_, if_neg (by decide)]
          exact ⟨_, _, _, _, _, _, _, _, false, 1, b', rfl, part_on (by decide) k3 p2 (fun z => y ((c_sign p4).mpr (k_4.mp z))), by omega, p4, fun _ => ⟨rfl, by decide⟩, fun z => Bool.noConfusion z⟩
      | false =>
        rw [if_neg (by decide)]
        exact ⟨_, _, _, _, _, _, _, _, false, k, b', rfl, part_of (by decide) k3 p2, by omega, p4, p5, fun z => Bool.noConfusion z⟩
    rw [if_neg e, c_wrong h 1, bn2_]
    refine ⟨_, _, _, _, _, _, _, _, false, 1, b, rfl, part_1 ?_, Nat.le_refl b, h, fun _ => ⟨rfl, by decide⟩, fun z => Bool.noConfusion z⟩
    rintro (y | y | y)
    · rcases k_1.mp y with z | z
      · exact a (h1.mpr z)
      · exact c (h2.mpr z)
    · exact d (w16.mpr (k_2.mp y))
    · exact e ((c_sign h).mpr (k_3.mp y))
  unfold fX0_readPart_0
  rw [bn1_, bn1_, c_num h]
  by_cases q : fX6_wordHere kd vl < 19
  · rw [if_pos q]
    exact key _ _ decide_eq_true_iff ⟨fun z => Bool.noConfusion z, fun z => absurd q ((c_fact h).mpr z)⟩
  · rw [if_neg q]
    exact key _ _ decide_eq_true_iff ⟨fun _ => (c_fact h).mp q, fun _ => rfl⟩
theorem ro_5_0 {s : Nat → Int32} {n b nx : Nat} {pl kd vl fa : Int32} {lt : Int64} {w : Nat → Int64} {f code : Nat → Int32} {len : Nat} (hn : n ≤ 1000) (hw : WT w) (hf : SG f s) (h : CT s n b nx pl kd vl lt) : RP (OverIs (kt s n) (nt s n) 5 0 b) s n b fa (fX0_readOver_5_0 len code n nx pl kd vl lt fa s w f) := by
  obtain ⟨x1, x2, x3, x4, x5, x6, x7, x8, ok, kk, b', p1, p2, p3, p4, p5, p6⟩ := rp_0 (len := len) (code := code) (fa := fa) hn hw hf h
  unfold fX0_readOver_5_0
  rw [p1, bn9_]
  cases ok with
  | true =>
    obtain ⟨q1, q2, q3, q4⟩ := p6 rfl
    subst q1
    rw [if_pos rfl]
    show RP _ s n b fa (fX0_readOver_5_0_B17a x1 x2 x3 x4 x5 x6 x7 x8 _ 0)
    unfold fX0_readOver_5_0_B17a fX0_readOver_5_0_J51a
    have hb4 := bnd_le (k := kt s n b')
    rw [if_neg (by decide), bn1_, bn1_, opT p4, if_pos (by rw [Int32.lt_iff_toInt_lt, nI_toInt (by omega), show Int32.toInt 5 = 5 by decide]; omega)]
    exact ⟨_, _, _, _, _, _, _, _, true, 0, b', rfl, ov_stop (ov_start p2) (Or.inl (by omega)), p3, p4, fun z => Bool.noConfusion z, fun _ => ⟨rfl, q2, q3, q4⟩⟩
  | false =>
    rw [if_neg (by decide)]
    exact ⟨_, _, _, _, _, _, _, _, false, kk, b', rfl, ov_fail0 p2, p3, p4, p5, fun z => Bool.noConfusion z⟩
set_option maxHeartbeats 4000000 in
theorem ol_4_0 {s : Nat → Int32} {n b0 : Nat} {w : Nat → Int64} {f : Nat → Int32} (hn : n ≤ 1000) (hw : WT w) (hf : SG f s) : ∀ k z i most len code b nx pl kd vl lt fa, 1000 + 1 - i < k → i ≤ b → CT s n b nx pl kd vl lt → OvL (kt s n) (nt s n) 4 0 b0 b most → b0 < b → most ≤ 4 → 1 ≤ len → RP (OverIs (kt s n) (nt s n) 4 0 b0) s n b0 fa (lp z (fX0_readOver_4_0_B17a n s w f) k (nI most) i len code nx pl kd vl lt fa) := by
  intro k
  induction k with
  | zero => intro z i most len code b nx pl kd vl lt fa q; exact absurd q (Nat.not_lt_zero _)
  | succ k ih =>
    intro z i most len code b nx pl kd vl lt fa hk hi h hO hb0 hm4 hln
    show RP _ s n b0 fa (fX0_readOver_4_0_B17a n s w f (lp z (fX0_readOver_4_0_B17a n s w f) k) (nI most) i len code nx pl kd vl lt fa)
    have ih := fun i most len code b nx pl kd vl lt fa => ih z i most len code b nx pl kd vl lt fa
    generalize lp z (fX0_readOver_4_0_B17a n s w f) k = rc at ih ⊢
    have hb4 := bnd_le (k := kt s n b)
    have hbn := h.1
    have stop : (bnd (kt s n b) < 4 ∨ most < bnd (kt s n b)) → RP (OverIs (kt s n) (nt s n) 4 0 b0) s n b0 fa (len, code, nx, pl, kd, vl, lt, fa, true) := fun y => ⟨_, _, _, _, _, _, _, _, true, 0, b, rfl, ov_stop hO y, Nat.le_of_lt hb0, h, fun z => Bool.noConfusion z, fun _ => ⟨rfl, hb0, rfl, hln⟩⟩
    unfold fX0_readOver_4_0_B17a fX0_readOver_4_0_J51a
    by_cases h1 : 1000 ≤ i
    · rw [if_pos h1]
      have e : b = n := by omega
      refine stop (Or.inl ?_)
      rw [kt_0 (by unfold tK; rw [if_pos e]; decide)]
      decide
    rw [if_neg h1, bn1_, bn1_, opT h]
    by_cases ht : bnd (kt s n b) < 4
    · rw [if_pos (by rw [Int32.lt_iff_toInt_lt, nI_toInt (by omega), show Int32.toInt 4 = 4 by decide]; omega)]
      exact stop (Or.inl ht)
    · rw [if_neg (show ¬ (nI (bnd (kt s n b)) < 4) from fun z => by rw [Int32.lt_iff_toInt_lt, nI_toInt (by omega), show Int32.toInt 4 = 4 by decide] at z; omega)]
      by_cases hm : most < bnd (kt s n b)
      · rw [if_neg (show ¬ (nI (bnd (kt s n b)) ≤ nI most) from fun z => by rw [Int32.le_iff_toInt_le, nI_toInt (by omega), nI_toInt (by omega)] at z; omega)]
        exact stop (Or.inr hm)
      rw [if_pos (by rw [Int32.le_iff_toInt_le, nI_toInt (by omega), nI_toInt (by omega)]; omega)]
      have hq : bnd (kt s n b) = 4 := by omega
      rcases hq with hq
      · have eb : bnd (kt s n b) = 4 := hq
        try rw [eb]
        obtain ⟨a1, a2, a3, a4, a5, e1, e2⟩ := c_adv hn hw hf h
        rw [e1, bn5_]
        obtain ⟨x1, x2, x3, x4, x5, x6, x7, x8, ok, kk, b', p1, p2, p3, p4, p5, p6⟩ := ro_5_0 (len := len) (code := code) (fa := fa) hn hw hf e2
        rw [p1, bn9_]
        have hlt := nt_gt (f := s) (k_lt h.1 (by intro z; rw [z] at eb; exact absurd eb (by decide)))
        have nx_ := ov_next (by decide) hO (by omega) (by omega) (by rw [eb]; exact p2)
        cases ok with
        | true =>
          obtain ⟨q1, q2, q3, q4⟩ := p6 rfl
          rw [if_pos rfl]
          have hz := wr1 (x := fX0_operatorAt kd vl) (len := x1) (code := x2)
          generalize fX0_write (fX0_operatorAt kd vl) x1 x2 = zz at hz ⊢
          obtain ⟨z1, z2⟩ := zz
          rw [bn2_]
          unfold fX0_readOver_4_0_J93a
          have hO' := nx_.1 rfl
          rw [eb] at hO'
          have r := ih (i + 1) 4 z1 z2 b' x3 x4 x5 x6 x7 x8 (by omega) (by omega) p4 hO' (by omega) (by decide) hz
          obtain ⟨y1, y2, y3, y4, y5, y6, y7, y8, y9, y10, y11, g1, g2, g3, g4, g5, g6⟩ := r
          exact ⟨y1, y2, y3, y4, y5, y6, y7, y8, y9, y10, y11, g1, g2, by omega, g4, g5, fun z => ⟨(g6 z).1, (g6 z).2.1, (g6 z).2.2.1.trans q3, (g6 z).2.2.2⟩⟩
        | false =>
          rw [if_neg (by decide)]
          exact ⟨_, _, _, _, _, _, _, _, false, kk, b', rfl, nx_.2 rfl, by omega, p4, p5, fun z => Bool.noConfusion z⟩
theorem ro_4_0 {s : Nat → Int32} {n b nx : Nat} {pl kd vl fa : Int32} {lt : Int64} {w : Nat → Int64} {f code : Nat → Int32} {len : Nat} (hn : n ≤ 1000) (hw : WT w) (hf : SG f s) (h : CT s n b nx pl kd vl lt) : RP (OverIs (kt s n) (nt s n) 4 0 b) s n b fa (fX0_readOver_4_0 len code n nx pl kd vl lt fa s w f) := by
  obtain ⟨x1, x2, x3, x4, x5, x6, x7, x8, ok, kk, b', p1, p2, p3, p4, p5, p6⟩ := rp_0 (len := len) (code := code) (fa := fa) hn hw hf h
  unfold fX0_readOver_4_0
  rw [p1, bn9_]
  cases ok with
  | true =>
    obtain ⟨q1, q2, q3, q4⟩ := p6 rfl
    subst q1
    rw [if_pos rfl, ← q3]
    exact ol_4_0 hn hw hf _ _ 0 4 x1 x2 b' x3 x4 x5 x6 x7 x8 (by omega) (by omega) p4 (ov_start p2) q2 (by decide) q4
  | false =>
    rw [if_neg (by decide)]
    exact ⟨_, _, _, _, _, _, _, _, false, kk, b', rfl, ov_fail0 p2, p3, p4, p5, fun z => Bool.noConfusion z⟩
set_option maxHeartbeats 4000000 in
theorem ol_3_0 {s : Nat → Int32} {n b0 : Nat} {w : Nat → Int64} {f : Nat → Int32} (hn : n ≤ 1000) (hw : WT w) (hf : SG f s) : ∀ k z i most len code b nx pl kd vl lt fa, 1000 + 1 - i < k → i ≤ b → CT s n b nx pl kd vl lt → OvL (kt s n) (nt s n) 3 0 b0 b most → b0 < b → most ≤ 4 → 1 ≤ len → RP (OverIs (kt s n) (nt s n) 3 0 b0) s n b0 fa (lp z (fX0_readOver_3_0_B17a n s w f) k (nI most) i len code nx pl kd vl lt fa) := by
  intro k
  induction k with
  | zero => intro z i most len code b nx pl kd vl lt fa q; exact absurd q (Nat.not_lt_zero _)
  | succ k ih =>
    intro z i most len code b nx pl kd vl lt fa hk hi h hO hb0 hm4 hln
    show RP _ s n b0 fa (fX0_readOver_3_0_B17a n s w f (lp z (fX0_readOver_3_0_B17a n s w f) k) (nI most) i len code nx pl kd vl lt fa)
    have ih := fun i most len code b nx pl kd vl lt fa => ih z i most len code b nx pl kd vl lt fa
    generalize lp z (fX0_readOver_3_0_B17a n s w f) k = rc at ih ⊢
    have hb4 := bnd_le (k := kt s n b)
    have hbn := h.1
    have stop : (bnd (kt s n b) < 3 ∨ most < bnd (kt s n b)) → RP (OverIs (kt s n) (nt s n) 3 0 b0) s n b0 fa (len, code, nx, pl, kd, vl, lt, fa, true) := fun y => ⟨_, _, _, _, _, _, _, _, true, 0, b, rfl, ov_stop hO y, Nat.le_of_lt hb0, h, fun z => Bool.noConfusion z, fun _ => ⟨rfl, hb0, rfl, hln⟩⟩
    unfold fX0_readOver_3_0_B17a fX0_readOver_3_0_J51a
    by_cases h1 : 1000 ≤ i
    · rw [if_pos h1]
      have e : b = n := by omega
      refine stop (Or.inl ?_)
      rw [kt_0 (by unfold tK; rw [if_pos e]; decide)]
      decide
    rw [if_neg h1, bn1_, bn1_, opT h]
    by_cases ht : bnd (kt s n b) < 3
    · rw [if_pos (by rw [Int32.lt_iff_toInt_lt, nI_toInt (by omega), show Int32.toInt 3 = 3 by decide]; omega)]
      exact stop (Or.inl ht)
    · rw [if_neg (show ¬ (nI (bnd (kt s n b)) < 3) from fun z => by rw [Int32.lt_iff_toInt_lt, nI_toInt (by omega), show Int32.toInt 3 = 3 by decide] at z; omega)]
      by_cases hm : most < bnd (kt s n b)
      · rw [if_neg (show ¬ (nI (bnd (kt s n b)) ≤ nI most) from fun z => by rw [Int32.le_iff_toInt_le, nI_toInt (by omega), nI_toInt (by omega)] at z; omega)]
        exact stop (Or.inr hm)
      rw [if_pos (by rw [Int32.le_iff_toInt_le, nI_toInt (by omega), nI_toInt (by omega)]; omega)]
      have hq : bnd (kt s n b) = 3 ∨ bnd (kt s n b) = 4 := by omega
      rcases hq with hq | hq
      · have eb : bnd (kt s n b) = 3 := hq
        try rw [eb]
        rw [if_pos (show (nI 3 : Int32) = 3 by decide)]
        obtain ⟨a1, a2, a3, a4, a5, e1, e2⟩ := c_adv hn hw hf h
        rw [e1, bn5_]
        obtain ⟨x1, x2, x3, x4, x5, x6, x7, x8, ok, kk, b', p1, p2, p3, p4, p5, p6⟩ := ro_4_0 (len := len) (code := code) (fa := fa) hn hw hf e2
        rw [p1, bn9_]
        have hlt := nt_gt (f := s) (k_lt h.1 (by intro z; rw [z] at eb; exact absurd eb (by decide)))
        have nx_ := ov_next (by decide) hO (by omega) (by omega) (by rw [eb]; exact p2)
        cases ok with
        | true =>
          obtain ⟨q1, q2, q3, q4⟩ := p6 rfl
          rw [if_pos rfl]
          have hz := wr1 (x := fX0_operatorAt kd vl) (len := x1) (code := x2)
          generalize fX0_write (fX0_operatorAt kd vl) x1 x2 = zz at hz ⊢
          obtain ⟨z1, z2⟩ := zz
          rw [bn2_]
          unfold fX0_readOver_3_0_J93a
          have hO' := nx_.1 rfl
          rw [eb] at hO'
          have r := ih (i + 1) 3 z1 z2 b' x3 x4 x5 x6 x7 x8 (by omega) (by omega) p4 hO' (by omega) (by decide) hz
          obtain ⟨y1, y2, y3, y4, y5, y6, y7, y8, y9, y10, y11, g1, g2, g3, g4, g5, g6⟩ := r
          exact ⟨y1, y2, y3, y4, y5, y6, y7, y8, y9, y10, y11, g1, g2, by omega, g4, g5, fun z => ⟨(g6 z).1, (g6 z).2.1, (g6 z).2.2.1.trans q3, (g6 z).2.2.2⟩⟩
        | false =>
          rw [if_neg (by decide)]
          exact ⟨_, _, _, _, _, _, _, _, false, kk, b', rfl, nx_.2 rfl, by omega, p4, p5, fun z => Bool.noConfusion z⟩
      · have eb : bnd (kt s n b) = 4 := hq
        try rw [eb]
        rw [if_neg (show ¬ ((nI 4 : Int32) = 3) by decide)]
        obtain ⟨a1, a2, a3, a4, a5, e1, e2⟩ := c_adv hn hw hf h
        rw [e1, bn5_]
        obtain ⟨x1, x2, x3, x4, x5, x6, x7, x8, ok, kk, b', p1, p2, p3, p4, p5, p6⟩ := ro_5_0 (len := len) (code := code) (fa := fa) hn hw hf e2
        rw [p1, bn9_]
        have hlt := nt_gt (f := s) (k_lt h.1 (by intro z; rw [z] at eb; exact absurd eb (by decide)))
        have nx_ := ov_next (by decide) hO (by omega) (by omega) (by rw [eb]; exact p2)
        cases ok with
        | true =>
          obtain ⟨q1, q2, q3, q4⟩ := p6 rfl
          rw [if_pos rfl]
          have hz := wr1 (x := fX0_operatorAt kd vl) (len := x1) (code := x2)
          generalize fX0_write (fX0_operatorAt kd vl) x1 x2 = zz at hz ⊢
          obtain ⟨z1, z2⟩ := zz
          rw [bn2_]
          unfold fX0_readOver_3_0_J93b
          have hO' := nx_.1 rfl
          rw [eb] at hO'
          have r := ih (i + 1) 4 z1 z2 b' x3 x4 x5 x6 x7 x8 (by omega) (by omega) p4 hO' (by omega) (by decide) hz
          obtain ⟨y1, y2, y3, y4, y5, y6, y7, y8, y9, y10, y11, g1, g2, g3, g4, g5, g6⟩ := r
          exact ⟨y1, y2, y3, y4, y5, y6, y7, y8, y9, y10, y11, g1, g2, by omega, g4, g5, fun z => ⟨(g6 z).1, (g6 z).2.1, (g6 z).2.2.1.trans q3, (g6 z).2.2.2⟩⟩
        | false =>
          rw [if_neg (by decide)]
          exact ⟨_, _, _, _, _, _, _, _, false, kk, b', rfl, nx_.2 rfl, by omega, p4, p5, fun z => Bool.noConfusion z⟩
theorem ro_3_0 {s : Nat → Int32} {n b nx : Nat} {pl kd vl fa : Int32} {lt : Int64} {w : Nat → Int64} {f code : Nat → Int32} {len : Nat} (hn : n ≤ 1000) (hw : WT w) (hf : SG f s) (h : CT s n b nx pl kd vl lt) : RP (OverIs (kt s n) (nt s n) 3 0 b) s n b fa (fX0_readOver_3_0 len code n nx pl kd vl lt fa s w f) := by
  obtain ⟨x1, x2, x3, x4, x5, x6, x7, x8, ok, kk, b', p1, p2, p3, p4, p5, p6⟩ := rp_0 (len := len) (code := code) (fa := fa) hn hw hf h
  unfold fX0_readOver_3_0
  rw [p1, bn9_]
  cases ok with
  | true =>
    obtain ⟨q1, q2, q3, q4⟩ := p6 rfl
    subst q1
    rw [if_pos rfl, ← q3]
    exact ol_3_0 hn hw hf _ _ 0 4 x1 x2 b' x3 x4 x5 x6 x7 x8 (by omega) (by omega) p4 (ov_start p2) q2 (by decide) q4
  | false =>
    rw [if_neg (by decide)]
    exact ⟨_, _, _, _, _, _, _, _, false, kk, b', rfl, ov_fail0 p2, p3, p4, p5, fun z => Bool.noConfusion z⟩
set_option maxHeartbeats 4000000 in
theorem ol_2_0 {s : Nat → Int32} {n b0 : Nat} {w : Nat → Int64} {f : Nat → Int32} (hn : n ≤ 1000) (hw : WT w) (hf : SG f s) : ∀ k z i most len code b nx pl kd vl lt fa, 1000 + 1 - i < k → i ≤ b → CT s n b nx pl kd vl lt → OvL (kt s n) (nt s n) 2 0 b0 b most → b0 < b → most ≤ 4 → 1 ≤ len → RP (OverIs (kt s n) (nt s n) 2 0 b0) s n b0 fa (lp z (fX0_readOver_2_0_B17a n s w f) k (nI most) i len code nx pl kd vl lt fa) := by
  intro k
  induction k with
  | zero => intro z i most len code b nx pl kd vl lt fa q; exact absurd q (Nat.not_lt_zero _)
  | succ k ih =>
    intro z i most len code b nx pl kd vl lt fa hk hi h hO hb0 hm4 hln
    show RP _ s n b0 fa (fX0_readOver_2_0_B17a n s w f (lp z (fX0_readOver_2_0_B17a n s w f) k) (nI most) i len code nx pl kd vl lt fa)
    have ih := fun i most len code b nx pl kd vl lt fa => ih z i most len code b nx pl kd vl lt fa
    generalize lp z (fX0_readOver_2_0_B17a n s w f) k = rc at ih ⊢
    have hb4 := bnd_le (k := kt s n b)
    have hbn := h.1
    have stop : (bnd (kt s n b) < 2 ∨ most < bnd (kt s n b)) → RP (OverIs (kt s n) (nt s n) 2 0 b0) s n b0 fa (len, code, nx, pl, kd, vl, lt, fa, true) := fun y => ⟨_, _, _, _, _, _, _, _, true, 0, b, rfl, ov_stop hO y, Nat.le_of_lt hb0, h, fun z => Bool.noConfusion z, fun _ => ⟨rfl, hb0, rfl, hln⟩⟩
    unfold fX0_readOver_2_0_B17a fX0_readOver_2_0_J51a
    by_cases h1 : 1000 ≤ i
    · rw [if_pos h1]
      have e : b = n := by omega
      refine stop (Or.inl ?_)
      rw [kt_0 (by unfold tK; rw [if_pos e]; decide)]
      decide
    rw [if_neg h1, bn1_, bn1_, opT h]
    by_cases ht : bnd (kt s n b) < 2
    · rw [if_pos (by rw [Int32.lt_iff_toInt_lt, nI_toInt (by omega), show Int32.toInt 2 = 2 by decide]; omega)]
      exact stop (Or.inl ht)
    · rw [if_neg (show ¬ (nI (bnd (kt s n b)) < 2) from fun z => by rw [Int32.lt_iff_toInt_lt, nI_toInt (by omega), show Int32.toInt 2 = 2 by decide] at z; omega)]
      by_cases hm : most < bnd (kt s n b)
      · rw [if_neg (show ¬ (nI (bnd (kt s n b)) ≤ nI most) from fun z => by rw [Int32.le_iff_toInt_le, nI_toInt (by omega), nI_toInt (by omega)] at z; omega)]
        exact stop (Or.inr hm)
      rw [if_pos (by rw [Int32.le_iff_toInt_le, nI_toInt (by omega), nI_toInt (by omega)]; omega)]
      have hq : bnd (kt s n b) = 2 ∨ bnd (kt s n b) = 3 ∨ bnd (kt s n b) = 4 := by omega
      rcases hq with hq | hq | hq
      · have eb : bnd (kt s n b) = 2 := hq
        try rw [eb]
        rw [if_pos (show (nI 2 : Int32) = 2 by decide)]
        obtain ⟨a1, a2, a3, a4, a5, e1, e2⟩ := c_adv hn hw hf h
        rw [e1, bn5_]
        obtain ⟨x1, x2, x3, x4, x5, x6, x7, x8, ok, kk, b', p1, p2, p3, p4, p5, p6⟩ := ro_3_0 (len := len) (code := code) (fa := fa) hn hw hf e2
        rw [p1, bn9_]
        have hlt := nt_gt (f := s) (k_lt h.1 (by intro z; rw [z] at eb; exact absurd eb (by decide)))
        have nx_ := ov_next (by decide) hO (by omega) (by omega) (by rw [eb]; exact p2)
        cases ok with
        | true =>
          obtain ⟨q1, q2, q3, q4⟩ := p6 rfl
          rw [if_pos rfl]
          have hz := wr1 (x := fX0_operatorAt kd vl) (len := x1) (code := x2)
          generalize fX0_write (fX0_operatorAt kd vl) x1 x2 = zz at hz ⊢
          obtain ⟨z1, z2⟩ := zz
          rw [bn2_]
          unfold fX0_readOver_2_0_J93a
          have hO' := nx_.1 rfl
          rw [eb] at hO'
          have r := ih (i + 1) 1 z1 z2 b' x3 x4 x5 x6 x7 x8 (by omega) (by omega) p4 hO' (by omega) (by decide) hz
          obtain ⟨y1, y2, y3, y4, y5, y6, y7, y8, y9, y10, y11, g1, g2, g3, g4, g5, g6⟩ := r
          exact ⟨y1, y2, y3, y4, y5, y6, y7, y8, y9, y10, y11, g1, g2, by omega, g4, g5, fun z => ⟨(g6 z).1, (g6 z).2.1, (g6 z).2.2.1.trans q3, (g6 z).2.2.2⟩⟩
        | false =>
          rw [if_neg (by decide)]
          exact ⟨_, _, _, _, _, _, _, _, false, kk, b', rfl, nx_.2 rfl, by omega, p4, p5, fun z => Bool.noConfusion z⟩
      · have eb : bnd (kt s n b) = 3 := hq
        try rw [eb]
        rw [if_neg (show ¬ ((nI 3 : Int32) = 2) by decide)]
        rw [if_pos (show (nI 3 : Int32) = 3 by decide)]
        obtain ⟨a1, a2, a3, a4, a5, e1, e2⟩ := c_adv hn hw hf h
        rw [e1, bn5_]
        obtain ⟨x1, x2, x3, x4, x5, x6, x7, x8, ok, kk, b', p1, p2, p3, p4, p5, p6⟩ := ro_4_0 (len := len) (code := code) (fa := fa) hn hw hf e2
        rw [p1, bn9_]
        have hlt := nt_gt (f := s) (k_lt h.1 (by intro z; rw [z] at eb; exact absurd eb (by decide)))
        have nx_ := ov_next (by decide) hO (by omega) (by omega) (by rw [eb]; exact p2)
        cases ok with
        | true =>
          obtain ⟨q1, q2, q3, q4⟩ := p6 rfl
          rw [if_pos rfl]
          have hz := wr1 (x := fX0_operatorAt kd vl) (len := x1) (code := x2)
          generalize fX0_write (fX0_operatorAt kd vl) x1 x2 = zz at hz ⊢
          obtain ⟨z1, z2⟩ := zz
          rw [bn2_]
          unfold fX0_readOver_2_0_J93b
          have hO' := nx_.1 rfl
          rw [eb] at hO'
          have r := ih (i + 1) 3 z1 z2 b' x3 x4 x5 x6 x7 x8 (by omega) (by omega) p4 hO' (by omega) (by decide) hz
          obtain ⟨y1, y2, y3, y4, y5, y6, y7, y8, y9, y10, y11, g1, g2, g3, g4, g5, g6⟩ := r
          exact ⟨y1, y2, y3, y4, y5, y6, y7, y8, y9, y10, y11, g1, g2, by omega, g4, g5, fun z => ⟨(g6 z).1, (g6 z).2.1, (g6 z).2.2.1.trans q3, (g6 z).2.2.2⟩⟩
        | false =>
          rw [if_neg (by decide)]
          exact ⟨_, _, _, _, _, _, _, _, false, kk, b', rfl, nx_.2 rfl, by omega, p4, p5, fun z => Bool.noConfusion z⟩
      · have eb : bnd (kt s n b) = 4 := hq
        try rw [eb]
        rw [if_neg (show ¬ ((nI 4 : Int32) = 2) by decide)]
        rw [if_neg (show ¬ ((nI 4 : Int32) = 3) by decide)]
        obtain ⟨a1, a2, a3, a4, a5, e1, e2⟩ := c_adv hn hw hf h
        rw [e1, bn5_]
        obtain ⟨x1, x2, x3, x4, x5, x6, x7, x8, ok, kk, b', p1, p2, p3, p4, p5, p6⟩ := ro_5_0 (len := len) (code := code) (fa := fa) hn hw hf e2
        rw [p1, bn9_]
        have hlt := nt_gt (f := s) (k_lt h.1 (by intro z; rw [z] at eb; exact absurd eb (by decide)))
        have nx_ := ov_next (by decide) hO (by omega) (by omega) (by rw [eb]; exact p2)
        cases ok with
        | true =>
          obtain ⟨q1, q2, q3, q4⟩ := p6 rfl
          rw [if_pos rfl]
          have hz := wr1 (x := fX0_operatorAt kd vl) (len := x1) (code := x2)
          generalize fX0_write (fX0_operatorAt kd vl) x1 x2 = zz at hz ⊢
          obtain ⟨z1, z2⟩ := zz
          rw [bn2_]
          unfold fX0_readOver_2_0_J93c
          have hO' := nx_.1 rfl
          rw [eb] at hO'
          have r := ih (i + 1) 4 z1 z2 b' x3 x4 x5 x6 x7 x8 (by omega) (by omega) p4 hO' (by omega) (by decide) hz
          obtain ⟨y1, y2, y3, y4, y5, y6, y7, y8, y9, y10, y11, g1, g2, g3, g4, g5, g6⟩ := r
          exact ⟨y1, y2, y3, y4, y5, y6, y7, y8, y9, y10, y11, g1, g2, by omega, g4, g5, fun z => ⟨(g6 z).1, (g6 z).2.1, (g6 z).2.2.1.trans q3, (g6 z).2.2.2⟩⟩
        | false =>
          rw [if_neg (by decide)]
          exact ⟨_, _, _, _, _, _, _, _, false, kk, b', rfl, nx_.2 rfl, by omega, p4, p5, fun z => Bool.noConfusion z⟩
theorem ro_2_0 {s : Nat → Int32} {n b nx : Nat} {pl kd vl fa : Int32} {lt : Int64} {w : Nat → Int64} {f code : Nat → Int32} {len : Nat} (hn : n ≤ 1000) (hw : WT w) (hf : SG f s) (h : CT s n b nx pl kd vl lt) : RP (OverIs (kt s n) (nt s n) 2 0 b) s n b fa (fX0_readOver_2_0 len code n nx pl kd vl lt fa s w f) := by
  obtain ⟨x1, x2, x3, x4, x5, x6, x7, x8, ok, kk, b', p1, p2, p3, p4, p5, p6⟩ := rp_0 (len := len) (code := code) (fa := fa) hn hw hf h
  unfold fX0_readOver_2_0
  rw [p1, bn9_]
  cases ok with
  | true =>
    obtain ⟨q1, q2, q3, q4⟩ := p6 rfl
    subst q1
    rw [if_pos rfl, ← q3]
    exact ol_2_0 hn hw hf _ _ 0 4 x1 x2 b' x3 x4 x5 x6 x7 x8 (by omega) (by omega) p4 (ov_start p2) q2 (by decide) q4
  | false =>
    rw [if_neg (by decide)]
    exact ⟨_, _, _, _, _, _, _, _, false, kk, b', rfl, ov_fail0 p2, p3, p4, p5, fun z => Bool.noConfusion z⟩
set_option maxHeartbeats 4000000 in
theorem ol_1_0 {s : Nat → Int32} {n b0 : Nat} {w : Nat → Int64} {f : Nat → Int32} (hn : n ≤ 1000) (hw : WT w) (hf : SG f s) : ∀ k z i most len code b nx pl kd vl lt fa, 1000 + 1 - i < k → i ≤ b → CT s n b nx pl kd vl lt → OvL (kt s n) (nt s n) 1 0 b0 b most → b0 < b → most ≤ 4 → 1 ≤ len → RP (OverIs (kt s n) (nt s n) 1 0 b0) s n b0 fa (lp z (fX0_readOver_1_0_B17a n s w f) k (nI most) i len code nx pl kd vl lt fa) := by
  intro k
  induction k with
  | zero => intro z i most len code b nx pl kd vl lt fa q; exact absurd q (Nat.not_lt_zero _)
  | succ k ih =>
    intro z i most len code b nx pl kd vl lt fa hk hi h hO hb0 hm4 hln
    show RP _ s n b0 fa (fX0_readOver_1_0_B17a n s w f (lp z (fX0_readOver_1_0_B17a n s w f) k) (nI most) i len code nx pl kd vl lt fa)
    have ih := fun i most len code b nx pl kd vl lt fa => ih z i most len code b nx pl kd vl lt fa
    generalize lp z (fX0_readOver_1_0_B17a n s w f) k = rc at ih ⊢
    have hb4 := bnd_le (k := kt s n b)
    have hbn := h.1
    have stop : (bnd (kt s n b) < 1 ∨ most < bnd (kt s n b)) → RP (OverIs (kt s n) (nt s n) 1 0 b0) s n b0 fa (len, code, nx, pl, kd, vl, lt, fa, true) := fun y => ⟨_, _, _, _, _, _, _, _, true, 0, b, rfl, ov_stop hO y, Nat.le_of_lt hb0, h, fun z => Bool.noConfusion z, fun _ => ⟨rfl, hb0, rfl, hln⟩⟩
    unfold fX0_readOver_1_0_B17a fX0_readOver_1_0_J51a
    by_cases h1 : 1000 ≤ i
    · rw [if_pos h1]
      have e : b = n := by omega
      refine stop (Or.inl ?_)
      rw [kt_0 (by unfold tK; rw [if_pos e]; decide)]
      decide
    rw [if_neg h1, bn1_, bn1_, opT h]
    by_cases ht : bnd (kt s n b) < 1
    · rw [if_pos (by rw [Int32.lt_iff_toInt_lt, nI_toInt (by omega), show Int32.toInt 1 = 1 by decide]; omega)]
      exact stop (Or.inl ht)
    · rw [if_neg (show ¬ (nI (bnd (kt s n b)) < 1) from fun z => by rw [Int32.lt_iff_toInt_lt, nI_toInt (by omega), show Int32.toInt 1 = 1 by decide] at z; omega)]
      by_cases hm : most < bnd (kt s n b)
      · rw [if_neg (show ¬ (nI (bnd (kt s n b)) ≤ nI most) from fun z => by rw [Int32.le_iff_toInt_le, nI_toInt (by omega), nI_toInt (by omega)] at z; omega)]
        exact stop (Or.inr hm)
      rw [if_pos (by rw [Int32.le_iff_toInt_le, nI_toInt (by omega), nI_toInt (by omega)]; omega)]
      have hq : bnd (kt s n b) = 1 ∨ bnd (kt s n b) = 2 ∨ bnd (kt s n b) = 3 ∨ bnd (kt s n b) = 4 := by omega
      rcases hq with hq | hq | hq | hq
      · have eb : bnd (kt s n b) = 1 := hq
        try rw [eb]
        rw [if_pos (show (nI 1 : Int32) = 1 by decide)]
        obtain ⟨a1, a2, a3, a4, a5, e1, e2⟩ := c_adv hn hw hf h
        rw [e1, bn5_]
        obtain ⟨x1, x2, x3, x4, x5, x6, x7, x8, ok, kk, b', p1, p2, p3, p4, p5, p6⟩ := ro_2_0 (len := len) (code := code) (fa := fa) hn hw hf e2
        rw [p1, bn9_]
        have hlt := nt_gt (f := s) (k_lt h.1 (by intro z; rw [z] at eb; exact absurd eb (by decide)))
        have nx_ := ov_next (by decide) hO (by omega) (by omega) (by rw [eb]; exact p2)
        cases ok with
        | true =>
          obtain ⟨q1, q2, q3, q4⟩ := p6 rfl
          rw [if_pos rfl]
          have hz := wr1 (x := fX0_operatorAt kd vl) (len := x1) (code := x2)
          generalize fX0_write (fX0_operatorAt kd vl) x1 x2 = zz at hz ⊢
          obtain ⟨z1, z2⟩ := zz
          rw [bn2_]
          unfold fX0_readOver_1_0_J93a
          have hO' := nx_.1 rfl
          rw [eb] at hO'
          have r := ih (i + 1) 1 z1 z2 b' x3 x4 x5 x6 x7 x8 (by omega) (by omega) p4 hO' (by omega) (by decide) hz
          obtain ⟨y1, y2, y3, y4, y5, y6, y7, y8, y9, y10, y11, g1, g2, g3, g4, g5, g6⟩ := r
          exact ⟨y1, y2, y3, y4, y5, y6, y7, y8, y9, y10, y11, g1, g2, by omega, g4, g5, fun z => ⟨(g6 z).1, (g6 z).2.1, (g6 z).2.2.1.trans q3, (g6 z).2.2.2⟩⟩
        | false =>
          rw [if_neg (by decide)]
          exact ⟨_, _, _, _, _, _, _, _, false, kk, b', rfl, nx_.2 rfl, by omega, p4, p5, fun z => Bool.noConfusion z⟩
      · have eb : bnd (kt s n b) = 2 := hq
        try rw [eb]
        rw [if_neg (show ¬ ((nI 2 : Int32) = 1) by decide)]
        rw [if_pos (show (nI 2 : Int32) = 2 by decide)]
        obtain ⟨a1, a2, a3, a4, a5, e1, e2⟩ := c_adv hn hw hf h
        rw [e1, bn5_]
        obtain ⟨x1, x2, x3, x4, x5, x6, x7, x8, ok, kk, b', p1, p2, p3, p4, p5, p6⟩ := ro_3_0 (len := len) (code := code) (fa := fa) hn hw hf e2
        rw [p1, bn9_]
        have hlt := nt_gt (f := s) (k_lt h.1 (by intro z; rw [z] at eb; exact absurd eb (by decide)))
        have nx_ := ov_next (by decide) hO (by omega) (by omega) (by rw [eb]; exact p2)
        cases ok with
        | true =>
          obtain ⟨q1, q2, q3, q4⟩ := p6 rfl
          rw [if_pos rfl]
          have hz := wr1 (x := fX0_operatorAt kd vl) (len := x1) (code := x2)
          generalize fX0_write (fX0_operatorAt kd vl) x1 x2 = zz at hz ⊢
          obtain ⟨z1, z2⟩ := zz
          rw [bn2_]
          unfold fX0_readOver_1_0_J93b
          have hO' := nx_.1 rfl
          rw [eb] at hO'
          have r := ih (i + 1) 1 z1 z2 b' x3 x4 x5 x6 x7 x8 (by omega) (by omega) p4 hO' (by omega) (by decide) hz
          obtain ⟨y1, y2, y3, y4, y5, y6, y7, y8, y9, y10, y11, g1, g2, g3, g4, g5, g6⟩ := r
          exact ⟨y1, y2, y3, y4, y5, y6, y7, y8, y9, y10, y11, g1, g2, by omega, g4, g5, fun z => ⟨(g6 z).1, (g6 z).2.1, (g6 z).2.2.1.trans q3, (g6 z).2.2.2⟩⟩
        | false =>
          rw [if_neg (by decide)]
          exact ⟨_, _, _, _, _, _, _, _, false, kk, b', rfl, nx_.2 rfl, by omega, p4, p5, fun z => Bool.noConfusion z⟩
      · have eb : bnd (kt s n b) = 3 := hq
        try rw [eb]
        rw [if_neg (show ¬ ((nI 3 : Int32) = 1) by decide)]
        rw [if_neg (show ¬ ((nI 3 : Int32) = 2) by decide)]
        rw [if_pos (show (nI 3 : Int32) = 3 by decide)]
        obtain ⟨a1, a2, a3, a4, a5, e1, e2⟩ := c_adv hn hw hf h
        rw [e1, bn5_]
        obtain ⟨x1, x2, x3, x4, x5, x6, x7, x8, ok, kk, b', p1, p2, p3, p4, p5, p6⟩ := ro_4_0 (len := len) (code := code) (fa := fa) hn hw hf e2
        rw [p1, bn9_]
        have hlt := nt_gt (f := s) (k_lt h.1 (by intro z; rw [z] at eb; exact absurd eb (by decide)))
        have nx_ := ov_next (by decide) hO (by omega) (by omega) (by rw [eb]; exact p2)
        cases ok with
        | true =>
          obtain ⟨q1, q2, q3, q4⟩ := p6 rfl
          rw [if_pos rfl]
          have hz := wr1 (x := fX0_operatorAt kd vl) (len := x1) (code := x2)
          generalize fX0_write (fX0_operatorAt kd vl) x1 x2 = zz at hz ⊢
          obtain ⟨z1, z2⟩ := zz
          rw [bn2_]
          unfold fX0_readOver_1_0_J93c
          have hO' := nx_.1 rfl
          rw [eb] at hO'
          have r := ih (i + 1) 3 z1 z2 b' x3 x4 x5 x6 x7 x8 (by omega) (by omega) p4 hO' (by omega) (by decide) hz
          obtain ⟨y1, y2, y3, y4, y5, y6, y7, y8, y9, y10, y11, g1, g2, g3, g4, g5, g6⟩ := r
          exact ⟨y1, y2, y3, y4, y5, y6, y7, y8, y9, y10, y11, g1, g2, by omega, g4, g5, fun z => ⟨(g6 z).1, (g6 z).2.1, (g6 z).2.2.1.trans q3, (g6 z).2.2.2⟩⟩
        | false =>
          rw [if_neg (by decide)]
          exact ⟨_, _, _, _, _, _, _, _, false, kk, b', rfl, nx_.2 rfl, by omega, p4, p5, fun z => Bool.noConfusion z⟩
      · have eb : bnd (kt s n b) = 4 := hq
        try rw [eb]
        rw [if_neg (show ¬ ((nI 4 : Int32) = 1) by decide)]
        rw [if_neg (show ¬ ((nI 4 : Int32) = 2) by decide)]
        rw [if_neg (show ¬ ((nI 4 : Int32) = 3) by decide)]
        obtain ⟨a1, a2, a3, a4, a5, e1, e2⟩ := c_adv hn hw hf h
        rw [e1, bn5_]
        obtain ⟨x1, x2, x3, x4, x5, x6, x7, x8, ok, kk, b', p1, p2, p3, p4, p5, p6⟩ := ro_5_0 (len := len) (code := code) (fa := fa) hn hw hf e2
        rw [p1, bn9_]
        have hlt := nt_gt (f := s) (k_lt h.1 (by intro z; rw [z] at eb; exact absurd eb (by decide)))
        have nx_ := ov_next (by decide) hO (by omega) (by omega) (by rw [eb]; exact p2)
        cases ok with
        | true =>
          obtain ⟨q1, q2, q3, q4⟩ := p6 rfl
          rw [if_pos rfl]
          have hz := wr1 (x := fX0_operatorAt kd vl) (len := x1) (code := x2)
          generalize fX0_write (fX0_operatorAt kd vl) x1 x2 = zz at hz ⊢
          obtain ⟨z1, z2⟩ := zz
          rw [bn2_]
          unfold fX0_readOver_1_0_J93d
          have hO' := nx_.1 rfl
          rw [eb] at hO'
          have r := ih (i + 1) 4 z1 z2 b' x3 x4 x5 x6 x7 x8 (by omega) (by omega) p4 hO' (by omega) (by decide) hz
          obtain ⟨y1, y2, y3, y4, y5, y6, y7, y8, y9, y10, y11, g1, g2, g3, g4, g5, g6⟩ := r
          exact ⟨y1, y2, y3, y4, y5, y6, y7, y8, y9, y10, y11, g1, g2, by omega, g4, g5, fun z => ⟨(g6 z).1, (g6 z).2.1, (g6 z).2.2.1.trans q3, (g6 z).2.2.2⟩⟩
        | false =>
          rw [if_neg (by decide)]
          exact ⟨_, _, _, _, _, _, _, _, false, kk, b', rfl, nx_.2 rfl, by omega, p4, p5, fun z => Bool.noConfusion z⟩
theorem ro_1_0 {s : Nat → Int32} {n b nx : Nat} {pl kd vl fa : Int32} {lt : Int64} {w : Nat → Int64} {f code : Nat → Int32} {len : Nat} (hn : n ≤ 1000) (hw : WT w) (hf : SG f s) (h : CT s n b nx pl kd vl lt) : RP (OverIs (kt s n) (nt s n) 1 0 b) s n b fa (fX0_readOver_1_0 len code n nx pl kd vl lt fa s w f) := by
  obtain ⟨x1, x2, x3, x4, x5, x6, x7, x8, ok, kk, b', p1, p2, p3, p4, p5, p6⟩ := rp_0 (len := len) (code := code) (fa := fa) hn hw hf h
  unfold fX0_readOver_1_0
  rw [p1, bn9_]
  cases ok with
  | true =>
    obtain ⟨q1, q2, q3, q4⟩ := p6 rfl
    subst q1
    rw [if_pos rfl, ← q3]
    exact ol_1_0 hn hw hf _ _ 0 4 x1 x2 b' x3 x4 x5 x6 x7 x8 (by omega) (by omega) p4 (ov_start p2) q2 (by decide) q4
  | false =>
    rw [if_neg (by decide)]
    exact ⟨_, _, _, _, _, _, _, _, false, kk, b', rfl, ov_fail0 p2, p3, p4, p5, fun z => Bool.noConfusion z⟩
