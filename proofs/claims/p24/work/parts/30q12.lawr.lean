/-! the reference's reading of a law: the machine itself -/
theorem r_word {s : Nat → Int32} {n b p bg tk : Nat} {wo W : Int64} {to : Int32} (h : RT s n b p bg tk wo to) {j : Nat} (hj : j < 23) (hW : Int64.toInt W = Er 27 (wd j)) : fX9_isWord W tk wo = true ↔ tK s n b = 1 ∧ wo_ s n b = wd j := by
  obtain ⟨hb, hp, hbg, htk, h1, h2⟩ := h
  unfold fX9_isWord fX9_isWord_J21a
  rw [htk]
  by_cases q : tK s n b = 1
  · rw [if_pos q]
    have a := k27 (wo_ok hb q) hj (h1 q) hW
    by_cases y : wo = W
    · rw [if_pos ((lg_cmp_eq _ _).mpr y)]; exact ⟨fun _ => ⟨q, a.mp y⟩, fun _ => rfl⟩
    · rw [if_neg (fun z => y ((lg_cmp_eq _ _).mp z))]; exact ⟨fun z => Bool.noConfusion z, fun z => absurd (a.mpr z.2) y⟩
  · rw [if_neg q]; exact ⟨fun z => Bool.noConfusion z, fun z => absurd z.1 q⟩
theorem r_sign {s : Nat → Int32} {n b p bg tk : Nat} {wo : Int64} {to c : Int32} (hn : n ≤ 1000) (h : RT s n b p bg tk wo to) : fX9_isSign c bg tk s = true ↔ tK s n b = 3 ∧ s b = c := by
  obtain ⟨hb, hp, hbg, htk, h1, h2⟩ := h
  unfold fX9_isSign fX9_isSign_J25a
  rw [htk, hbg, nI_clamp (by omega)]
  by_cases q : tK s n b = 3
  · rw [if_pos q]
    by_cases y : s b = c
    · rw [if_pos y]; exact ⟨fun _ => ⟨q, y⟩, fun _ => rfl⟩
    · rw [if_neg y]; exact ⟨fun z => Bool.noConfusion z, fun z => absurd z.2 y⟩
  · rw [if_neg q]; exact ⟨fun z => Bool.noConfusion z, fun z => absurd z.1 q⟩
theorem r_fact {s : Nat → Int32} {n b p bg tk : Nat} {wo : Int64} {to : Int32} (h : RT s n b p bg tk wo to) : (fX9_fact tk wo = 0 ∧ ¬ (tK s n b = 1 ∧ ∃ j, 19 ≤ j ∧ j < 23 ∧ wo_ s n b = wd j)) ∨ (¬ fX9_fact tk wo = 0 ∧ ¬ fX9_fact tk wo ≤ 0 ∧ (tK s n b = 1 ∧ ∃ j, 19 ≤ j ∧ j < 23 ∧ wo_ s n b = wd j)) := by
  obtain ⟨hb, hp, hbg, htk, h1, h2⟩ := h
  unfold fX9_fact
  rw [htk]
  by_cases q : tK s n b = 1
  · rw [if_pos q]
    have ho := wo_ok hb q
    have hwo : Int64.toInt wo = Er 27 (wo_ s n b) := h1 q
    have k19 : (lg_cmp wo 10320789 = 0) ↔ wo_ s n b = wd 19 := (lg_cmp_eq _ _).trans (k27 ho (by decide) hwo ((by decide : Int64.toInt 10320789 = 10320789).trans w27_19.symm))
    have k20 : (lg_cmp wo 237470 = 0) ↔ wo_ s n b = wd 20 := (lg_cmp_eq _ _).trans (k27 ho (by decide) hwo ((by decide : Int64.toInt 237470 = 237470).trans w27_20.symm))
    have k21 : (lg_cmp wo 111715435 = 0) ↔ wo_ s n b = wd 21 := (lg_cmp_eq _ _).trans (k27 ho (by decide) hwo ((by decide : Int64.toInt 111715435 = 111715435).trans w27_21.symm))
    have k22 : (lg_cmp wo 7622660 = 0) ↔ wo_ s n b = wd 22 := (lg_cmp_eq _ _).trans (k27 ho (by decide) hwo ((by decide : Int64.toInt 7622660 = 7622660).trans w27_22.symm))
    by_cases y : lg_cmp wo 10320789 = 0
    · rw [if_pos y]; exact Or.inr ⟨by decide, by decide, q, 19, by decide, by decide, k19.mp y⟩
    rw [if_neg y]
    by_cases y2 : lg_cmp wo 237470 = 0
    · rw [if_pos y2]; exact Or.inr ⟨by decide, by decide, q, 20, by decide, by decide, k20.mp y2⟩
    rw [if_neg y2]
    by_cases y3 : lg_cmp wo 111715435 = 0
    · rw [if_pos y3]; exact Or.inr ⟨by decide, by decide, q, 21, by decide, by decide, k21.mp y3⟩
    rw [if_neg y3]
    by_cases y4 : lg_cmp wo 7622660 = 0
    · rw [if_pos y4]; exact Or.inr ⟨by decide, by decide, q, 22, by decide, by decide, k22.mp y4⟩
    rw [if_neg y4]
    refine Or.inl ⟨rfl, ?_⟩
    rintro ⟨-, j, j1, j2, j3⟩
    have : j = 19 ∨ j = 20 ∨ j = 21 ∨ j = 22 := by omega
    rcases this with e | e | e | e <;> subst e
    · exact y (k19.mpr j3)
    · exact y2 (k20.mpr j3)
    · exact y3 (k21.mpr j3)
    · exact y4 (k22.mpr j3)
  · rw [if_neg q]; exact Or.inl ⟨rfl, fun z => q z.1⟩
theorem r_adv {s : Nat → Int32} {n b p bg tk : Nat} {wo : Int64} {to : Int32} (hn : n ≤ 1000) (h : RT s n b p bg tk wo to) : ∃ c1 c2 c3 c4 c5, fX9_nextToken n p s = (c1, c2, c3, c4, c5) ∧ RT s n (nt s n b) c1 c2 c3 c4 c5 := by
  obtain ⟨c, c2, c3, c4, c5, e2, h2⟩ := next_ (s := s) hn (show p ≤ n by rw [h.2.1]; exact tE_le h.1)
  rw [h.2.1] at h2
  exact ⟨c, c2, c3, c4, c5, e2, h2⟩
/-- what is open, as lists -/
def oL (op : Nat → Int32) : Nat → List Bool
  | 0 => []
  | d + 1 => decide (op (d + 1) = 1) :: oL op d
def qL (cm : Nat → Int32) : Nat → List Bool
  | 0 => [decide (¬ cm 0 = 0)]
  | d + 1 => decide (¬ cm (d + 1) = 0) :: qL cm d
theorem oL_len {op : Nat → Int32} : ∀ d, (oL op d).length = d
  | 0 => rfl
  | d + 1 => congrArg (· + 1) (oL_len d)
theorem oL_u {op : Nat → Int32} {v : Int32} {e : Nat} : ∀ {d : Nat}, d < e → oL (upd op e v) d = oL op d
  | 0, _ => rfl
  | d + 1, h => by
    show decide (upd op e v (d + 1) = 1) :: oL (upd op e v) d = _
    rw [upd_n (by omega), oL_u (d := d) (by omega)]; rfl
theorem qL_u {op : Nat → Int32} {v : Int32} {e : Nat} : ∀ {d : Nat}, d < e → qL (upd op e v) d = qL op d
  | 0, h => by
    show [decide (¬ upd op e v 0 = 0)] = _
    rw [upd_n (by omega)]; rfl
  | d + 1, h => by
    show decide (¬ upd op e v (d + 1) = 0) :: qL (upd op e v) d = _
    rw [upd_n (by omega), qL_u (d := d) (by omega)]; rfl
theorem oL_s {op : Nat → Int32} {v : Int32} {d : Nat} : oL (upd op (d + 1) v) (d + 1) = decide (v = 1) :: oL op d := by
  show decide (upd op (d + 1) v (d + 1) = 1) :: oL (upd op (d + 1) v) d = _
  rw [upd_e, oL_u (by omega)]
theorem qL_s {cm : Nat → Int32} {v : Int32} {d : Nat} : qL (upd cm (d + 1) v) (d + 1) = decide (¬ v = 0) :: qL cm d := by
  show decide (¬ upd cm (d + 1) v (d + 1) = 0) :: qL (upd cm (d + 1) v) d = _
  rw [upd_e, qL_u (by omega)]
theorem qL_h {cm : Nat → Int32} {d : Nat} : qL cm d = decide (¬ cm d = 0) :: (qL cm d).tail := by
  cases d <;> rfl
theorem qL_m {cm : Nat → Int32} {v : Int32} {d : Nat} : qL (upd cm d v) d = decide (¬ v = 0) :: (qL cm d).tail := by
  cases d with
  | zero =>
    show [decide (¬ upd cm 0 v 0 = 0)] = _
    rw [upd_e]; rfl
  | succ d => rw [qL_s]; rfl
def pd (op : Nat → Int32) : Nat → Nat
  | 0 => 0
  | d + 1 => if op (d + 1) = 1 then pd op d else d + 1
theorem pd_le {op : Nat → Int32} : ∀ d, pd op d ≤ d
  | 0 => Nat.le_refl 0
  | d + 1 => by
    show (if op (d + 1) = 1 then pd op d else d + 1) ≤ d + 1
    split
    · have := pd_le (op := op) d; omega
    · omega
theorem pS_oL {op : Nat → Int32} : ∀ d, pS (oL op d) = oL op (pd op d)
  | 0 => rfl
  | d + 1 => by
    show pS (decide (op (d + 1) = 1) :: oL op d) = oL op (if op (d + 1) = 1 then pd op d else d + 1)
    by_cases h : op (d + 1) = 1
    · rw [decide_eq_true h, if_pos h]; exact pS_oL d
    · rw [decide_eq_false h, if_neg h]
      show false :: oL op d = decide (op (d + 1) = 1) :: oL op d
      rw [decide_eq_false h]
theorem pC_oL {op cm : Nat → Int32} : ∀ d, pC (oL op d) (qL cm d) = qL cm (pd op d)
  | 0 => rfl
  | d + 1 => by
    show pC (decide (op (d + 1) = 1) :: oL op d) (decide (¬ cm (d + 1) = 0) :: qL cm d) = qL cm (if op (d + 1) = 1 then pd op d else d + 1)
    by_cases h : op (d + 1) = 1
    · rw [decide_eq_true h, if_pos h]; exact pC_oL d
    · rw [decide_eq_false h, if_neg h]; rfl
def wtn : mSt → Nat
  | .inl _ => 0
  | .inr (true, _) => 1
  | .inr (false, _) => 0
theorem wtn_le (st : mSt) : wtn st ≤ 1 := by
  unfold wtn
  split <;> decide
/-- what the reference's reading of a law answers, by the machine -/
def RR (s : Nat → Int32) (n b code : Nat) (wr : Int32) (st : mSt) (X : Nat × Nat × Nat × Int64 × Int32 × Int32 × Nat × (Nat → Int32) × (Nat → Int32) × (Nat → Int32) × Bool) : Prop := ∃ p' bg' tk' wo' to' wr' code' codes' op' cm' ok k b', X = (p', bg', tk', wo', to', wr', code', codes', op', cm', ok) ∧ Rch (kt s n) (nt s n) st (.inl (k, b')) ∧ RT s n b' p' bg' tk' wo' to' ∧ (ok = false → wr' = nI k + nI (16 * b') ∧ ¬ k = 0) ∧ (ok = true → k = 0 ∧ b < b' ∧ wr' = wr ∧ code + wtn st ≤ code' ∧ code' + b ≤ code + b')
theorem RR.st {s : Nat → Int32} {n b b1 c c1 : Nat} {wr : Int32} {st st1 : mSt} {X : Nat × Nat × Nat × Int64 × Int32 × Int32 × Nat × (Nat → Int32) × (Nat → Int32) × (Nat → Int32) × Bool} (hb : b < b1) (hc : c1 = c + 1) (hs : mN (kt s n) (nt s n) st = st1) (h : RR s n b1 c1 wr st1 X) : RR s n b c wr st X := by
  obtain ⟨x1, x2, x3, x4, x5, x6, x7, x8, x9, x10, ok, k, b', h1, h2, h3, h4, h5⟩ := h
  exact ⟨x1, x2, x3, x4, x5, x6, x7, x8, x9, x10, ok, k, b', h1, (Rch.one hs).tr h2, h3, h4, fun z => ⟨(h5 z).1, by have := (h5 z).2.1; omega, (h5 z).2.2.1, by have h9 := (h5 z).2.2.2.1; have := wtn_le st; omega, by have := (h5 z).2.2.2.2; omega⟩⟩
theorem r_fail {s : Nat → Int32} {n b p bg tk : Nat} {wo : Int64} {to : Int32} (h : RT s n b p bg tk wo to) (k : Int32) : fX9_fails k bg = (k + nI (16 * b), false) := by
  unfold fX9_fails; rw [h.2.2.1]
theorem pop_a {n p : Nat} {s op cm codes : Nat → Int32} {code : Nat} {rc : Nat → Bool → Nat → Nat → Nat → Int64 → Int32 → Nat → (Nat → Int32) → (Nat → Int32) → (Nat → Int32) → Nat × Nat × Nat × Int64 × Int32 × Int32 × Nat × (Nat → Int32) × (Nat → Int32) × (Nat → Int32) × Bool} {z : Nat → Nat × Nat × Nat × Int64 × Int32 × Int32 × Nat × (Nat → Int32) × (Nat → Int32) × (Nat → Int32) × Bool} : ∀ d, d ≤ 5 → lp z (fX9_reads_B152a n s p op cm rc code codes) (d + 1) d = fX9_reads_J172a n s p rc (pd op d) false codes op cm code := by
  intro d
  induction d with
  | zero =>
    intro _
    show fX9_reads_B152a n s p op cm rc code codes _ 0 = _
    unfold fX9_reads_B152a
    rw [if_pos (Nat.le_refl 0)]; rfl
  | succ d ih =>
    intro hd
    show fX9_reads_B152a n s p op cm rc code codes (lp z (fX9_reads_B152a n s p op cm rc code codes) (d + 1)) (d + 1) = _
    have ih := ih (by omega)
    generalize lp z (fX9_reads_B152a n s p op cm rc code codes) (d + 1) = r at ih ⊢
    unfold fX9_reads_B152a
    rw [if_neg (by omega), nI_clamp (by omega)]
    show _ = fX9_reads_J172a n s p rc (if op (d + 1) = 1 then pd op d else d + 1) false codes op cm code
    by_cases h : op (d + 1) = 1
    · rw [if_pos h, if_pos h, show d + 1 - 1 = d by omega]; exact ih
    · rw [if_neg h, if_neg h]
theorem pop_b {n p : Nat} {s op cm codes : Nat → Int32} {code : Nat} {rc : Nat → Bool → Nat → Nat → Nat → Int64 → Int32 → Nat → (Nat → Int32) → (Nat → Int32) → (Nat → Int32) → Nat × Nat × Nat × Int64 × Int32 × Int32 × Nat × (Nat → Int32) × (Nat → Int32) × (Nat → Int32) × Bool} {z : Nat → Nat × Nat × Nat × Int64 × Int32 × Int32 × Nat × (Nat → Int32) × (Nat → Int32) × (Nat → Int32) × Bool} : ∀ d, d ≤ 5 → lp z (fX9_reads_B152b n s p op cm rc code codes) (d + 1) d = fX9_reads_J172a n s p rc (pd op d) false codes op cm code := pop_a
theorem pop_c {n p : Nat} {s op cm codes : Nat → Int32} {code : Nat} {wt : Bool} {rc : Nat → Bool → Nat → Nat → Nat → Int64 → Int32 → Nat → (Nat → Int32) → (Nat → Int32) → (Nat → Int32) → Nat × Nat × Nat × Int64 × Int32 × Int32 × Nat × (Nat → Int32) × (Nat → Int32) × (Nat → Int32) × Bool} {z : Nat → Nat × Nat × Nat × Int64 × Int32 × Int32 × Nat × (Nat → Int32) × (Nat → Int32) × (Nat → Int32) × Bool} : ∀ d, d ≤ 5 → lp z (fX9_reads_B379a n s wt p op cm rc code codes) (d + 1) d = fX9_reads_J424a n s p op rc (pd op d) wt codes cm code := by
  intro d
  induction d with
  | zero =>
    intro _
    show fX9_reads_B379a n s wt p op cm rc code codes _ 0 = _
    unfold fX9_reads_B379a
    rw [if_pos (Nat.le_refl 0)]; rfl
  | succ d ih =>
    intro hd
    show fX9_reads_B379a n s wt p op cm rc code codes (lp z (fX9_reads_B379a n s wt p op cm rc code codes) (d + 1)) (d + 1) = _
    have ih := ih (by omega)
    generalize lp z (fX9_reads_B379a n s wt p op cm rc code codes) (d + 1) = r at ih ⊢
    unfold fX9_reads_B379a
    rw [if_neg (by omega), nI_clamp (by omega)]
    show _ = fX9_reads_J424a n s p op rc (if op (d + 1) = 1 then pd op d else d + 1) wt codes cm code
    by_cases h : op (d + 1) = 1
    · rw [if_pos h, if_pos h, show d + 1 - 1 = d by omega]; exact ih
    · rw [if_neg h, if_neg h]
set_option maxHeartbeats 4000000 in
theorem rd_lp {s : Nat → Int32} {n : Nat} {wr : Int32} (hn : n ≤ 1000) : ∀ k z d wt b p bg tk wo to code codes op cm, n + 1 - b < k → d ≤ 5 → RT s n b p bg tk wo to → RR s n b code wr (.inr (wt, b, oL op d, qL cm d)) (lp z (fX9_reads_B11a n wr s) k d wt p bg tk wo to code codes op cm) := by
  intro k
  induction k with
  | zero => intro z d wt b p bg tk wo to code codes op cm q; exact absurd q (Nat.not_lt_zero _)
  | succ k ih =>
    intro z d wt b p bg tk wo to code codes op cm hk hd h
    show RR s n b code wr _ (fX9_reads_B11a n wr s (lp z (fX9_reads_B11a n wr s) k) d wt p bg tk wo to code codes op cm)
    have ih := fun d wt b p bg tk wo to code codes op cm => ih z d wt b p bg tk wo to code codes op cm
    generalize lp z (fX9_reads_B11a n wr s) k = rc at ih ⊢
    obtain ⟨c1, c2, c3, c4, c5, e1, e2⟩ := r_adv hn h
    have hbn := h.1
    have fail : ∀ (kk : Nat) (X : Int32), X = nI kk → ¬ kk = 0 → mN (kt s n) (nt s n) (.inr (wt, b, oL op d, qL cm d)) = .inl (kk, b) → RR s n b code wr (.inr (wt, b, oL op d, qL cm d)) (p, bg, tk, wo, to, X + nI (16 * b), code, codes, op, cm, false) := fun kk X e0 e e' => ⟨_, _, _, _, _, _, _, _, _, _, false, kk, b, rfl, Rch.one e', h, fun _ => ⟨by rw [e0], e⟩, fun y => Bool.noConfusion y⟩
    -- on, with what is open then
    have go : ∀ (d' : Nat) (wt' : Bool) (codes' op' cm' : Nat → Int32) (code' : Nat), code' = code + 1 → ¬ kt s n b = 0 → d' ≤ 5 → mN (kt s n) (nt s n) (.inr (wt, b, oL op d, qL cm d)) = .inr (wt', nt s n b, oL op' d', qL cm' d') → RR s n b code wr (.inr (wt, b, oL op d, qL cm d)) (rc d' wt' c1 c2 c3 c4 c5 code' codes' op' cm') := by
      intro d' wt' codes' op' cm' code' hc hk0 hd' hm
      have hlt := nt_gt (f := s) (k_lt hbn hk0)
      exact RR.st hlt hc hm (ih d' wt' (nt s n b) c1 c2 c3 c4 c5 code' codes' op' cm' (by have := e2.1; omega) hd' e2)
    have w16 : fX9_isWord 10631 tk wo = true ↔ tK s n b = 1 ∧ wo_ s n b = wd 16 := r_word h (by decide) ((by decide : Int64.toInt 10631 = 10631).trans w27_16.symm)
    have w17 : fX9_isWord 1111 tk wo = true ↔ tK s n b = 1 ∧ wo_ s n b = wd 17 := r_word h (by decide) ((by decide : Int64.toInt 1111 = 1111).trans w27_17.symm)
    have w18 : fX9_isWord 423 tk wo = true ↔ tK s n b = 1 ∧ wo_ s n b = wd 18 := r_word h (by decide) ((by decide : Int64.toInt 423 = 423).trans w27_18.symm)
    have n0 : vp_nar .boolean 0 = 0 := by decide
    have n1 : vp_nar .boolean 1 = 1 := by decide
    unfold fX9_reads_B11a
    cases wt with
    | true =>
      have mW_f : ¬ (kt s n b = 1 ∨ kt s n b = 2 ∨ kt s n b = 3) → mN (kt s n) (nt s n) (.inr (true, b, oL op d, qL cm d)) = .inl (1, b) := fun y => by
        show mW (kt s n) (nt s n) b (oL op d) (qL cm d) = _
        unfold mW; rw [if_neg y]
      have mW_5 : (kt s n b = 1 ∨ kt s n b = 2 ∨ kt s n b = 3) → d = 5 → mN (kt s n) (nt s n) (.inr (true, b, oL op d, qL cm d)) = .inl (5, b) := fun y y2 => by
        show mW (kt s n) (nt s n) b (oL op d) (qL cm d) = _
        unfold mW; rw [if_pos y, oL_len, if_pos y2]
      have mW_1 : kt s n b = 1 → ¬ d = 5 → mN (kt s n) (nt s n) (.inr (true, b, oL op d, qL cm d)) = .inr (false, nt s n b, oL op (pd op d), qL cm (pd op d)) := fun y y2 => by
        show mW (kt s n) (nt s n) b (oL op d) (qL cm d) = _
        unfold mW; rw [if_pos (Or.inl y), oL_len, if_neg y2, if_neg (by omega), if_neg (by omega), pS_oL, pC_oL]
      have mW_2 : kt s n b = 2 → ¬ d = 5 → mN (kt s n) (nt s n) (.inr (true, b, oL op d, qL cm d)) = .inr (true, nt s n b, oL (upd op (d + 1) 1) (d + 1), qL (upd cm (d + 1) 0) (d + 1)) := fun y y2 => by
        show mW (kt s n) (nt s n) b (oL op d) (qL cm d) = _
        unfold mW; rw [if_pos (Or.inr (Or.inl y)), oL_len, if_neg y2, if_pos y, oL_s, qL_s]; rfl
      have mW_3 : kt s n b = 3 → ¬ d = 5 → mN (kt s n) (nt s n) (.inr (true, b, oL op d, qL cm d)) = .inr (true, nt s n b, oL (upd op (d + 1) 2) (d + 1), qL (upd cm (d + 1) 0) (d + 1)) := fun y y2 => by
        show mW (kt s n) (nt s n) b (oL op d) (qL cm d) = _
        unfold mW; rw [if_pos (Or.inr (Or.inr y)), oL_len, if_neg y2, if_neg (by omega), if_pos y, oL_s, qL_s]; rfl
      rw [if_pos rfl, bn1_, bn1_, bn1_]
      have J65 : (kt s n b = 1 ∨ kt s n b = 2 ∨ kt s n b = 3) → RR s n b code wr (.inr (true, b, oL op d, qL cm d)) (fX9_reads_J65a n s d true p bg tk wo to code codes op cm rc (fX9_fact tk wo) (fX9_isWord 10631 tk wo) (fX9_isSign 40 bg tk s)) := by
        intro y
        unfold fX9_reads_J65a fX9_reads_J86a
        by_cases d5 : d = 5
        · rw [if_pos d5, r_fail h 5, bn2_]
          exact fail 5 5 rfl (by decide) (mW_5 y d5)
        rw [if_neg d5]
        by_cases q16 : fX9_isWord 10631 tk wo = true
        · rw [if_pos q16, if_pos q16]
          unfold fX9_puts
          rw [bn2_, if_pos q16]
          unfold fX9_reads_J172a
          rw [e1, bn5_, nI_clamp (n := d + 1) (by omega), n0]
          have k2 := k_2.mpr (w16.mp q16)
          exact go _ _ _ _ _ _ (by omega) (by rw [k2]; decide) (by omega) (mW_2 k2 d5)
        rw [if_neg q16]
        by_cases q40 : fX9_isSign 40 bg tk s = true
        · rw [if_pos q40, if_neg q16]
          unfold fX9_puts
          rw [bn2_, if_neg q16]
          unfold fX9_reads_J172a
          rw [e1, bn5_, nI_clamp (n := d + 1) (by omega), n0]
          have k3 := k_3.mpr ((r_sign hn h).mp q40)
          exact go _ _ _ _ _ _ (by omega) (by rw [k3]; decide) (by omega) (mW_3 k3 d5)
        rw [if_neg q40]
        have k1 : kt s n b = 1 := by
          rcases y with y | y | y
          · exact y
          · exact absurd (w16.mpr (k_2.mp y)) q16
          · exact absurd ((r_sign hn h).mpr (k_3.mp y)) q40
        have fin : ∀ c' codes', c' = code + 1 → RR s n b code wr (.inr (true, b, oL op d, qL cm d)) (fX9_reads_J172a n s p rc (pd op d) false codes' op cm c') := fun c' codes' hc => by
          unfold fX9_reads_J172a
          rw [e1, bn5_]
          exact go _ _ _ _ _ _ (by omega) (by rw [k1]; decide) (Nat.le_trans (pd_le d) hd) (mW_1 k1 d5)
        unfold fX9_puts
        rw [bn2_, bn2_, pop_a d hd, pop_b d hd]
        split
        · exact fin _ _ rfl
        · exact fin _ _ rfl
      rcases r_fact h with ⟨f1, f2⟩ | ⟨f1, f2, f3⟩
      · rw [if_pos f1]
        by_cases q16 : fX9_isWord 10631 tk wo = true
        · rw [if_pos q16]; exact J65 (Or.inr (Or.inl (k_2.mpr (w16.mp q16))))
        rw [if_neg q16]
        by_cases q40 : fX9_isSign 40 bg tk s = true
        · rw [if_pos q40]; exact J65 (Or.inr (Or.inr (k_3.mpr ((r_sign hn h).mp q40))))
        rw [if_neg q40]
        by_cases k2 : tk = 2
        · rw [if_pos k2]; exact J65 (Or.inl (k_1.mpr (Or.inl (by rw [← h.2.2.2.1]; exact k2))))
        rw [if_neg k2, r_fail h 1, bn2_]
        refine fail 1 1 rfl (by decide) (mW_f ?_)
        rintro (y | y | y)
        · rcases k_1.mp y with y | y
          · exact k2 (h.2.2.2.1.trans y)
          · exact f2 y
        · exact q16 (w16.mpr (k_2.mp y))
        · exact q40 ((r_sign hn h).mpr (k_3.mp y))
      · rw [if_neg f1]
        exact J65 (Or.inl (k_1.mpr (Or.inr f3)))
    | false =>
      have mV_ : mN (kt s n) (nt s n) (.inr (false, b, oL op d, qL cm d)) = mV (kt s n) (nt s n) b (oL op d) (qL cm d) := rfl
      have hd0 : (qL cm d).headD false = decide (¬ cm d = 0) := by rw [qL_h]; rfl
      rw [if_neg (by decide)]
      have J206 : (kt s n b = 8 ∨ kt s n b = 9) → RR s n b code wr (.inr (false, b, oL op d, qL cm d)) (fX9_reads_J206a n s d p bg tk code codes op cm rc) := by
        intro y
        have on : ∀ c' codes', c' = code + 1 → RR s n b code wr (.inr (false, b, oL op d, qL cm d)) (fX9_reads_J424a n s p op rc d true codes' cm c') := fun c' codes' hc => by
          unfold fX9_reads_J424a
          rw [e1, bn5_]
          refine go _ _ _ _ _ _ (by omega) (by omega) hd ?_
          rw [mV_]; unfold mV; rw [if_pos y]
        unfold fX9_reads_J206a fX9_puts
        simp only [bn1_, bn2_]
        split
        · exact on _ _ rfl
        · split
          · exact on _ _ rfl
          · exact on _ _ rfl
      have J304 : ¬ (kt s n b = 8 ∨ kt s n b = 9) → ¬ (kt s n b = 7 ∧ cm d = 0) → RR s n b code wr (.inr (false, b, oL op d, qL cm d)) (fX9_reads_J304a n wr s d false p bg tk wo to code codes op cm rc) := by
        intro y1 y2
        have y2' : ¬ (kt s n b = 7 ∧ (qL cm d).headD false = false) := by
          rw [hd0]
          intro z
          refine y2 ⟨z.1, Decidable.byContradiction (fun q => ?_)⟩
          have := z.2
          rw [decide_eq_true q] at this
          exact Bool.noConfusion this
        have J324 : kt s n b = 6 → RR s n b code wr (.inr (false, b, oL op d, qL cm d)) (fX9_reads_J324a n s d p tk wo code codes op cm rc) := by
          intro y
          have on : ∀ c' codes', c' = code + 1 → RR s n b code wr (.inr (false, b, oL op d, qL cm d)) (fX9_reads_J424a n s p op rc d true codes' (upd cm d 0) c') := fun c' codes' hc => by
            unfold fX9_reads_J424a
            rw [e1, bn5_]
            refine go _ _ _ _ _ _ (by omega) (by omega) hd ?_
            rw [mV_]; unfold mV; rw [if_neg y1, if_neg y2', if_pos y, qL_m]; rfl
          unfold fX9_reads_J324a fX9_puts
          rw [nI_clamp (n := d) (by omega), n0]
          simp only [bn1_, bn2_]
          split
          · exact on _ _ rfl
          · exact on _ _ rfl
        have J418 : ¬ kt s n b = 6 → ¬ (kt s n b = 4 ∧ ¬ d = 0) → ¬ (kt s n b = 5 ∧ d = 0) → RR s n b code wr (.inr (false, b, oL op d, qL cm d)) (fX9_reads_J418a p bg tk wo to code codes op cm) := by
          intro z1 z2 z3
          unfold fX9_reads_J418a
          rw [r_fail h 1, bn2_]
          refine fail 1 1 rfl (by decide) ?_
          have eS : oL op d = [] ↔ d = 0 := by
            constructor
            · intro q; have := congrArg List.length q; rw [oL_len] at this; exact this
            · intro q; rw [q]; rfl
          rw [mV_]; unfold mV
          rw [if_neg y1, if_neg y2', if_neg z1, if_neg (fun q => z2 ⟨q.1, fun e => q.2 (eS.mpr e)⟩), if_neg (fun q => z3 ⟨q.1, eS.mp q.2⟩)]
        have J399 : ¬ kt s n b = 6 → ¬ (kt s n b = 4 ∧ ¬ d = 0) → RR s n b code wr (.inr (false, b, oL op d, qL cm d)) (fX9_reads_J399a n wr s d p bg tk wo to code codes op cm) := by
          intro z1 z2
          unfold fX9_reads_J399a
          by_cases d0 : d = 0
          · rw [if_pos d0, bn1_]
            by_cases q59 : fX9_isSign 59 bg tk s = true
            · rw [if_pos q59, e1, bn5_]
              have k5 := k_5.mpr ((r_sign hn h).mp q59)
              have hlt := nt_gt (f := s) (k_lt hbn (by rw [k5]; decide))
              refine ⟨_, _, _, _, _, _, _, _, _, _, true, 0, nt s n b, rfl, Rch.one ?_, e2, fun y => Bool.noConfusion y, fun _ => ⟨rfl, hlt, rfl, Nat.le_refl _, by omega⟩⟩
              rw [mV_]; unfold mV
              rw [if_neg y1, if_neg y2', if_neg z1, if_neg (fun q => absurd q.1 (by omega)), if_pos ⟨k5, by rw [d0]; rfl⟩]
            · rw [if_neg q59]
              exact J418 z1 z2 (fun q => q59 ((r_sign hn h).mpr (k_5.mp q.1)))
          · rw [if_neg d0]
            exact J418 z1 z2 (fun q => d0 q.2)
        unfold fX9_reads_J304a
        rw [bn1_]
        by_cases q17 : fX9_isWord 1111 tk wo = true
        · rw [if_pos q17]; exact J324 (k_6.mpr ⟨(w17.mp q17).1, Or.inl (w17.mp q17).2⟩)
        rw [if_neg q17, bn1_]
        by_cases q18 : fX9_isWord 423 tk wo = true
        · rw [if_pos q18]; exact J324 (k_6.mpr ⟨(w18.mp q18).1, Or.inr (w18.mp q18).2⟩)
        rw [if_neg q18, bn1_]
        have n6 : ¬ kt s n b = 6 := fun z => by
          have z := k_6.mp z
          rcases z.2 with y | y
          · exact q17 (w17.mpr ⟨z.1, y⟩)
          · exact q18 (w18.mpr ⟨z.1, y⟩)
        by_cases q41 : fX9_isSign 41 bg tk s = true
        · rw [if_pos q41]
          have k4 := k_4.mpr ((r_sign hn h).mp q41)
          by_cases d0 : d ≤ 0
          · rw [if_pos d0]; exact J399 n6 (fun q => q.2 (by omega))
          · rw [if_neg d0]
            unfold fX9_puts
            rw [bn2_, pop_c (d - 1) (by omega)]
            unfold fX9_reads_J424a
            rw [e1, bn5_]
            refine go _ _ _ _ _ _ (by omega) (by omega) (Nat.le_trans (pd_le _) (by omega)) ?_
            obtain ⟨e, rfl⟩ : ∃ e, d = e + 1 := ⟨d - 1, by omega⟩
            rw [mV_]; unfold mV
            rw [if_neg y1, if_neg y2', if_neg n6, if_pos ⟨k4, by intro q; have := congrArg List.length q; rw [oL_len] at this; exact absurd this (by simp)⟩, show e + 1 - 1 = e by omega, ← pS_oL, ← pC_oL (op := op)]
            rfl
        · rw [if_neg q41]
          exact J399 n6 (fun q => q41 ((r_sign hn h).mpr (k_4.mp q.1)))
      have J263 : kt s n b = 7 → RR s n b code wr (.inr (false, b, oL op d, qL cm d)) (fX9_reads_J263a n wr s d false p bg tk wo to code codes op cm rc) := by
        intro y
        unfold fX9_reads_J263a
        rw [nI_clamp (n := d) (by omega), n1]
        by_cases c0 : cm d = 0
        · rw [if_pos c0]
          have on : ∀ c' codes', c' = code + 1 → RR s n b code wr (.inr (false, b, oL op d, qL cm d)) (fX9_reads_J424a n s p op rc d true codes' (upd cm d 1) c') := fun c' codes' hc => by
            unfold fX9_reads_J424a
            rw [e1, bn5_]
            refine go _ _ _ _ _ _ (by omega) (by omega) hd ?_
            rw [mV_]; unfold mV
            rw [if_neg (by omega), if_pos ⟨y, by rw [hd0, decide_eq_false (fun q => q c0)]⟩, qL_m]; rfl
          unfold fX9_puts
          simp only [bn1_, bn2_]
          split
          · exact on _ _ rfl
          · exact on _ _ rfl
        · rw [if_neg c0]
          exact J304 (by omega) (fun q => c0 q.2)
      rw [bn1_]
      by_cases q43 : fX9_isSign 43 bg tk s = true
      · rw [if_pos q43]
        have z := (r_sign hn h).mp q43
        exact J206 (Or.inl (k_8.mpr ⟨z.1, Or.inl z.2⟩))
      rw [if_neg q43, bn1_]
      by_cases q45 : fX9_isSign 45 bg tk s = true
      · rw [if_pos q45]
        have z := (r_sign hn h).mp q45
        exact J206 (Or.inl (k_8.mpr ⟨z.1, Or.inr z.2⟩))
      rw [if_neg q45, bn1_]
      by_cases q42 : fX9_isSign 42 bg tk s = true
      · rw [if_pos q42]
        exact J206 (Or.inr (k_9.mpr ((r_sign hn h).mp q42)))
      rw [if_neg q42, bn1_]
      by_cases q60 : fX9_isSign 60 bg tk s = true
      · rw [if_pos q60]
        have z := (r_sign hn h).mp q60
        exact J263 (k_7.mpr ⟨z.1, Or.inl z.2⟩)
      rw [if_neg q60, bn1_]
      by_cases q61 : fX9_isSign 61 bg tk s = true
      · rw [if_pos q61]
        have z := (r_sign hn h).mp q61
        exact J263 (k_7.mpr ⟨z.1, Or.inr z.2⟩)
      rw [if_neg q61]
      refine J304 ?_ ?_
      · rintro (y | y)
        · have z := k_8.mp y
          rcases z.2 with y | y
          · exact q43 ((r_sign hn h).mpr ⟨z.1, y⟩)
          · exact q45 ((r_sign hn h).mpr ⟨z.1, y⟩)
        · exact q42 ((r_sign hn h).mpr (k_9.mp y))
      · rintro ⟨y, -⟩
        have z := k_7.mp y
        rcases z.2 with y | y
        · exact q60 ((r_sign hn h).mpr ⟨z.1, y⟩)
        · exact q61 ((r_sign hn h).mpr ⟨z.1, y⟩)
