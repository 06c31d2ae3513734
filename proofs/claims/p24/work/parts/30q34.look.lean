/-! minutes that go by: by both -/
theorem nyv_x (nr : Int32) {y p s : Int32} (hy : 0 ≤ Int32.toInt y) : ∃ m : Int32, 1 ≤ Int32.toInt m ∧ Int32.toInt (y - m) = Int32.toInt y - Int32.toInt m ∧ nyv nr y p s = (if nr < y - m then y - m else nr) := by
  refine ⟨(if 1 < (p - s) then (p - s) else 1), ?_, ?_, rfl⟩
  · by_cases c : (1 : Int32) < (p - s)
    · rw [if_pos c]
      rw [Int32.lt_iff_toInt_lt, show Int32.toInt 1 = 1 by decide] at c
      omega
    · rw [if_neg c]; decide
  · have hm : 1 ≤ Int32.toInt (if 1 < (p - s) then (p - s) else 1) := by
      by_cases c : (1 : Int32) < (p - s)
      · rw [if_pos c]
        rw [Int32.lt_iff_toInt_lt, show Int32.toInt 1 = 1 by decide] at c
        omega
      · rw [if_neg c]; decide
    have hM := Int32.toInt_lt (if 1 < (p - s) then (p - s) else 1)
    have hY := Int32.toInt_lt y
    generalize (if 1 < (p - s) then (p - s) else 1) = m at hm hM ⊢
    exact tI_sub rfl rfl (by omega) (by omega)
theorem nyv_fix {nr y p s : Int32} (hy : 0 ≤ Int32.toInt y) (h : nyv nr y p s = y) : nr = y := by
  obtain ⟨m, h1, h2, h3⟩ := nyv_x nr (p := p) (s := s) hy
  rw [h3] at h
  by_cases c : nr < y - m
  · rw [if_pos c] at h
    have := congrArg Int32.toInt h
    rw [h2] at this
    omega
  · rw [if_neg c] at h; exact h
theorem nyv_same {y p s : Int32} (hy : 0 ≤ Int32.toInt y) : nyv y y p s = y := by
  obtain ⟨m, h1, h2, h3⟩ := nyv_x y (p := p) (s := s) hy
  rw [h3, if_neg (by rw [Int32.lt_iff_toInt_lt, h2]; omega)]
theorem MV_f {be sn : Int32} {hb : Nat → Bool} {y st pc : Nat → Int32} {i : Nat} (h : MV be sn hb y st pc i = false) (e : onR y i = true) : st i ≤ 0 ∧ NY be sn hb y st pc i = y i := by
  unfold MV at h
  rw [e, Bool.true_and, Bool.or_eq_false_iff, decide_eq_false_iff_not, decide_eq_false_iff_not] at h
  exact ⟨Decidable.byContradiction h.1, Decidable.byContradiction h.2⟩
theorem MV_any {be sn sn' : Int32} {hb : Nat → Bool} {y st pc : Nat → Int32} {i : Nat} (hy : 0 ≤ Int32.toInt (y i)) (h : MV be sn hb y st pc i = false) : MV be sn' hb y st pc i = false := by
  cases e : onR y i with
  | false => unfold MV; rw [e, Bool.false_and]
  | true =>
    obtain ⟨h1, h2⟩ := MV_f h e
    unfold MV
    rw [e, Bool.true_and, decide_eq_false (fun z => z h1), Bool.false_or, decide_eq_false_iff_not]
    refine fun z => z ?_
    unfold NY tgt at h2 ⊢
    rw [if_pos e, if_pos h1] at h2 ⊢
    have h3 := nyv_fix hy h2
    rw [h3]
    exact nyv_same hy
theorem anyB_f {p : Nat → Bool} {n : Nat} : anyB p n = false ↔ ∀ i, i < n → p i = false := by
  constructor
  · intro h i hi
    cases e : p i with
    | false => rfl
    | true => rw [(anyB_t n).mpr ⟨i, hi, e⟩] at h; exact Bool.noConfusion h
  · intro h
    cases e : anyB p n with
    | false => rfl
    | true =>
      obtain ⟨i, a, b⟩ := (anyB_t n).mp e
      rw [h i a] at b; exact Bool.noConfusion b
theorem cnt_z {p : Nat → Bool} : ∀ n, (∀ i, i < n → p i = false) → cnt p n = 0
  | 0, _ => rfl
  | n + 1, h => by rw [cnt_s0 (h n (by omega))]; exact cnt_z n (fun i hi => h i (by omega))
theorem SEQ_id {N f : Nat → Int32} {g : Nat} (h : ∀ i, i < g → N i = f i) : SEQ N f g = f := by
  funext i
  by_cases c : i < g
  · rw [SEQ_lt c]; exact h i c
  · rw [SEQ_ge (by omega)]
/-- a minute in which nobody stirs -/
theorem still_ {g m : Nat} {be sn mi : Int32} {hb : Nat → Bool} {y st pc pl ca : Nat → Int32} (h : anyB (MV be sn hb y st pc) g = false) : SEQ (NY be sn hb y st pc) y g = y ∧ SEQ (NS y st) st g = st ∧ cnt (CM be sn hb y st pc) g = 0 ∧ SEQ (PLf m pl be sn hb y st pc) pl g = pl ∧ SEQ (CAf mi ca be sn hb y st pc) ca g = ca := by
  have h := anyB_f.mp h
  have hN : ∀ i, i < g → NY be sn hb y st pc i = y i := fun i hi => by
    cases e : onR y i with
    | true => exact (MV_f (h i hi) e).2
    | false => unfold NY; rw [if_neg (by rw [e]; decide)]
  have hC : ∀ i, i < g → CM be sn hb y st pc i = false := fun i hi => by
    unfold CM
    cases e : onR y i with
    | false => rfl
    | true => rw [Bool.true_and, hN i hi]; exact decide_eq_false (onR_t.mp e)
  refine ⟨SEQ_id hN, SEQ_id (fun i hi => ?_), cnt_z g hC, SEQ_id (fun i hi => ?_), SEQ_id (fun i hi => ?_)⟩
  · unfold NS
    cases e : onR y i with
    | false => rw [if_neg (by decide)]
    | true => rw [if_pos rfl, if_pos (MV_f (h i hi) e).1]
  · unfold PLf; rw [if_neg (by rw [hC i hi]; decide)]
  · unfold CAf; rw [if_neg (by rw [hC i hi]; decide)]
/-- it is eaten already -/
theorem eatsd_ {c n : Nat} {cn : Int32} {sup k9 o9 p9 c9 sn9 lf lt co s0 bf kp kb ah ag su sb te tb bn vo s : Nat → Int32} {z : Nat → Int32 → Int32 → (Nat → Int32) → (Nat → Int32) → (Nat → Int32) → (Nat → Int32) → (Nat → Int32) → (Nat → Int32) → (Nat → Int32) → (Nat → Int32) → (Nat → Int32) → (Nat → Int32) → (Nat → Int32) → Int32 × Int32 × Int32 × (Nat → Int32) × (Nat → Int32) × (Nat → Int32) × (Nat → Int32) × (Nat → Int32) × (Nat → Int32) × (Nat → Int32) × (Nat → Int32) × (Nat → Int32) × (Nat → Int32) × (Nat → Int32) × Int32} (hc : c < 6) (k : Nat) : lp z (fX9_eats_B14a (-1) sup k9 o9 p9 c9 sn9 lf lt co s0 bf) (k + 1) n cn (nI c) kp kb ah ag su sb te tb bn vo s = (cn, nI c, s (Int32.toNatClampNeg 2) - s0 (Int32.toNatClampNeg 2), kp, kb, ah, ag, su, sb, te, tb, bn, vo, va_cpy bf s 0 0 46, nI n) := by
  show fX9_eats_B14a (-1) sup k9 o9 p9 c9 sn9 lf lt co s0 bf (lp z (fX9_eats_B14a (-1) sup k9 o9 p9 c9 sn9 lf lt co s0 bf) k) n cn (nI c) kp kb ah ag su sb te tb bn vo s = _
  generalize lp z (fX9_eats_B14a (-1) sup k9 o9 p9 c9 sn9 lf lt co s0 bf) k = rc
  have h0 : (0 : Int32) ≤ nI c := by rw [Int32.le_iff_toInt_le, nI_toInt (by omega), show Int32.toInt 0 = 0 by decide]; omega
  unfold fX9_eats_B14a fX9_eats_J42a fX9_eats_J64a fX9_eats_J92a
  rw [if_pos h0, if_pos h0, if_pos h0]
  by_cases d : 400 ≤ n
  · rw [if_pos d]
  · rw [if_neg d]
set_option maxHeartbeats 4000000 in
/-- where nobody stirs, nobody will -/
theorem eatst_ {g ns : Nat} {be ho : Int32} {ki ty tp sk snw sup k9 o9 p9 c9 sn9 lf lt co : Nat → Int32} {s0 bf : Nat → Int32} {z : Nat → Int32 → Int32 → (Nat → Int32) → (Nat → Int32) → (Nat → Int32) → (Nat → Int32) → (Nat → Int32) → (Nat → Int32) → (Nat → Int32) → (Nat → Int32) → (Nat → Int32) → (Nat → Int32) → (Nat → Int32) → Int32 × Int32 × Int32 × (Nat → Int32) × (Nat → Int32) × (Nat → Int32) × (Nat → Int32) × (Nat → Int32) × (Nat → Int32) × (Nat → Int32) × (Nat → Int32) × (Nat → Int32) × (Nat → Int32) × (Nat → Int32) × Int32} (hT : TQ2 g ns be ho ki ty tp sk snw sup k9 o9 p9 c9 sn9) : ∀ k n B cn kp kb ah ag su sb te tb bn vo s ins ni mi y pc st hi pl ca ck, n ≤ 400 → 401 - n < k → B + (400 - n) ≤ 1000000 → RE g B p9 ins ni mi y pc st hi pl ca ck s → (∀ sn, anyB (MV be sn (hld g y ki hi ins) y st pc) g = false) → (g = 0 ∨ g - cnt (onR y) g < g) → ∃ cn' tt v1 v2 v3 v4 v5 v6 v7 v8 v9 v10 s'', lp z (fX9_eats_B14a (-1) sup k9 o9 p9 c9 sn9 lf lt co s0 bf) k n cn (-1) kp kb ah ag su sb te tb bn vo s = (cn', -1, tt, v1, v2, v3, v4, v5, v6, v7, v8, v9, v10, va_cpy bf s'' 0 0 46, -1) := by
  intro k
  induction k with
  | zero => intro n B cn kp kb ah ag su sb te tb bn vo s ins ni mi y pc st hi pl ca ck _ h; exact absurd h (Nat.not_lt_zero _)
  | succ k ih =>
    intro n B cn kp kb ah ag su sb te tb bn vo s ins ni mi y pc st hi pl ca ck hn hk hB hR hs hg0
    show ∃ cn' tt v1 v2 v3 v4 v5 v6 v7 v8 v9 v10 s'', fX9_eats_B14a (-1) sup k9 o9 p9 c9 sn9 lf lt co s0 bf (lp z (fX9_eats_B14a (-1) sup k9 o9 p9 c9 sn9 lf lt co s0 bf) k) n cn (-1) kp kb ah ag su sb te tb bn vo s = _
    have ih := ih (n + 1) (B + 1)
    generalize lp z (fX9_eats_B14a (-1) sup k9 o9 p9 c9 sn9 lf lt co s0 bf) k = rc at ih ⊢
    unfold fX9_eats_B14a fX9_eats_J42a fX9_eats_J64a fX9_eats_J92a
    rw [if_neg (show ¬ ((0 : Int32) ≤ -1) by decide), if_neg (show ¬ ((0 : Int32) ≤ -1) by decide), if_neg (show ¬ ((0 : Int32) ≤ -1) by decide)]
    by_cases c : 400 ≤ n
    · rw [if_pos c]
      exact ⟨_, _, _, _, _, _, _, _, _, _, _, _, _, rfl⟩
    · rw [if_neg c]
      obtain ⟨ins9, ni9, mi9, ta9, lc9, y9, pc9, st9, hi9, pl9, ca9, ck9, wt9, ws9, wf9, v1, v2, v3, v4, v5, v6, v7, v8, v9, v10, s9, r, e1, e2, e3, e4⟩ := mnE_ (sNow := -1) (sn := fX9_snowOf (s 1) sup sn9) (ta := 0) (lc := 0) (wl := 0) (wt := 0) (wc := (fun _ => 0)) (ws := (fun _ => 0)) (wf := (fun _ => 0)) (lf := lf) (lt := lt) (co := co) (kp := kp) (kb := kb) (ah := ah) (ag := ag) (su := su) (sb := sb) (te := te) (tb := tb) (bn := bn) (vo := vo) hT (by omega) hR (if_neg (by decide))
      obtain ⟨t1, t2, t3, t4, t5⟩ := still_ (m := g - cnt (onR y) g) (mi := mi) (pl := pl) (ca := ca) (hs (fX9_snowOf (s 1) sup sn9))
      rw [e2, bn13_]
      rw [t1, t2, t3, t4, t5] at e4
      rcases e4 with ⟨q1, q2, q3, q4, q5, q6, q7, q8, q9, q10, q11, q12, q13, q14⟩ | ⟨c, q0, q1, q2, q3, q4, q5, q6, q7, q8⟩
      · subst q1 q2 q3 q4 q5 q6 q7 q8 q9 q10 q11 q12 q13
        have e9 : RE g (B + 1) p9 ins ni9 (mi + 1) y9 pc9 st9 hi9 pl9 ca9 ck9 s9 := by
          have h9 := hR.1.2.2.2.1
          rw [h9]
          exact e3
        exact ih _ _ _ _ _ _ _ _ _ _ _ _ _ _ _ _ _ _ _ _ _ _ (by omega) (by omega) (by omega) e9 hs hg0
      · exfalso; omega
set_option maxHeartbeats 4000000 in
theorem go_lp {g ns wl : Nat} {be ho : Int32} {ki ty tp sk snw sup k9 o9 p9 c9 sn9 wc lf lt co : Nat → Int32} {s0 bf : Nat → Int32} {z : Nat → Int32 → Int32 → Int32 → Int32 → Int32 → Bool → (Nat → Int32) → (Nat → Int32) → (Nat → Int32) → (Nat → Int32) → (Nat → Int32) → (Nat → Int32) → (Nat → Int32) → Nat → (Nat → Int32) → (Nat → Int32) → Int32 × Int32 × Int32 × Int32 × Int32 × Bool × (Nat → Int32) × (Nat → Int32) × (Nat → Int32) × (Nat → Int32) × (Nat → Int32) × (Nat → Int32) × (Nat → Int32) × Nat × (Nat → Int32) × (Nat → Int32) × Int32} {z' : Nat → Int32 → Int32 → (Nat → Int32) → (Nat → Int32) → (Nat → Int32) → (Nat → Int32) → (Nat → Int32) → (Nat → Int32) → (Nat → Int32) → (Nat → Int32) → (Nat → Int32) → (Nat → Int32) → (Nat → Int32) → Int32 × Int32 × Int32 × (Nat → Int32) × (Nat → Int32) × (Nat → Int32) × (Nat → Int32) × (Nat → Int32) × (Nat → Int32) × (Nat → Int32) × (Nat → Int32) × (Nat → Int32) × (Nat → Int32) × (Nat → Int32) × Int32} (hT : TQ2 g ns be ho ki ty tp sk snw sup k9 o9 p9 c9 sn9) : ∀ k k' n B ins ni mi ta lc sx y pc st hi pl ca ck wt ws wf cn kp kb ah ag su sb te tb bn vo s, n ≤ 400 → 401 - n < k → 401 - n < k' → B + (400 - n) ≤ 1000000 → RE g B p9 ins ni mi y pc st hi pl ca ck s → ∃ i1 i2 i3 i4 i5 b6 f1 f2 f3 f4 f5 f6 f7 w1 w2 w3 r cn' ct tt v1 v2 v3 v4 v5 v6 v7 v8 v9 v10 s'', lp z (fX4_goOn_B2a 400 g ns be ho ki ty tp sk snw wl wc) k (n + 1) ins ni mi ta lc sx y pc st hi pl ca ck wt ws wf = (i1, i2, i3, i4, i5, b6, f1, f2, f3, f4, f5, f6, f7, w1, w2, w3, r) ∧ lp z' (fX9_eats_B14a (-1) sup k9 o9 p9 c9 sn9 lf lt co s0 bf) k' n cn (-1) kp kb ah ag su sb te tb bn vo s = (cn', ct, tt, v1, v2, v3, v4, v5, v6, v7, v8, v9, v10, va_cpy bf s'' 0 0 46, r) ∧ ((r = -1 ∧ ct = -1) ∨ ∃ c m, c < g ∧ ct = nI c ∧ i5 = nI c ∧ r = nI m ∧ m ≤ 400) := by
  intro k
  induction k with
  | zero => intro k' n B ins ni mi ta lc sx y pc st hi pl ca ck wt ws wf cn kp kb ah ag su sb te tb bn vo s _ h; exact absurd h (Nat.not_lt_zero _)
  | succ k ih =>
    intro k' n B ins ni mi ta lc sx y pc st hi pl ca ck wt ws wf cn kp kb ah ag su sb te tb bn vo s hn hk hk' hB hR
    obtain ⟨k', rfl⟩ : ∃ q, k' = q + 2 := ⟨k' - 2, by omega⟩
    show ∃ i1 i2 i3 i4 i5 b6 f1 f2 f3 f4 f5 f6 f7 w1 w2 w3 r cn' ct tt v1 v2 v3 v4 v5 v6 v7 v8 v9 v10 s'', fX4_goOn_B2a 400 g ns be ho ki ty tp sk snw wl wc (lp z (fX4_goOn_B2a 400 g ns be ho ki ty tp sk snw wl wc) k) (n + 1) ins ni mi ta lc sx y pc st hi pl ca ck wt ws wf = (i1, i2, i3, i4, i5, b6, f1, f2, f3, f4, f5, f6, f7, w1, w2, w3, r) ∧ fX9_eats_B14a (-1) sup k9 o9 p9 c9 sn9 lf lt co s0 bf (lp z' (fX9_eats_B14a (-1) sup k9 o9 p9 c9 sn9 lf lt co s0 bf) (k' + 1)) n cn (-1) kp kb ah ag su sb te tb bn vo s = (cn', ct, tt, v1, v2, v3, v4, v5, v6, v7, v8, v9, v10, va_cpy bf s'' 0 0 46, r) ∧ ((r = -1 ∧ ct = -1) ∨ ∃ c m, c < g ∧ ct = nI c ∧ i5 = nI c ∧ r = nI m ∧ m ≤ 400)
    have ih := ih (k' + 1) (n + 1) (B + 1)
    have hd := fun c cn kp kb ah ag su sb te tb bn vo s hc => eatsd_ (c := c) (n := n + 1) (cn := cn) (sup := sup) (k9 := k9) (o9 := o9) (p9 := p9) (c9 := c9) (sn9 := sn9) (lf := lf) (lt := lt) (co := co) (s0 := s0) (bf := bf) (kp := kp) (kb := kb) (ah := ah) (ag := ag) (su := su) (sb := sb) (te := te) (tb := tb) (bn := bn) (vo := vo) (s := s) (z := z') hc k'
    have hst := eatst_ (s0 := s0) (bf := bf) (z := z') (lf := lf) (lt := lt) (co := co) hT (k' + 1) (n + 1) (B + 1)
    generalize lp z (fX4_goOn_B2a 400 g ns be ho ki ty tp sk snw wl wc) k = rc at ih ⊢
    generalize lp z' (fX9_eats_B14a (-1) sup k9 o9 p9 c9 sn9 lf lt co s0 bf) (k' + 1) = rc' at ih hd hst ⊢
    unfold fX4_goOn_B2a fX9_eats_B14a fX9_eats_J42a fX9_eats_J64a fX9_eats_J92a
    rw [if_neg (show ¬ ((0 : Int32) ≤ -1) by decide), if_neg (show ¬ ((0 : Int32) ≤ -1) by decide), if_neg (show ¬ ((0 : Int32) ≤ -1) by decide)]
    have e400 : ((400 : Int32) < nI (n + 1)) ↔ 400 < n + 1 := nI_ltI (a := 400) (b := n + 1) (by omega) (by omega)
    by_cases c : 400 ≤ n
    · rw [if_pos c, if_pos (e400.mpr (by omega))]
      exact ⟨_, _, _, _, _, _, _, _, _, _, _, _, _, _, _, _, _, _, _, _, _, _, _, _, _, _, _, _, _, _, _, rfl, rfl, Or.inl ⟨rfl, rfl⟩⟩
    · rw [if_neg c, if_neg (fun z9 => c (by have := e400.mp z9; omega))]
      have hsn := sno_ hT (hR.1.2.2.2.2.2.2.2.2.2.2.2).1 (hR.1.2.2.2.2.2.2.2.2.2.2.2).2 (by omega)
      obtain ⟨ins9, ni9, mi9, ta9, lc9, y9, pc9, st9, hi9, pl9, ca9, ck9, wt9, ws9, wf9, v1, v2, v3, v4, v5, v6, v7, v8, v9, v10, s9, r, e1, e2, e3, e4⟩ := mnE_ (sNow := -1) (sn := fX9_snowOf (s 1) sup sn9) (ta := ta) (lc := lc) (wl := wl) (wt := wt) (wc := wc) (ws := ws) (wf := wf) (lf := lf) (lt := lt) (co := co) (kp := kp) (kb := kb) (ah := ah) (ag := ag) (su := su) (sb := sb) (te := te) (tb := tb) (bn := bn) (vo := vo) hT (by omega) hR (if_neg (by decide))
      rw [bn1_, hsn, show fX9_snowOf mi sup sn9 = fX9_snowOf (s 1) sup sn9 by rw [hR.1.2.2.2.2.2.2.2.2.1], e1, e2, bn13_, bn17_]
      rcases e4 with ⟨q1, q2, q3, q4, q5, q6, q7, q8, q9, q10, q11, q12, q13, q14⟩ | ⟨c, q0, q1, q2, q3, q4, q5, q6, q7, q8⟩
      · rw [q1, if_pos rfl]
        cases hsb : anyB (MV be (fX9_snowOf (s 1) sup sn9) (hld g y ki hi ins) y st pc) g with
        | true =>
          rw [if_pos rfl]
          exact ih _ _ _ _ _ _ _ _ _ _ _ _ _ _ _ _ _ _ _ _ _ _ _ _ _ _ _ _ (by omega) (by omega) (by omega) (by omega) e3
        | false =>
          rw [if_neg (by decide)]
          obtain ⟨t1, t2, t3, t4, t5⟩ := still_ (m := g - cnt (onR y) g) (mi := mi) (pl := pl) (ca := ca) hsb
          rw [t1] at q9
          rw [t2] at q10
          rw [t4] at q11
          rw [t5] at q12
          have q13 := (q13.trans (congrArg nI (show _ = g - cnt (onR y) g by omega))).trans hR.1.2.2.2.1.symm
          rw [q3, q4, q6, q7, q8, q9, q10, q11, q12, q13] at e3
          obtain ⟨cn8, tt8, x1, x2, x3, x4, x5, x6, x7, x8, x9, x10, s8, e8⟩ := hst (nI (BS (CM be (fX9_snowOf (s 1) sup sn9) (hld g y ki hi ins) y st pc) g)) v1 v2 v3 v4 v5 v6 v7 v8 v9 v10 s9 ins ni (mi + 1) y pc st hi pl ca ck (by omega) (by omega) (by omega) e3 (fun sn => anyB_f.mpr (fun i hi => MV_any (hR.1.1 i (by have := hT.1.1; omega)) (anyB_f.mp hsb i hi))) (by omega)
          rw [e8]
          exact ⟨_, _, _, _, _, _, _, _, _, _, _, _, _, _, _, _, _, _, _, _, _, _, _, _, _, _, _, _, _, _, _, rfl, rfl, Or.inl ⟨rfl, rfl⟩⟩
      · rw [q1, if_neg (show ¬ (nI c = -1) from fun z9 => by
          have := congrArg Int32.toInt z9
          rw [nI_toInt (by have := hT.1.1; omega), show Int32.toInt (-1) = -1 by decide] at this; omega), hd c _ _ _ _ _ _ _ _ _ _ _ _ (by have := hT.1.1; omega), q2]
        exact ⟨_, _, _, _, _, _, _, _, _, _, _, _, _, _, _, _, _, _, _, _, _, _, _, _, _, _, _, _, _, _, _, rfl, rfl, Or.inr ⟨c, n + 1, q0, rfl, rfl, rfl, by omega⟩⟩
