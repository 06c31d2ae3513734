/-! a minute's walk, guest by guest: what is behind it -/
def SEQ (N f : Nat → Int32) (q : Nat) : Nat → Int32 := fun i => if i < q then N i else f i
theorem SEQ_0 {N f : Nat → Int32} : SEQ N f 0 = f := by
  funext i
  exact if_neg (Nat.not_lt_zero i)
theorem SEQ_at {N f : Nat → Int32} {q : Nat} : SEQ N f q q = f q := if_neg (Nat.lt_irrefl q)
theorem SEQ_ge {N f : Nat → Int32} {q i : Nat} (h : q ≤ i) : SEQ N f q i = f i := if_neg (by omega)
theorem SEQ_lt {N f : Nat → Int32} {q i : Nat} (h : i < q) : SEQ N f q i = N i := if_pos h
theorem SEQ_s {N f : Nat → Int32} {q : Nat} : upd (SEQ N f q) q (N q) = SEQ N f (q + 1) := by
  funext i
  by_cases e : i = q
  · rw [e, upd_e, SEQ_lt (Nat.lt_succ_self q)]
  · rw [upd_n e]
    by_cases h : i < q
    · rw [SEQ_lt h, SEQ_lt (by omega)]
    · rw [SEQ_ge (by omega), SEQ_ge (by omega)]
theorem SEQ_k {N f : Nat → Int32} {q : Nat} (h : N q = f q) : SEQ N f q = SEQ N f (q + 1) := by
  funext i
  by_cases e : i = q
  · rw [e, SEQ_at, SEQ_lt (Nat.lt_succ_self q), h]
  · by_cases h : i < q
    · rw [SEQ_lt h, SEQ_lt (by omega)]
    · rw [SEQ_ge (by omega), SEQ_ge (by omega)]
def anyB (p : Nat → Bool) : Nat → Bool
  | 0 => false
  | n + 1 => anyB p n || p n
theorem anyB_t {p : Nat → Bool} : ∀ n, anyB p n = true ↔ ∃ i, i < n ∧ p i = true
  | 0 => ⟨fun h => Bool.noConfusion h, fun ⟨i, h, _⟩ => absurd h (Nat.not_lt_zero _)⟩
  | n + 1 => by
    show (anyB p n || p n) = true ↔ _
    rw [Bool.or_eq_true, anyB_t n]
    constructor
    · rintro (⟨i, h1, h2⟩ | h)
      · exact ⟨i, by omega, h2⟩
      · exact ⟨n, by omega, h⟩
    · rintro ⟨i, h1, h2⟩
      by_cases e : i = n
      · subst e; exact Or.inr h2
      · exact Or.inl ⟨i, by omega, h2⟩
def nyv (nr y p s : Int32) : Int32 := if nr < (y - (if 1 < (p - s) then (p - s) else 1)) then (y - (if 1 < (p - s) then (p - s) else 1)) else nr
def tgt (be sn : Int32) (h : Bool) (y p : Int32) : Int32 := nyv (if h = true then (if be < y then be else y) else 0) y p sn
def NY (be sn : Int32) (hb : Nat → Bool) (y st pc : Nat → Int32) (i : Nat) : Int32 := if onR y i = true then (if st i ≤ 0 then tgt be sn (hb i) (y i) (pc i) else y i) else y i
def NS (y st : Nat → Int32) (i : Nat) : Int32 := if onR y i = true then (if st i ≤ 0 then st i else st i - 1) else st i
def CM (be sn : Int32) (hb : Nat → Bool) (y st pc : Nat → Int32) (i : Nat) : Bool := onR y i && decide (NY be sn hb y st pc i = 0)
def MV (be sn : Int32) (hb : Nat → Bool) (y st pc : Nat → Int32) (i : Nat) : Bool := onR y i && (decide (¬ st i ≤ 0) || decide (¬ NY be sn hb y st pc i = y i))
def PLf (m0 : Nat) (pl : Nat → Int32) (be sn : Int32) (hb : Nat → Bool) (y st pc : Nat → Int32) (i : Nat) : Int32 := if CM be sn hb y st pc i = true then nI (m0 + cnt (CM be sn hb y st pc) i) else pl i
def CAf (mi : Int32) (ca : Nat → Int32) (be sn : Int32) (hb : Nat → Bool) (y st pc : Nat → Int32) (i : Nat) : Int32 := if CM be sn hb y st pc i = true then mi else ca i
theorem cnt_s1 {p : Nat → Bool} {n : Nat} (h : p n = true) : cnt p (n + 1) = cnt p n + 1 := by
  show cnt p n + (if p n = true then 1 else 0) = _
  rw [if_pos h]
theorem cnt_s0 {p : Nat → Bool} {n : Nat} (h : p n = false) : cnt p (n + 1) = cnt p n := by
  show cnt p n + (if p n = true then 1 else 0) = _
  rw [if_neg (by rw [h]; decide)]; rfl
theorem anyB_s {p : Nat → Bool} {n : Nat} : anyB p (n + 1) = (anyB p n || p n) := rfl
set_option maxHeartbeats 1000000 in
theorem wk_1 {be sn mi : Int32} {hb : Nat → Bool} {y st pc pl ca : Nat → Int32} {m0 : Nat} {q : Nat} {nr : Int32} (rc : Nat → (Nat → Int32) → (Nat → Int32) → (Nat → Int32) → Int32 → Bool → (Nat → Int32) → Int32 × Bool × (Nat → Int32) × (Nat → Int32) × (Nat → Int32) × (Nat → Int32)) (hq : q < 6) (hon : onR y q = true) (hst : st q ≤ 0) (hN : NY be sn hb y st pc q = nyv nr (y q) (pc q) sn) : fX4_walk_J96a sn mi pc q (SEQ (NS y st) st q) (SEQ (PLf m0 pl be sn hb y st pc) pl q) (SEQ (CAf mi ca be sn hb y st pc) ca q) (nI (m0 + cnt (CM be sn hb y st pc) q)) (anyB (MV be sn hb y st pc) q) (SEQ (NY be sn hb y st pc) y q) rc nr = rc (q + 1) (SEQ (NS y st) st (q + 1)) (SEQ (PLf m0 pl be sn hb y st pc) pl (q + 1)) (SEQ (CAf mi ca be sn hb y st pc) ca (q + 1)) (nI (m0 + cnt (CM be sn hb y st pc) (q + 1))) (anyB (MV be sn hb y st pc) (q + 1)) (SEQ (NY be sn hb y st pc) y (q + 1)) := by
  have ec : Int32.toNatClampNeg (nI q) = q := nI_clamp (by omega)
  have hS : SEQ (NS y st) st q = SEQ (NS y st) st (q + 1) := SEQ_k (by unfold NS; rw [if_pos hon, if_pos hst])
  have hY : upd (SEQ (NY be sn hb y st pc) y q) q (NY be sn hb y st pc q) = SEQ (NY be sn hb y st pc) y (q + 1) := SEQ_s
  have hM : MV be sn hb y st pc q = decide (¬ NY be sn hb y st pc q = y q) := by unfold MV; rw [hon, decide_eq_false (fun z => z hst), Bool.true_and, Bool.false_or]
  have hC : CM be sn hb y st pc q = decide (NY be sn hb y st pc q = 0) := by unfold CM; rw [hon, Bool.true_and]
  have ev : (if nr < (y q - (if 1 < (pc q - sn) then (pc q - sn) else 1)) then (y q - (if 1 < (pc q - sn) then (pc q - sn) else 1)) else nr) = NY be sn hb y st pc q := hN.symm
  unfold fX4_walk_J96a fX4_walk_J138a fX4_walk_J188a
  rw [ec, SEQ_at, ev, hY, anyB_s, hM]
  by_cases e0 : NY be sn hb y st pc q = 0
  · have hp : upd (SEQ (PLf m0 pl be sn hb y st pc) pl q) q (nI (m0 + cnt (CM be sn hb y st pc) q)) = SEQ (PLf m0 pl be sn hb y st pc) pl (q + 1) := by
      rw [show nI (m0 + cnt (CM be sn hb y st pc) q) = (PLf m0 pl be sn hb y st pc) q from by unfold PLf; rw [if_pos (hC.trans (decide_eq_true e0))]]; exact SEQ_s
    have hc : upd (SEQ (CAf mi ca be sn hb y st pc) ca q) q mi = SEQ (CAf mi ca be sn hb y st pc) ca (q + 1) := by
      have h9 := SEQ_s (N := (CAf mi ca be sn hb y st pc)) (f := ca) (q := q)
      rw [show (CAf mi ca be sn hb y st pc) q = mi from by unfold CAf; rw [if_pos (hC.trans (decide_eq_true e0))]] at h9
      exact h9
    have hn : nI (m0 + cnt (CM be sn hb y st pc) q) + 1 = nI (m0 + cnt (CM be sn hb y st pc) (q + 1)) := by rw [cnt_s1 (hC.trans (decide_eq_true e0))]; exact nI_add (m0 + cnt (CM be sn hb y st pc) q) 1
    rw [if_pos e0, if_pos e0, hp, hc, hn, hS]
    by_cases e1 : NY be sn hb y st pc q = y q
    · rw [if_pos e1, decide_eq_false (fun z => z e1)]
    · rw [if_neg e1, decide_eq_true e1]
  · have hp : SEQ (PLf m0 pl be sn hb y st pc) pl q = SEQ (PLf m0 pl be sn hb y st pc) pl (q + 1) := SEQ_k (by unfold PLf; rw [if_neg (by rw [hC, decide_eq_false e0]; decide)])
    have hc : SEQ (CAf mi ca be sn hb y st pc) ca q = SEQ (CAf mi ca be sn hb y st pc) ca (q + 1) := SEQ_k (by unfold CAf; rw [if_neg (by rw [hC, decide_eq_false e0]; decide)])
    have hn : cnt (CM be sn hb y st pc) q = cnt (CM be sn hb y st pc) (q + 1) := (cnt_s0 (hC.trans (decide_eq_false e0))).symm
    rw [if_neg e0, if_neg e0, hp, hc, hn, hS]
    by_cases e1 : NY be sn hb y st pc q = y q
    · rw [if_pos e1, decide_eq_false (fun z => z e1)]
    · rw [if_neg e1, decide_eq_true e1]
set_option maxHeartbeats 1000000 in
theorem wk_lp {g : Nat} {be sn mi : Int32} {hb : Nat → Bool} {y st pc pl ca : Nat → Int32} {m0 : Nat} {z : Nat → (Nat → Int32) → (Nat → Int32) → (Nat → Int32) → Int32 → Bool → (Nat → Int32) → Int32 × Bool × (Nat → Int32) × (Nat → Int32) × (Nat → Int32) × (Nat → Int32)} (hg : g ≤ 6) (hy : ∀ i, i < 6 → 0 ≤ Int32.toInt (y i)) : ∀ k q, q ≤ g → 7 - q < k → lp z (fX4_walk_B14a sn mi pc g be (nI (BS hb g))) k q (SEQ (NS y st) st q) (SEQ (PLf m0 pl be sn hb y st pc) pl q) (SEQ (CAf mi ca be sn hb y st pc) ca q) (nI (m0 + cnt (CM be sn hb y st pc) q)) (anyB (MV be sn hb y st pc) q) (SEQ (NY be sn hb y st pc) y q) = (nI (m0 + cnt (CM be sn hb y st pc) g), anyB (MV be sn hb y st pc) g, SEQ (NY be sn hb y st pc) y g, SEQ (NS y st) st g, SEQ (PLf m0 pl be sn hb y st pc) pl g, SEQ (CAf mi ca be sn hb y st pc) ca g) := by
  intro k
  induction k with
  | zero => intro q _ h; exact absurd h (Nat.not_lt_zero _)
  | succ k ih =>
    intro q hq hk
    show fX4_walk_B14a sn mi pc g be (nI (BS hb g)) (lp z (fX4_walk_B14a sn mi pc g be (nI (BS hb g))) k) q (SEQ (NS y st) st q) (SEQ (PLf m0 pl be sn hb y st pc) pl q) (SEQ (CAf mi ca be sn hb y st pc) ca q) (nI (m0 + cnt (CM be sn hb y st pc) q)) (anyB (MV be sn hb y st pc) q) (SEQ (NY be sn hb y st pc) y q) = _
    have ih := ih (q + 1)
    generalize lp z (fX4_walk_B14a sn mi pc g be (nI (BS hb g))) k = rc at ih ⊢
    unfold fX4_walk_B14a
    by_cases c : g ≤ q
    · rw [if_pos c, show g = q by omega]
    · have ih := ih (by omega) (by omega)
      have ec : Int32.toNatClampNeg (nI q) = q := nI_clamp (by omega)
      have hn : onR (SEQ (NY be sn hb y st pc) y q) q = onR y q := by unfold onR; rw [SEQ_at]
      rw [if_neg c, bn1_, c_on (by omega) (by rw [SEQ_at]; exact hy q (by omega)), hn, ec, SEQ_at, SEQ_at]
      cases e1 : onR y q with
      | false =>
        have eN : NY be sn hb y st pc q = y q := by unfold NY; rw [if_neg (by rw [e1]; decide)]
        have eC : CM be sn hb y st pc q = false := by unfold CM; rw [e1, Bool.false_and]
        have eM : MV be sn hb y st pc q = false := by unfold MV; rw [e1, Bool.false_and]
        rw [if_neg (by decide)]
        unfold fX4_walk_J188a
        rw [SEQ_k (N := (NS y st)) (f := st) (q := q) (by unfold NS; rw [if_neg (by rw [e1]; decide)]), SEQ_k (N := (PLf m0 pl be sn hb y st pc)) (f := pl) (q := q) (by unfold PLf; rw [if_neg (by rw [eC]; decide)]), SEQ_k (N := (CAf mi ca be sn hb y st pc)) (f := ca) (q := q) (by unfold CAf; rw [if_neg (by rw [eC]; decide)]), SEQ_k (N := (NY be sn hb y st pc)) (f := y) (q := q) eN, ← cnt_s0 eC]
        rw [anyB_s, eM, Bool.or_false] at ih
        exact ih
      | true =>
        rw [if_pos rfl]
        by_cases hst : st q ≤ 0
        · rw [if_pos hst]
          have hbit := (BS_bit (p := hb) hg (show q < g by omega)).1
          cases e2 : hb q with
          | true =>
            rw [if_pos (hbit.mpr e2), wk_1 rc (by omega) e1 hst (by unfold NY tgt; rw [if_pos e1, if_pos hst, e2, if_pos rfl])]
            exact ih
          | false =>
            rw [if_neg (fun z => by rw [hbit.mp z] at e2; exact Bool.noConfusion e2), wk_1 rc (by omega) e1 hst (by unfold NY tgt; rw [if_pos e1, if_pos hst, e2, if_neg (by decide)])]
            exact ih
        · rw [if_neg hst]
          have eN : NY be sn hb y st pc q = y q := by unfold NY; rw [if_pos e1, if_neg hst]
          have eC : CM be sn hb y st pc q = false := by unfold CM; rw [eN, decide_eq_false (onR_t.mp e1), Bool.and_false]
          have eM : MV be sn hb y st pc q = true := by unfold MV; rw [e1, decide_eq_true hst]; rfl
          have eS : st q - 1 = NS y st q := by unfold NS; rw [if_pos e1, if_neg hst]
          unfold fX4_walk_J188a
          rw [eS, SEQ_s, SEQ_k (N := (PLf m0 pl be sn hb y st pc)) (f := pl) (q := q) (by unfold PLf; rw [if_neg (by rw [eC]; decide)]), SEQ_k (N := (CAf mi ca be sn hb y st pc)) (f := ca) (q := q) (by unfold CAf; rw [if_neg (by rw [eC]; decide)]), SEQ_k (N := (NY be sn hb y st pc)) (f := y) (q := q) eN, ← cnt_s0 eC]
          rw [anyB_s, eM, Bool.or_true] at ih
          exact ih
theorem wk_ {g : Nat} {be sn mi : Int32} {hb : Nat → Bool} {y st pc pl ca : Nat → Int32} {m0 : Nat} {hi ki : Nat → Int32} {ins : Int32} (hg : g ≤ 6) (hy : ∀ i, i < 6 → 0 ≤ Int32.toInt (y i)) (hins : ins = nI m0) (hh : hb = hld g y ki hi ins) : fX4_walk sn ins mi y pc st hi pl ca g be ki = (nI (m0 + cnt (CM be sn hb y st pc) g), anyB (MV be sn hb y st pc) g, SEQ (NY be sn hb y st pc) y g, SEQ (NS y st) st g, SEQ (PLf m0 pl be sn hb y st pc) pl g, SEQ (CAf mi ca be sn hb y st pc) ca g) := by
  unfold fX4_walk
  rw [bn1_, hb_ hg hy, ← hh, hins]
  have h := wk_lp (g := g) (be := be) (sn := sn) (mi := mi) (hb := hb) (y := y) (st := st) (pc := pc) (pl := pl) (ca := ca) (m0 := m0) (z := fun _ _ _ _ _ _ _ => ((0 : Int32), false, (fun _ => 0), (fun _ => 0), (fun _ => 0), (fun _ => 0))) hg hy ((6 + 1 - 0) + 1) 0 (by omega) (by omega)
  rw [SEQ_0, SEQ_0, SEQ_0, SEQ_0] at h
  exact h
