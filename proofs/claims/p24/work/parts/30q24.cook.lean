/-! places at the table: one each; who cooks: by both -/
theorem cnt_mono {p : Nat → Bool} : ∀ {a b : Nat}, a ≤ b → cnt p a ≤ cnt p b := by
  intro a b h
  induction b with
  | zero => rw [show a = 0 by omega]; exact Nat.le_refl _
  | succ b ih =>
    by_cases e : a = b + 1
    · rw [e]; exact Nat.le_refl _
    · exact Nat.le_trans (ih (by omega)) (Nat.le_add_right _ _)
theorem cnt_lt {p : Nat → Bool} {q n : Nat} (h : q < n) (hp : p q = true) : cnt p q < cnt p n := by
  have h1 := cnt_s1 hp
  have h2 := cnt_mono (p := p) (a := q + 1) (b := n) h
  omega
theorem cnt_inv {p : Nat → Bool} : ∀ n j, j < cnt p n → ∃ q, q < n ∧ p q = true ∧ cnt p q = j
  | 0, j, h => absurd h (Nat.not_lt_zero _)
  | n + 1, j, h => by
    cases hp : p n with
    | true =>
      rw [cnt_s1 hp] at h
      by_cases e : j = cnt p n
      · exact ⟨n, by omega, hp, e.symm⟩
      · obtain ⟨q, h1, h2, h3⟩ := cnt_inv (p := p) n j (by omega)
        exact ⟨q, by omega, h2, h3⟩
    | false =>
      rw [cnt_s0 hp] at h
      obtain ⟨q, h1, h2, h3⟩ := cnt_inv (p := p) n j h
      exact ⟨q, by omega, h2, h3⟩
theorem cnt_uniq {p : Nat → Bool} {a b : Nat} (ha : p a = true) (hb : p b = true) (h : cnt p a = cnt p b) : a = b := by
  rcases Nat.lt_trichotomy a b with z | z | z
  · have := cnt_lt z ha; omega
  · exact z
  · have := cnt_lt z hb; omega
theorem cnt_add {p q r : Nat → Bool} : ∀ n, (∀ i, i < n → (p i = (q i || r i)) ∧ ((q i && r i) = false)) → cnt p n = cnt q n + cnt r n
  | 0, _ => rfl
  | n + 1, h => by
    have ih := cnt_add n (fun i hi => h i (by omega))
    obtain ⟨h1, h2⟩ := h n (by omega)
    show cnt p n + (if p n = true then 1 else 0) = (cnt q n + (if q n = true then 1 else 0)) + (cnt r n + (if r n = true then 1 else 0))
    rw [h1, ih]
    cases eq : q n <;> cases er : r n
    · simp
    · simp; omega
    · simp; omega
    · rw [eq, er] at h2; exact absurd h2 (by decide)
def PI (g m : Nat) (y pl : Nat → Int32) : Prop := (∀ i, i < m → ∃ q, q < g ∧ y q = 0 ∧ pl q = nI i) ∧ (∀ q, q < g → y q = 0 → ∃ i, i < m ∧ pl q = nI i) ∧ (∀ q q', q < g → q' < g → y q = 0 → y q' = 0 → pl q = pl q' → q = q') ∧ (∀ q, q < 6 → 0 < g → g ≤ q ∨ ¬ y q = 0 → pl q = -1)
theorem NY_in {be sn : Int32} {hb : Nat → Bool} {y st pc : Nat → Int32} {q : Nat} (h : y q = 0) : NY be sn hb y st pc q = 0 ∧ CM be sn hb y st pc q = false := by
  have e := onR_f.mpr h
  constructor
  · unfold NY; rw [if_neg (by rw [e]; decide)]; exact h
  · unfold CM; rw [e, Bool.false_and]
theorem CM_t {be sn : Int32} {hb : Nat → Bool} {y st pc : Nat → Int32} {q : Nat} (h : CM be sn hb y st pc q = true) : ¬ y q = 0 ∧ NY be sn hb y st pc q = 0 := by
  unfold CM at h
  rw [Bool.and_eq_true, onR_t, decide_eq_true_iff] at h
  exact h
theorem cm_or {be sn : Int32} {hb : Nat → Bool} {y st pc : Nat → Int32} {q : Nat} (h : NY be sn hb y st pc q = 0) : y q = 0 ∨ CM be sn hb y st pc q = true := by
  by_cases e : y q = 0
  · exact Or.inl e
  · refine Or.inr ?_
    unfold CM
    rw [onR_t.mpr e, decide_eq_true h]; rfl
theorem PI_w {g m : Nat} {be sn : Int32} {hb : Nat → Bool} {y st pc pl : Nat → Int32} (hg : g ≤ 6) (hm : m ≤ 6) (h : PI g m y pl) : PI g (m + cnt (CM be sn hb y st pc) g) (SEQ (NY be sn hb y st pc) y g) (SEQ (PLf m pl be sn hb y st pc) pl g) := by
  obtain ⟨h1, h2, h3, h4⟩ := h
  have hc := cnt_le (p := CM be sn hb y st pc) g
  have pn : ∀ q, q < g → CM be sn hb y st pc q = true → SEQ (PLf m pl be sn hb y st pc) pl g q = nI (m + cnt (CM be sn hb y st pc) q) := fun q hq e => by rw [SEQ_lt hq]; unfold PLf; rw [if_pos e]
  have po : ∀ q, q < g → CM be sn hb y st pc q = false → SEQ (PLf m pl be sn hb y st pc) pl g q = pl q := fun q hq e => by rw [SEQ_lt hq]; unfold PLf; rw [if_neg (by rw [e]; decide)]
  have eqn : ∀ a b, a < 100 → b < 100 → (nI a = nI b ↔ a = b) := fun a b ha hb => nI_eq (by omega) (by omega)
  refine ⟨fun i hi => ?_, fun q hq hy => ?_, fun q q' hq hq' hy hy' e => ?_, fun q hq h0 hy => ?_⟩
  · by_cases c : i < m
    · obtain ⟨q, a1, a2, a3⟩ := h1 i c
      exact ⟨q, a1, by rw [SEQ_lt a1]; exact (NY_in a2).1, by rw [po q a1 (NY_in a2).2]; exact a3⟩
    · obtain ⟨q, a1, a2, a3⟩ := cnt_inv (p := CM be sn hb y st pc) g (i - m) (by omega)
      exact ⟨q, a1, by rw [SEQ_lt a1]; exact (CM_t a2).2, by rw [pn q a1 a2, a3, show m + (i - m) = i by omega]⟩
  · rw [SEQ_lt hq] at hy
    rcases cm_or hy with a | a
    · obtain ⟨i, b1, b2⟩ := h2 q hq a
      exact ⟨i, by omega, by rw [po q hq (NY_in a).2]; exact b2⟩
    · exact ⟨m + cnt (CM be sn hb y st pc) q, by have := cnt_lt hq a; omega, pn q hq a⟩
  · rw [SEQ_lt hq] at hy
    rw [SEQ_lt hq'] at hy'
    rcases cm_or hy with a | a <;> rcases cm_or hy' with b | b
    · rw [po q hq (NY_in a).2, po q' hq' (NY_in b).2] at e
      exact h3 q q' hq hq' a b e
    · obtain ⟨i, c1, c2⟩ := h2 q hq a
      have := cnt_lt hq' b
      rw [po q hq (NY_in a).2, pn q' hq' b, c2, eqn _ _ (by omega) (by omega)] at e
      omega
    · obtain ⟨i, c1, c2⟩ := h2 q' hq' b
      have := cnt_lt hq a
      rw [pn q hq a, po q' hq' (NY_in b).2, c2, eqn _ _ (by omega) (by omega)] at e
      omega
    · have d1 := cnt_lt hq a
      have d2 := cnt_lt hq' b
      rw [pn q hq a, pn q' hq' b, eqn _ _ (by omega) (by omega)] at e
      exact cnt_uniq a b (by omega)
  · by_cases c : g ≤ q
    · rw [SEQ_ge c]; exact h4 q hq h0 (Or.inl c)
    · rw [SEQ_lt (by omega)] at hy
      have hy := hy.resolve_left c
      have hn : ¬ y q = 0 := fun z => hy (NY_in z).1
      have hcf : CM be sn hb y st pc q = false := by
        cases e : CM be sn hb y st pc q with
        | false => rfl
        | true => exact absurd (CM_t e).2 hy
      rw [po q (by omega) hcf]
      exact h4 q hq h0 (Or.inr hn)
theorem onR_w {g : Nat} {be sn : Int32} {hb : Nat → Bool} {y st pc : Nat → Int32} : cnt (onR y) g = cnt (onR (SEQ (NY be sn hb y st pc) y g)) g + cnt (CM be sn hb y st pc) g := by
  refine cnt_add g (fun i hi => ?_)
  by_cases e : y i = 0
  · rw [onR_f.mpr e, (NY_in e).2, onR_f.mpr (show SEQ (NY be sn hb y st pc) y g i = 0 by rw [SEQ_lt hi]; exact (NY_in e).1)]
    exact ⟨rfl, rfl⟩
  · rw [onR_t.mpr e]
    by_cases n : NY be sn hb y st pc i = 0
    · rw [(cm_or n).resolve_left e, onR_f.mpr (show SEQ (NY be sn hb y st pc) y g i = 0 by rw [SEQ_lt hi]; exact n)]
      exact ⟨rfl, rfl⟩
    · have hcf : CM be sn hb y st pc i = false := by
        cases z : CM be sn hb y st pc i with
        | false => rfl
        | true => exact absurd (CM_t z).2 n
      rw [hcf, onR_t.mpr (show ¬ SEQ (NY be sn hb y st pc) y g i = 0 by rw [SEQ_lt hi]; exact n)]
      exact ⟨rfl, rfl⟩
/-- whoever has a place -/
theorem at_lp {pl : Nat → Int32} {q i : Nat} {z : Nat → Int32} (hq : q < 6) (hi : i < 6) (h : pl q = nI i) : ∀ k j, j ≤ q → 7 - j < k → (∀ q', j ≤ q' → q' < q → ¬ pl q' = nI i) → lp z (fX4_atPlace_B2a (nI i) pl) k j = nI q := by
  intro k
  induction k with
  | zero => intro j _ h; exact absurd h (Nat.not_lt_zero _)
  | succ k ih =>
    intro j hj hk hu
    show fX4_atPlace_B2a (nI i) pl (lp z (fX4_atPlace_B2a (nI i) pl) k) j = _
    have ih := ih (j + 1)
    generalize lp z (fX4_atPlace_B2a (nI i) pl) k = rc at ih ⊢
    unfold fX4_atPlace_B2a fX4_atPlace_J24a
    rw [if_neg (by omega), if_neg (nI_n0 (by omega)), nI_clamp (by omega)]
    by_cases e : j = q
    · rw [e, if_pos h]
    · rw [if_neg (hu j (Nat.le_refl j) (by omega))]
      exact ih (by omega) (by omega) (fun q' a b => hu q' (by omega) b)
theorem at_ {pl : Nat → Int32} {q i : Nat} (hq : q < 6) (hi : i < 6) (h : pl q = nI i) (hu : ∀ q', q' < q → ¬ pl q' = nI i) : fX4_atPlace (nI i) pl = nI q := by
  unfold fX4_atPlace
  exact at_lp hq hi h _ 0 (by omega) (by omega) (fun q' _ b => hu q' b)
/-- all are in: a place each -/
def PB (g : Nat) (pl : Nat → Int32) (pn w : Nat → Nat) : Prop := (∀ q, q < g → pn q < g ∧ pl q = nI (pn q) ∧ w (pn q) = q) ∧ (∀ i, i < g → w i < g ∧ pn (w i) = i)
theorem PB_of {g : Nat} {y pl : Nat → Int32} (hg : g ≤ 6) (h : PI g g y pl) (hy : ∀ q, q < g → y q = 0) : ∃ pn w, PB g pl pn w := by
  obtain ⟨h1, h2, h3, h4⟩ := h
  have a : ∀ q, ∃ i, q < g → i < g ∧ pl q = nI i := fun q => by
    by_cases c : q < g
    · obtain ⟨i, b1, b2⟩ := h2 q c (hy q c)
      exact ⟨i, fun _ => ⟨b1, b2⟩⟩
    · exact ⟨0, fun z => absurd z c⟩
  have b : ∀ i, ∃ q, i < g → q < g ∧ pl q = nI i := fun i => by
    by_cases c : i < g
    · obtain ⟨q, b1, b2, b3⟩ := h1 i c
      exact ⟨q, fun _ => ⟨b1, b3⟩⟩
    · exact ⟨0, fun z => absurd z c⟩
  refine ⟨fun q => Classical.choose (a q), fun i => Classical.choose (b i), fun q hq => ?_, fun i hi => ?_⟩
  · have a1 := Classical.choose_spec (a q) hq
    have b1 := Classical.choose_spec (b (Classical.choose (a q))) a1.1
    exact ⟨a1.1, a1.2, h3 _ _ b1.1 hq (hy _ b1.1) (hy _ hq) (b1.2.trans a1.2.symm)⟩
  · have b1 := Classical.choose_spec (b i) hi
    have a1 := Classical.choose_spec (a (Classical.choose (b i))) b1.1
    refine ⟨b1.1, ?_⟩
    have e := a1.2.symm.trans b1.2
    have a2 := a1.1
    exact (nI_eq (a := Classical.choose (a (Classical.choose (b i)))) (b := i) (by omega) (by omega)).mp e
theorem PB_at {g : Nat} {pl : Nat → Int32} {pn w : Nat → Nat} (hg : g ≤ 6) (h : PB g pl pn w) {i : Nat} (hi : i < g) : fX4_atPlace (nI i) pl = nI (w i) := by
  obtain ⟨w1, w2⟩ := h.2 i hi
  have p1 := h.1 (w i) w1
  refine at_ (by omega) (by omega) (by rw [p1.2.1, w2]) (fun q' hq' e => ?_)
  have p2 := h.1 q' (by omega)
  rw [p2.2.1] at e
  have e := (nI_eq (by omega) (by omega)).mp e
  have : w (pn q') = q' := p2.2.2
  rw [e] at this
  omega
def keyC (ki : Nat → Int32) (pn : Nat → Nat) (x : Nat) : Nat := (if ki x = 1 then 0 else 100) + pn x
def BestC (g : Nat) (ki : Nat → Int32) (pn : Nat → Nat) (c : Nat) : Prop := c < g ∧ ∀ x, x < g → keyC ki pn x ≤ keyC ki pn c
theorem Best_uniq {g : Nat} {ki pl : Nat → Int32} {pn w : Nat → Nat} {a b : Nat} (hg : g ≤ 6) (h : PB g pl pn w) (ha : BestC g ki pn a) (hb : BestC g ki pn b) : a = b := by
  have e1 := ha.2 b hb.1
  have e2 := hb.2 a ha.1
  have pa := h.1 a ha.1
  have pb := h.1 b hb.1
  have e : keyC ki pn a = keyC ki pn b := by omega
  unfold keyC at e
  have ep : pn a = pn b := by
    by_cases c1 : ki a = 1 <;> by_cases c2 : ki b = 1
    · rw [if_pos c1, if_pos c2] at e; omega
    · rw [if_pos c1, if_neg c2] at e; omega
    · rw [if_neg c1, if_pos c2] at e; omega
    · rw [if_neg c1, if_neg c2] at e; omega
  rw [← pa.2.2, ← pb.2.2, ep]
theorem nI_m1 {i : Nat} (h : i < 1000) : nI (i + 1) + (-1) = nI i := by
  refine Int32.toInt_inj.mp ?_
  rw [tI_add (nI_toInt (by omega)) (show Int32.toInt (-1) = -1 by decide) (by omega) (by omega), nI_toInt (by omega)]; omega
theorem ct_lp {g : Nat} {ki pl : Nat → Int32} {pn w : Nat → Nat} {z : Int32 → Int32} (hg : g ≤ 6) (h0 : 0 < g) (h : PB g pl pn w) : ∀ k n, n ≤ g → n < k → (∀ x, x < g → n ≤ pn x → ki x = 1) → ∃ c, BestC g ki pn c ∧ lp z (fX4_cookAtTable_B7a pl g ki) k (if n = 0 then -1 else nI (n - 1)) = nI c := by
  intro k
  induction k with
  | zero => intro n _ h; exact absurd h (Nat.not_lt_zero _)
  | succ k ih =>
    intro n hn hk hd
    show ∃ c, BestC g ki pn c ∧ fX4_cookAtTable_B7a pl g ki (lp z (fX4_cookAtTable_B7a pl g ki) k) (if n = 0 then -1 else nI (n - 1)) = nI c
    have ih := ih (n - 1)
    generalize lp z (fX4_cookAtTable_B7a pl g ki) k = rc at ih ⊢
    unfold fX4_cookAtTable_B7a fX4_cookAtTable_J34a
    by_cases c : n = 0
    · rw [if_pos c, if_pos (by decide), bn1_, show nI g - 1 = nI (g - 1) from by
        refine Int32.toInt_inj.mp ?_
        rw [tI_sub (nI_toInt (by omega)) (show Int32.toInt 1 = 1 by decide) (by omega) (by omega), nI_toInt (by omega)]; omega, PB_at hg h (show g - 1 < g by omega)]
      refine ⟨w (g - 1), ⟨(h.2 (g - 1) (by omega)).1, fun x hx => ?_⟩, rfl⟩
      unfold keyC
      rw [if_pos (hd x hx (by omega)), if_pos (hd _ (h.2 (g - 1) (by omega)).1 (by omega)), (h.2 (g - 1) (by omega)).2]
      have := (h.1 x hx).1
      omega
    · have w1 := h.2 (n - 1) (by omega)
      rw [if_neg c, if_neg (nI_n0 (by omega)), bn1_, PB_at hg h (show n - 1 < g by omega), if_neg (show ¬ (nI (w (n - 1)) = -1) from fun z => by
        have := congrArg Int32.toInt z
        rw [nI_toInt (by omega), show Int32.toInt (-1) = -1 by decide] at this; omega), nI_clamp (by omega)]
      by_cases d : ki (w (n - 1)) = 1
      · rw [if_pos d]
        have ih := ih (by omega) (by omega) (fun x hx hp => by
          by_cases e : pn x = n - 1
          · have := (h.1 x hx).2.2
            rw [e] at this; rw [← this]; exact d
          · exact hd x hx (by omega))
        by_cases c1 : n - 1 = 0
        · rw [if_pos c1] at ih
          rw [c1, show nI 0 + (-1) = -1 by decide]
          exact ih
        · rw [if_neg c1] at ih
          obtain ⟨m, hm⟩ : ∃ m, n - 1 = m + 1 := ⟨n - 2, by omega⟩
          rw [hm, Nat.add_sub_cancel] at ih
          rw [hm, nI_m1 (by omega)]
          exact ih
      · rw [if_neg d]
        refine ⟨w (n - 1), ⟨w1.1, fun x hx => ?_⟩, rfl⟩
        unfold keyC
        rw [if_neg d, w1.2]
        have p1 := (h.1 x hx).1
        by_cases e : ki x = 1
        · rw [if_pos e]; omega
        · rw [if_neg e]
          have : ¬ n ≤ pn x := fun z => e (hd x hx z)
          omega
theorem ct_ {g : Nat} {ki pl : Nat → Int32} {pn w : Nat → Nat} (hg : g ≤ 6) (h0 : 0 < g) (h : PB g pl pn w) : ∃ c, BestC g ki pn c ∧ fX4_cookAtTable pl g ki = nI c := by
  have e : nI g - 1 = nI (g - 1) := by
    refine Int32.toInt_inj.mp ?_
    rw [tI_sub (nI_toInt (by omega)) (show Int32.toInt 1 = 1 by decide) (by omega) (by omega), nI_toInt (by omega)]; omega
  unfold fX4_cookAtTable
  rw [e, nI_toInt (by omega)]
  have r := ct_lp (ki := ki) (z := fun _ => (0 : Int32)) hg h0 h ((((g - 1 : Nat) : Int) - (-1) + 1).toNat + 1) g (Nat.le_refl g) (by omega) (fun x hx hp => absurd (h.1 x hx).1 (by omega))
  rw [if_neg (by omega)] at r
  exact r
/-- the reference's choice -/
theorem cn_lp {g : Nat} {sup k9 s ki pl : Nat → Int32} {pn w : Nat → Nat} {z : Int32 → Nat → Int32} (hg : g ≤ 6) (hs : sup 0 = nI g) (h : PB g pl pn w) (hk : ∀ i, i < g → ki i = k9 i) (hp : ∀ i, i < g → pl i = s (10 + i)) : ∀ k q b, q ≤ g → 7 - q < k → ((q = 0 ∧ b = (-1 : Int32)) ∨ ∃ c, c < q ∧ b = nI c ∧ ∀ x, x < q → keyC ki pn x ≤ keyC ki pn c) → 0 < g → ∃ c, BestC g ki pn c ∧ lp z (fX9_cookNow_B4a sup k9 s) k b q = nI c := by
  intro k
  induction k with
  | zero => intro q b _ h; exact absurd h (Nat.not_lt_zero _)
  | succ k ih =>
    intro q b hq hk' hb h0
    show ∃ c, BestC g ki pn c ∧ fX9_cookNow_B4a sup k9 s (lp z (fX9_cookNow_B4a sup k9 s) k) b q = nI c
    have ih := ih (q + 1)
    generalize lp z (fX9_cookNow_B4a sup k9 s) k = rc at ih ⊢
    unfold fX9_cookNow_B4a
    rw [show Int32.toNatClampNeg 0 = 0 by decide, hs]
    by_cases c : g ≤ q
    · rw [if_pos ((nI_leI (by omega) (by omega)).mpr c)]
      rcases hb with ⟨b1, _⟩ | ⟨d, b1, b2, b3⟩
      · omega
      · exact ⟨d, ⟨by omega, fun x hx => b3 x (by omega)⟩, b2⟩
    · rw [if_neg (fun z => c ((nI_leI (a := g) (b := q) (by omega) (by omega)).mp z))]
      -- against one that is the best so far
      have main : ∀ d, d ≤ q → (∀ x, x < q → keyC ki pn x ≤ keyC ki pn d) → ∃ e, BestC g ki pn e ∧ fX9_cookNow_J20a k9 s q rc (nI d) = nI e := by
        clear hb
        intro d hd hx
        have pq := h.1 q (by omega)
        have pd := h.1 d (by omega)
        have vq : s (Int32.toNatClampNeg (nI (10 + q))) = nI (pn q) := by rw [nI_clamp (by omega), ← hp q (by omega)]; exact pq.2.1
        have vd : s (Int32.toNatClampNeg (10 + nI d)) = nI (pn d) := by rw [show (10 : Int32) + nI d = nI (10 + d) from nI_add 10 d, nI_clamp (by omega), ← hp d (by omega)]; exact pd.2.1
        have cle : (nI (pn q) ≤ nI (pn d)) ↔ pn q ≤ pn d := nI_leI (by omega) (by omega)
        have toq : keyC ki pn d ≤ keyC ki pn q → ∃ e, BestC g ki pn e ∧ rc (nI q) (q + 1) = nI e := fun hkq => ih (nI q) (by omega) (by omega) (Or.inr ⟨q, by omega, rfl, fun x hx' => by
          by_cases e : x = q
          · rw [e]; exact Nat.le_refl _
          · exact Nat.le_trans (hx x (by omega)) hkq⟩) h0
        have tod : keyC ki pn q ≤ keyC ki pn d → ∃ e, BestC g ki pn e ∧ rc (nI d) (q + 1) = nI e := fun hkq => ih (nI d) (by omega) (by omega) (Or.inr ⟨d, by omega, rfl, fun x hx' => by
          by_cases e : x = q
          · rw [e]; exact hkq
          · exact hx x (by omega)⟩) h0
        unfold fX9_cookNow_J20a fX9_cookNow_J35a fX9_cookNow_J50a fX9_cookNow_J97a fX9_cookNow_J104a
        rw [vq, vd, nI_clamp (by omega), nI_clamp (by omega), ← hk q (by omega), ← hk d (by omega)]
        unfold keyC at toq tod
        have lq := pq.1
        have ld := pd.1
        by_cases k1 : ki q = 1 <;> by_cases k2 : ki d = 1
        · rw [if_pos k1, if_pos k2, if_pos rfl]
          rw [if_pos k1, if_pos k2] at toq tod
          by_cases l : pn q ≤ pn d
          · rw [if_pos (cle.mpr l), if_neg (by decide)]; exact tod (by omega)
          · rw [if_neg (fun z => l (cle.mp z)), if_pos rfl]; exact toq (by omega)
        · rw [if_pos k1, if_neg k2, if_neg (by decide), if_neg k2, if_neg (by decide)]
          rw [if_pos k1, if_neg k2] at tod
          exact tod (by omega)
        · rw [if_neg k1, if_pos k2, if_neg (by decide), if_pos k2, if_pos rfl]
          rw [if_neg k1, if_pos k2] at toq
          exact toq (by omega)
        · rw [if_neg k1, if_neg k2, if_pos rfl]
          rw [if_neg k1, if_neg k2] at toq tod
          by_cases l : pn q ≤ pn d
          · rw [if_pos (cle.mpr l), if_neg (by decide)]; exact tod (by omega)
          · rw [if_neg (fun z => l (cle.mp z)), if_pos rfl]; exact toq (by omega)
      rcases hb with ⟨b1, b2⟩ | ⟨d, b1, b2, b3⟩
      · rw [b2, if_neg (by decide)]
        exact main q (Nat.le_refl q) (fun x hx => absurd hx (by omega))
      · rw [b2, if_pos (show (0 : Int32) ≤ nI d from by rw [Int32.le_iff_toInt_le, nI_toInt (by omega), show Int32.toInt 0 = 0 by decide]; omega)]
        exact main d (by omega) b3
theorem cn_ {g : Nat} {sup k9 s ki pl : Nat → Int32} {pn w : Nat → Nat} (hg : g ≤ 6) (h0 : 0 < g) (hs : sup 0 = nI g) (h : PB g pl pn w) (hk : ∀ i, i < g → ki i = k9 i) (hp : ∀ i, i < g → pl i = s (10 + i)) : ∃ c, c < g ∧ fX4_cookAtTable pl g ki = nI c ∧ fX9_cookNow sup k9 s = nI c := by
  obtain ⟨a, a1, a2⟩ := ct_ (ki := ki) hg h0 h
  obtain ⟨b, b1, b2⟩ := cn_lp (z := fun _ _ => (0 : Int32)) hg hs h hk hp ((6 + 1 - 0) + 1) 0 (-1) (by omega) (by omega) (Or.inl ⟨rfl, rfl⟩) h0
  have e := Best_uniq hg h a1 b1
  exact ⟨a, a1.1, a2, by unfold fX9_cookNow; rw [e]; exact b2⟩
