/-! numbers, words and signs taken, by both -/
theorem t_wrong {s : Nat → Int32} {n b nx p bg tk : Nat} {pl kd vl to : Int32} {lt wo : Int64} (h : TT s n b nx pl kd vl lt p bg tk wo to) (k : Int32) : fX6_wrong k pl = (k + nI (16 * b), false) ∧ fX9_fails k bg = (k + nI (16 * b), false) := by
  obtain ⟨h1, h2, h3⟩ := t_place h
  unfold fX6_wrong fX9_fails
  rw [h1, h2]
  exact ⟨by rw [show (16 : Int32) * nI b = nI (16 * b) from pk_mul 16 b], rfl⟩
/-- further on, both at one token -/
def TG (s : Nat → Int32) (n b nx : Nat) (pl kd vl : Int32) (lt : Int64) (p bg tk : Nat) (wo : Int64) (to : Int32) : Prop := ∃ b', b < b' ∧ TT s n b' nx pl kd vl lt p bg tk wo to
theorem K_lt {s : Nat → Int32} {n b : Nat} (hb : b ≤ n) (h : ¬ tK s n b = 0) : b < n := by
  by_cases e : b = n
  · exact absurd (by unfold tK; rw [if_pos e]) h
  · omega
theorem t_advG {s : Nat → Int32} {n b nx p bg tk : Nat} {pl kd vl to : Int32} {lt wo : Int64} {w : Nat → Int64} {f : Nat → Int32} (hn : n ≤ 1000) (hw : WT w) (hf : SG f s) (h : TT s n b nx pl kd vl lt p bg tk wo to) (hk : ¬ tK s n b = 0) : ∃ nx' pl' kd' vl' lt' p' bg' tk' wo' to', fX6_advance n nx lt s w f = (nx', pl', kd', vl', lt') ∧ fX9_nextToken n p s = (p', bg', tk', wo', to') ∧ TT s n (nt s n b) nx' pl' kd' vl' lt' p' bg' tk' wo' to' ∧ b < nt s n b := by
  obtain ⟨a1, a2, a3, a4, a5, c1, c2, c3, c4, c5, e1, e2, h3⟩ := t_adv hn hw hf h
  exact ⟨a1, a2, a3, a4, a5, c1, c2, c3, c4, c5, e1, e2, h3, nt_gt (K_lt h.1.1 hk)⟩
theorem S_K {s : Nat → Int32} {n b nx p bg tk : Nat} {pl kd vl to : Int32} {lt wo : Int64} {c : Int32} (h : TT s n b nx pl kd vl lt p bg tk wo to) (q : fX9_isSign c bg tk s = true) : tK s n b = 3 := by
  unfold fX9_isSign fX9_isSign_J25a at q
  by_cases e : tk = 3
  · rw [← h.2.2.2.2.1]; exact e
  · rw [if_neg e] at q; exact Bool.noConfusion q
theorem W_K {s : Nat → Int32} {n b nx p bg tk : Nat} {pl kd vl to : Int32} {lt wo W : Int64} (h : TT s n b nx pl kd vl lt p bg tk wo to) (q : fX9_isWord W tk wo = true) : tK s n b = 1 := by
  unfold fX9_isWord fX9_isWord_J21a at q
  by_cases e : tk = 1
  · rw [← h.2.2.2.2.1]; exact e
  · rw [if_neg e] at q; exact Bool.noConfusion q
theorem t_close {s : Nat → Int32} {n b nx p bg tk : Nat} {pl kd vl to fa wr : Int32} {lt wo : Int64} {w : Nat → Int64} {f : Nat → Int32} (hn : n ≤ 1000) (hw : WT w) (hf : SG f s) (h : TT s n b nx pl kd vl lt p bg tk wo to) : ∃ nx' pl' kd' vl' lt' fa' p' bg' tk' wo' to' wr' ok, fX6_takeSign 59 n nx pl kd vl lt fa s w f = (nx', pl', kd', vl', lt', fa', ok) ∧ fX9_closes n p bg tk wo to wr s = (p', bg', tk', wo', to', wr', ok) ∧ (ok = true → TG s n b nx' pl' kd' vl' lt' p' bg' tk' wo' to' ∧ fa' = fa) ∧ (ok = false → fa' = wr') := by
  unfold fX6_takeSign fX9_closes
  rw [bn1_, bn1_, t_sign hn h 59]
  obtain ⟨w1, w2⟩ := t_wrong h 1
  cases q : fX9_isSign 59 bg tk s with
  | true =>
    obtain ⟨a1, a2, a3, a4, a5, c1, c2, c3, c4, c5, e1, e2, h3, h4⟩ := t_advG hn hw hf h (by rw [S_K h q]; decide)
    rw [if_pos rfl, if_pos rfl, e1, e2, bn5_, bn5_]
    exact ⟨a1, a2, a3, a4, a5, fa, c1, c2, c3, c4, c5, wr, true, rfl, rfl, fun _ => ⟨⟨_, h4, h3⟩, rfl⟩, fun z => Bool.noConfusion z⟩
  | false =>
    rw [if_neg (by decide), if_neg (by decide), w1, w2]
    exact ⟨nx, pl, kd, vl, lt, _, p, bg, tk, wo, to, _, false, rfl, rfl, fun z => Bool.noConfusion z, fun _ => rfl⟩
theorem wi_ (x lo hi : Int32) : fX8_isWithin x lo hi = fX9_within x lo hi := rfl
theorem wi_t {x lo hi : Int32} : fX9_within x lo hi = true ↔ Int32.toInt lo ≤ Int32.toInt x ∧ Int32.toInt x ≤ Int32.toInt hi := by
  unfold fX9_within fX9_within_J14a
  by_cases h1 : x < lo
  · rw [if_pos h1]
    rw [Int32.lt_iff_toInt_lt] at h1
    exact ⟨fun z => Bool.noConfusion z, fun z => by omega⟩
  · rw [if_neg h1]
    rw [Int32.lt_iff_toInt_lt] at h1
    by_cases h2 : hi < x
    · rw [if_pos h2]
      rw [Int32.lt_iff_toInt_lt] at h2
      exact ⟨fun z => Bool.noConfusion z, fun z => by omega⟩
    · rw [if_neg h2]
      rw [Int32.lt_iff_toInt_lt] at h2
      exact ⟨fun _ => ⟨by omega, by omega⟩, fun _ => rfl⟩
theorem t_need {s : Nat → Int32} {n b nx p bg tk : Nat} {pl kd vl to fa wr gi lo hi : Int32} {lt wo : Int64} {w : Nat → Int64} {f : Nat → Int32} (hn : n ≤ 1000) (hw : WT w) (hf : SG f s) (h : TT s n b nx pl kd vl lt p bg tk wo to) : ∃ nx' pl' kd' vl' lt' fa' p' bg' tk' wo' to' wr' gi' ok r, fX6_takeNumber lo hi n nx pl kd vl lt fa s w f = (nx', pl', kd', vl', lt', fa', r) ∧ fX9_needsNumber lo hi n p bg tk wo to wr gi s = (p', bg', tk', wo', to', wr', gi', ok) ∧ (ok = true → TG s n b nx' pl' kd' vl' lt' p' bg' tk' wo' to' ∧ r = gi' ∧ Int32.toInt lo ≤ Int32.toInt r ∧ Int32.toInt r ≤ Int32.toInt hi ∧ fa' = fa) ∧ (ok = false → r = -1 ∧ fa' = wr') := by
  unfold fX6_takeNumber fX9_needsNumber fX6_checkNumber fX6_checkNumber_J34a fX6_checkNumber_J39a
  obtain ⟨n1, n2⟩ := t_num h
  obtain ⟨w1, w2⟩ := t_wrong h 1
  obtain ⟨w3, w4⟩ := t_wrong h 4
  by_cases k2 : tk = 2
  · rw [if_pos k2, if_pos (n1.mpr k2), n2 k2, bn1_, bn1_, wi_]
    have hK : tK s n b = 2 := by rw [← h.2.2.2.2.1]; exact k2
    cases q : fX9_within to lo hi with
    | true =>
      obtain ⟨a1, a2, a3, a4, a5, c1, c2, c3, c4, c5, e1, e2, h3, h4⟩ := t_advG hn hw hf h (by rw [hK]; decide)
      rw [if_pos rfl, if_pos rfl, bn2_, if_pos rfl, e1, e2, bn5_, bn5_]
      exact ⟨a1, a2, a3, a4, a5, fa, c1, c2, c3, c4, c5, wr, to, true, to, rfl, rfl, fun _ => ⟨⟨_, h4, h3⟩, rfl, (wi_t.mp q).1, (wi_t.mp q).2, rfl⟩, fun z => Bool.noConfusion z⟩
    | false =>
      rw [if_neg (by decide), if_neg (by decide), w3, w4]
      exact ⟨nx, pl, kd, to, lt, _, p, bg, tk, wo, to, _, gi, false, -1, rfl, rfl, fun z => Bool.noConfusion z, fun _ => ⟨rfl, rfl⟩⟩
  · rw [if_neg k2, if_neg (fun z => k2 (n1.mp z)), w1, w2]
    exact ⟨nx, pl, kd, vl, lt, _, p, bg, tk, wo, to, _, gi, false, -1, rfl, rfl, fun z => Bool.noConfusion z, fun _ => ⟨rfl, rfl⟩⟩
theorem TG.tr {s : Nat → Int32} {n b b1 nx p bg tk : Nat} {pl kd vl to : Int32} {lt wo : Int64} (h : TG s n b1 nx pl kd vl lt p bg tk wo to) (hb : b < b1) : TG s n b nx pl kd vl lt p bg tk wo to := by
  obtain ⟨b', h1, h2⟩ := h
  exact ⟨b', by omega, h2⟩
/-- a word and a number -/
theorem t_both {s : Nat → Int32} {n b nx p bg tk : Nat} {pl kd vl to fa wr gi lo hi x : Int32} {lt wo W : Int64} {w : Nat → Int64} {f : Nat → Int32} (hn : n ≤ 1000) (hw : WT w) (hf : SG f s) (h : TT s n b nx pl kd vl lt p bg tk wo to) {j : Nat} (hj : j < 23) (hx : x = nI j) (hW : Int64.toInt W = Er 27 (wd j)) : ∃ nx' pl' kd' vl' lt' fa' p' bg' tk' wo' to' wr' gi' ok r, fX7_readMeasure x lo hi n nx pl kd vl lt fa s w f = (nx', pl', kd', vl', lt', fa', r) ∧ fX9_needsBoth W lo hi n p bg tk wo to wr gi s = (p', bg', tk', wo', to', wr', gi', ok) ∧ (ok = true → TG s n b nx' pl' kd' vl' lt' p' bg' tk' wo' to' ∧ r = gi' ∧ Int32.toInt lo ≤ Int32.toInt r ∧ Int32.toInt r ≤ Int32.toInt hi ∧ fa' = fa) ∧ (ok = false → r = -1 ∧ fa' = wr') := by
  unfold fX7_readMeasure fX7_readMeasure_J18a fX6_takeWord fX9_needsBoth
  rw [bn1_, bn1_, t_word h hj hx hW]
  obtain ⟨w1, w2⟩ := t_wrong h 1
  cases q : fX9_isWord W tk wo with
  | true =>
    obtain ⟨a1, a2, a3, a4, a5, c1, c2, c3, c4, c5, e1, e2, h3, h4⟩ := t_advG hn hw hf h (by rw [W_K h q]; decide)
    rw [if_pos rfl, if_pos rfl, e1, e2]
    obtain ⟨d1, d2, d3, d4, d5, d6, g1, g2, g3, g4, g5, g6, g7, ok, r, k1, k2, k3, k4⟩ := t_need (fa := fa) (wr := wr) (gi := gi) (lo := lo) (hi := hi) hn hw hf h3
    rw [bn5_, bn5_, bn7_, if_pos rfl, k1, k2, bn7_, bn8_]
    exact ⟨d1, d2, d3, d4, d5, d6, g1, g2, g3, g4, g5, g6, g7, ok, r, rfl, rfl, fun z => ⟨(k3 z).1.tr h4, (k3 z).2⟩, k4⟩
  | false =>
    rw [if_neg (by decide), if_neg (by decide), w1, w2]
    exact ⟨nx, pl, kd, vl, lt, _, p, bg, tk, wo, to, _, gi, false, -1, rfl, rfl, fun z => Bool.noConfusion z, fun _ => ⟨rfl, rfl⟩⟩
/-- guests by their names, in both -/
def NR (g : Nat) (na gn : Nat → Int64) (o : Nat) : Prop := ∀ k, k < g → ∃ l, okl l ∧ Int64.toInt (na k) = Er 32 l ∧ Int64.toInt (gn (o + k)) = Er 27 l
theorem NR_eq {g o : Nat} {na gn : Nat → Int64} (h : NR g na gn o) {l : List Int} {lt wo : Int64} (ho : okl l) (h1 : Int64.toInt lt = Er 32 l) (h2 : Int64.toInt wo = Er 27 l) {k : Nat} (hk : k < g) : na k = lt ↔ gn (o + k) = wo := by
  obtain ⟨l', a1, a2, a3⟩ := h k hk
  rw [← Int64.toInt_inj, ← Int64.toInt_inj, a2, a3, h1, h2]
  exact Er_two a1 ho
theorem t_named {g : Nat} {na gn : Nat → Int64} {sup : Nat → Int32} (hg : g ≤ 6) (hs : sup 4 = nI g) (h : NR g na gn 6) {l : List Int} {lt wo : Int64} (ho : okl l) (h1 : Int64.toInt lt = Er 32 l) (h2 : Int64.toInt wo = Er 27 l) : ∀ k j, j ≤ 6 → 7 - j < k → ∀ z z', lp z (fX7_numberOf_B2a lt g na) k j = lp z' (fX9_guestNamed1_B5a wo sup gn) k (6 + j) := by
  intro k
  induction k with
  | zero => intro j _ q; exact absurd q (Nat.not_lt_zero _)
  | succ k ih =>
    intro j hj q z z'
    show fX7_numberOf_B2a lt g na (lp z (fX7_numberOf_B2a lt g na) k) j = fX9_guestNamed1_B5a wo sup gn (lp z' (fX9_guestNamed1_B5a wo sup gn) k) (6 + j)
    have ih := fun y => ih (j + 1) y (by omega) z z'
    generalize lp z (fX7_numberOf_B2a lt g na) k = r1 at ih ⊢
    generalize lp z' (fX9_guestNamed1_B5a wo sup gn) k = r2 at ih ⊢
    unfold fX7_numberOf_B2a fX9_guestNamed1_B5a
    rw [show Int32.toNatClampNeg 4 = 4 by decide, hs, show (6 : Int32) + nI g = nI (6 + g) from nI_add 6 g, nI_clamp (by omega), nI_clamp (by omega), show 6 + j - 6 = j by omega]
    by_cases c : g ≤ j
    · rw [if_pos c, if_pos ((nI_leI (by omega) (by omega)).mpr (by omega))]
    · rw [if_neg c, if_neg (show ¬ (nI (6 + g) ≤ nI (6 + j)) from fun y => c (by have := (nI_leI (a := 6 + g) (b := 6 + j) (by omega) (by omega)).mp y; omega))]
      have e := NR_eq h ho h1 h2 (k := j) (by omega)
      by_cases d : na j = lt
      · rw [if_pos ((lg_cmp_eq _ _).mpr d), if_pos ((lg_cmp_eq _ _).mpr (e.mp d))]
      · rw [if_neg (fun y => d ((lg_cmp_eq _ _).mp y)), if_neg (fun y => d (e.mpr ((lg_cmp_eq _ _).mp y)))]
        exact ih (by omega)
theorem t_guest {g : Nat} {na gn : Nat → Int64} {sup : Nat → Int32} (hg : g ≤ 6) (hs : sup 4 = nI g) (h : NR g na gn 6) {l : List Int} {lt wo : Int64} (ho : okl l) (h1 : Int64.toInt lt = Er 32 l) (h2 : Int64.toInt wo = Er 27 l) : fX7_numberOf lt g na = fX9_guestNamed1 wo sup gn := by
  unfold fX7_numberOf fX9_guestNamed1
  exact t_named hg hs h ho h1 h2 _ 0 (by omega) (by omega) _ _
