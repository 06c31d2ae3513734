/-! what is open, by its row: 1 where it is a not -/
theorem nI_dec {a : Nat} (h : 0 < a) (ha : a < 2 ^ 31) : nI a + (-1) = nI (a - 1) := by
  apply Int32.toInt_inj.mp
  rw [tI_add (nI_toInt ha) (show Int32.toInt (-1) = -1 by decide) (by omega) (by omega), nI_toInt (by omega)]
  omega
def nst (g : Nat → Int32) : List Bool → Prop
  | [] => True
  | b :: r => (g (r.length + 1) = 1 ↔ b = true) ∧ nst g r
theorem nst_up {g : Nat → Int32} {v : Int32} {j : Nat} : ∀ {l : List Bool}, l.length < j → nst g l → nst (upd g j v) l
  | [], _, _ => trivial
  | b :: r, h, hn => by
    have h' : r.length + 1 < j := h
    exact ⟨by rw [pk_un (by omega)]; exact hn.1, nst_up (by omega) hn.2⟩
def I9_put (f' f : Nat → Int32) (n : Nat) (c : Int32) : Prop := f' = upd f n c
theorem I9_put_ {f : Nat → Int32} {n : Nat} {c : Int32} (h : n < 2 ^ 31) : I9_put (upd f (Int32.toNatClampNeg (nI n)) c) f n c := by
  unfold I9_put; rw [nI_clamp h]
def I9_st (f g : Nat → Int32) (a n d : Nat) : Prop := a ≤ n ∧ ∃ l, mch f a (n - a) = some l ∧ l.length = d ∧ nst g l
def I9_pp (f g : Nat → Int32) (a n d : Nat) : Prop := a ≤ n ∧ ∃ l, mch f a (n - a) = some (popn l) ∧ l.length = d ∧ nst g l
theorem st_0 {f g : Nat → Int32} {a : Nat} : I9_st f g a a 0 := ⟨Nat.le_refl a, [], by rw [Nat.sub_self]; rfl, rfl, trivial⟩
theorem st_ok {f g : Nat → Int32} {a n d : Nat} (h : I9_st f g a n d) : I9_ok f a n := by
  obtain ⟨-, l, h1, -⟩ := h
  exact ⟨l, h1⟩
theorem mch_next {f : Nat → Int32} {a n : Nat} (h : a ≤ n) : mch f a (n + 1 - a) = (mch f a (n - a)).bind (stp (f n)) := by
  rw [show n + 1 - a = (n - a) + 1 by omega]
  show (mch f a (n - a)).bind (stp (f (a + (n - a)))) = _
  rw [show a + (n - a) = n by omega]
theorem mch_put {f : Nat → Int32} {a n : Nat} {c : Int32} (h : a ≤ n) : mch (upd f n c) a (n + 1 - a) = (mch f a (n - a)).bind (stp c) := by
  rw [mch_next h, pk_us, mch_congr (g := upd f n c) (f := f) (n := n - a) (fun q h1 h2 => pk_un (by omega))]
theorem stp_val {c : Int32} {l : List Bool} (h0 : 0 ≤ Int32.toInt c) (h : ¬ Int32.toInt c = 28 ∧ ¬ Int32.toInt c = 30 ∧ ¬ Int32.toInt c = 29 ∧ ¬ Int32.toInt c = 20 ∧ ¬ Int32.toInt c = 21 ∧ ¬ Int32.toInt c = 22 ∧ ¬ Int32.toInt c = 24 ∧ ¬ Int32.toInt c = 25 ∧ ¬ Int32.toInt c = 26 ∧ ¬ Int32.toInt c = 27) : stp c l = some (popn l) := by
  obtain ⟨h1, h2, h3, h4, h5, h6, h7, h8, h9, h10⟩ := h
  unfold stp
  rw [if_neg (fun e => h1 (by rw [e]; decide)), if_neg (fun e => h2 (by rw [e]; decide)), if_neg (fun e => h3 (by rw [e]; decide)), if_neg, if_neg]
  · intro e
    have := Int32.lt_iff_toInt_lt.mp e
    rw [show Int32.toInt 0 = 0 by decide] at this
    omega
  · rintro (e | e | e | e | e | e | e)
    · exact h4 (by rw [e]; decide)
    · exact h5 (by rw [e]; decide)
    · exact h6 (by rw [e]; decide)
    · exact h7 (by rw [e]; decide)
    · exact h8 (by rw [e]; decide)
    · exact h9 (by rw [e]; decide)
    · exact h10 (by rw [e]; decide)
theorem stp_bin {c : Int32} {l : List Bool} (h : c = 20 ∨ c = 21 ∨ c = 22 ∨ c = 24 ∨ c = 25 ∨ c = 26 ∨ c = 27) : stp c l = some l := by
  rcases h with e | e | e | e | e | e | e <;> subst e <;> rfl
theorem stp_opn {c : Int32} {l : List Bool} {b : Bool} (h : c = 30 ∧ b = true ∨ c = 28 ∧ b = false) (hl : l.length < 5) : stp c l = some (b :: l) := by
  rcases h with ⟨e, e'⟩ | ⟨e, e'⟩ <;> subst e <;> subst e' <;> unfold stp
  · rw [if_neg (by decide), if_pos rfl, if_pos hl]
  · rw [if_pos rfl, if_pos hl]
theorem rd_open {f f' g : Nat → Int32} {a n n' d : Nat} {c v : Int32} (e : I9_put f' f n c) (h : I9_st f g a n d) (en : n' = n + 1) (hd : d < 5) (hc : c = 30 ∧ v = 1 ∨ c = 28 ∧ v = 2) : I9_st f' (upd g (Int32.toNatClampNeg (nI (d + 1))) v) a n' (d + 1) := by
  obtain ⟨h0, l, h1, h2, h3⟩ := h
  have e : f' = upd f n _ := e
  subst e; subst en; subst h2
  rw [nI_clamp (by omega)]
  rcases hc with ⟨e1, e2⟩ | ⟨e1, e2⟩ <;> subst e1 <;> subst e2
  · exact ⟨by omega, true :: l, by rw [mch_put h0, h1]; exact stp_opn (Or.inl ⟨rfl, rfl⟩) hd, rfl, ⟨fun _ => rfl, fun _ => pk_us⟩, nst_up (Nat.lt_succ_self _) h3⟩
  · exact ⟨by omega, false :: l, by rw [mch_put h0, h1]; exact stp_opn (Or.inr ⟨rfl, rfl⟩) hd, rfl, ⟨fun q => by rw [pk_us] at q; exact absurd q (by decide), fun q => Bool.noConfusion q⟩, nst_up (Nat.lt_succ_self _) h3⟩
theorem rd_val {f f' g : Nat → Int32} {a n n' d : Nat} {c : Int32} (e : I9_put f' f n c) (h : I9_st f g a n d) (en : n' = n + 1) (hc : (1 ≤ Int32.toInt c ∧ Int32.toInt c ≤ 4) ∨ 100 ≤ Int32.toInt c) : I9_pp f' g a n' d := by
  obtain ⟨h0, l, h1, h2, h3⟩ := h
  have e : f' = upd f n _ := e
  subst e; subst en
  exact ⟨by omega, l, by rw [mch_put h0, h1]; exact stp_val (by omega) (by omega), h2, h3⟩
theorem rd_bin {f f' g : Nat → Int32} {a n n' d : Nat} {c : Int32} (e : I9_put f' f n c) (h : I9_st f g a n d) (en : n' = n + 1) (hc : c = 20 ∨ c = 21 ∨ c = 22 ∨ c = 24 ∨ c = 25 ∨ c = 26 ∨ c = 27) : I9_st f' g a n' d := by
  obtain ⟨h0, l, h1, h2, h3⟩ := h
  have e : f' = upd f n _ := e
  subst e; subst en
  exact ⟨by omega, l, by rw [mch_put h0, h1]; exact stp_bin hc, h2, h3⟩
theorem stp_cls {b : Bool} {r : List Bool} : stp 29 (b :: r) = some (popn r) := by
  unfold stp
  rw [if_neg (by decide), if_neg (by decide), if_pos rfl]
theorem rd_cls {f f' g : Nat → Int32} {a n n' d : Nat} (e : I9_put f' f n 29) (h : I9_st f g a n d) (en : n' = n + 1) (hd : 0 < d) : I9_pp f' g a n' (d - 1) := by
  obtain ⟨h0, l, h1, h2, h3⟩ := h
  have e : f' = upd f n _ := e
  subst e; subst en; subst h2
  cases l with
  | nil => exact absurd hd (by decide)
  | cons b r => exact ⟨by omega, r, by rw [mch_put h0, h1]; exact stp_cls, by simp, h3.2⟩
theorem lo_put {f0 f f' : Nat → Int32} {n : Nat} {c : Int32} (e : I9_put f' f n c) (h : I9_lo f0 f) (hn : 1000 ≤ n) : I9_lo f0 f' := by
  have e : f' = upd f n _ := e
  subst e
  intro q hq
  rw [pk_un (by omega)]
  exact h q hq
theorem lo_rf {f : Nat → Int32} : I9_lo f f := fun _ _ => rfl
theorem pp_pop {f g : Nat → Int32} {a n d : Nat} (h : I9_pp f g a n d) (hd : 0 < d) (h5 : d < 100) (hg : Int32.toInt (g (Int32.toNatClampNeg (nI d))) = 1) : I9_pp f g a n (d - 1) := by
  obtain ⟨h0, l, h1, h2, h3⟩ := h
  subst h2
  rw [nI_clamp (by omega)] at hg
  have hg1 : g l.length = 1 := Int32.toInt_inj.mp (hg.trans (by decide))
  cases l with
  | nil => exact absurd hd (by decide)
  | cons b r =>
    have hb : b = true := h3.1.mp hg1
    subst hb
    exact ⟨h0, r, h1, by simp, h3.2⟩
theorem pp_end0 {f g : Nat → Int32} {a n d : Nat} (h : I9_pp f g a n d) (hd : ¬ 0 < d) : I9_st f g a n d := by
  obtain ⟨h0, l, h1, h2, h3⟩ := h
  subst h2
  cases l with
  | nil => exact ⟨h0, [], h1, rfl, trivial⟩
  | cons b r => exact absurd (Nat.succ_pos _) hd
theorem pp_end1 {f g : Nat → Int32} {a n d : Nat} (h : I9_pp f g a n d) (h5 : d < 100) (hg : Int32.toInt (g (Int32.toNatClampNeg (nI d))) ≠ 1) : I9_st f g a n d := by
  obtain ⟨h0, l, h1, h2, h3⟩ := h
  subst h2
  rw [nI_clamp (by omega)] at hg
  cases l with
  | nil => exact ⟨h0, [], h1, rfl, trivial⟩
  | cons b r =>
    cases b with
    | true => exact absurd (show Int32.toInt (g (r.length + 1)) = 1 by rw [h3.1.mpr rfl]; decide) hg
    | false => exact ⟨h0, false :: r, h1, rfl, h3⟩
theorem wk_step {f g : Nat → Int32} {a b k d : Nat} (h : I9_st f g a k d) (ok : I9_ok f a b) (hk : k < b) : a ≤ k ∧ ∃ l l', l.length = d ∧ nst g l ∧ stp (f k) l = some l' ∧ mch f a (k + 1 - a) = some l' := by
  obtain ⟨h0, l, h1, h2, h3⟩ := h
  obtain ⟨z, hz⟩ := ok
  obtain ⟨l', h4⟩ := mch_some (k := k + 1 - a) hz (by omega)
  refine ⟨h0, l, l', h2, h3, ?_, h4⟩
  rw [mch_next h0, h1] at h4
  exact h4
theorem wk_open {f g : Nat → Int32} {a b k d : Nat} (h : I9_st f g a k d) (ok : I9_ok f a b) (hk : k < b) (hb : b < 2 ^ 31) (hc : Int32.toInt (f (Int32.toNatClampNeg (nI k))) = 28 ∨ Int32.toInt (f (Int32.toNatClampNeg (nI k))) = 30) : d < 5 := by
  obtain ⟨h0, l, l', h2, h3, h4, h5⟩ := wk_step h ok hk
  rw [nI_clamp (by omega)] at hc
  subst h2
  rcases hc with e | e
  · have e' : f k = 28 := Int32.toInt_inj.mp (e.trans (by decide))
    rw [e'] at h4
    unfold stp at h4
    rw [if_pos rfl] at h4
    split at h4
    · assumption
    · cases h4
  · have e' : f k = 30 := Int32.toInt_inj.mp (e.trans (by decide))
    rw [e'] at h4
    unfold stp at h4
    rw [if_neg (by decide), if_pos rfl] at h4
    split at h4
    · assumption
    · cases h4
theorem wk_open2 {f g : Nat → Int32} {a b k d : Nat} {v : Int32} (h : I9_st f g a k d) (ok : I9_ok f a b) (hk : k < b) (hb : b < 2 ^ 31) (hd : d < 5) (hc : Int32.toInt (f (Int32.toNatClampNeg (nI k))) = 30 ∧ v = 1 ∨ Int32.toInt (f (Int32.toNatClampNeg (nI k))) = 28 ∧ v = 0) : I9_st f (upd g (Int32.toNatClampNeg (nI (d + 1))) v) a (k + 1) (d + 1) := by
  obtain ⟨h0, l, l', h2, h3, h4, h5⟩ := wk_step h ok hk
  rw [nI_clamp (by omega)] at hc ⊢
  subst h2
  rcases hc with ⟨e, ev⟩ | ⟨e, ev⟩ <;> subst ev
  · have e' : f k = 30 := Int32.toInt_inj.mp (e.trans (by decide))
    rw [e', stp_opn (Or.inl ⟨rfl, rfl⟩) hd] at h4
    cases h4
    exact ⟨by omega, true :: l, h5, rfl, ⟨fun _ => rfl, fun _ => pk_us⟩, nst_up (Nat.lt_succ_self _) h3⟩
  · have e' : f k = 28 := Int32.toInt_inj.mp (e.trans (by decide))
    rw [e', stp_opn (Or.inr ⟨rfl, rfl⟩) hd] at h4
    cases h4
    exact ⟨by omega, false :: l, h5, rfl, ⟨fun q => by rw [pk_us] at q; exact absurd q (by decide), fun q => Bool.noConfusion q⟩, nst_up (Nat.lt_succ_self _) h3⟩
theorem wk_bin {f g : Nat → Int32} {a b k d : Nat} (h : I9_st f g a k d) (ok : I9_ok f a b) (hk : k < b) (hb : b < 2 ^ 31) (hc : Int32.toInt (f (Int32.toNatClampNeg (nI k))) = 20 ∨ Int32.toInt (f (Int32.toNatClampNeg (nI k))) = 21 ∨ Int32.toInt (f (Int32.toNatClampNeg (nI k))) = 22 ∨ Int32.toInt (f (Int32.toNatClampNeg (nI k))) = 24 ∨ Int32.toInt (f (Int32.toNatClampNeg (nI k))) = 25 ∨ Int32.toInt (f (Int32.toNatClampNeg (nI k))) = 26 ∨ Int32.toInt (f (Int32.toNatClampNeg (nI k))) = 27) : I9_st f g a (k + 1) d := by
  obtain ⟨h0, l, l', h2, h3, h4, h5⟩ := wk_step h ok hk
  rw [nI_clamp (by omega)] at hc
  have hs : stp (f k) l = some l := by
    rcases hc with e | e | e | e | e | e | e
    · exact stp_bin (Or.inl (Int32.toInt_inj.mp (e.trans (by decide))))
    · exact stp_bin (Or.inr (Or.inl (Int32.toInt_inj.mp (e.trans (by decide)))))
    · exact stp_bin (Or.inr (Or.inr (Or.inl (Int32.toInt_inj.mp (e.trans (by decide))))))
    · exact stp_bin (Or.inr (Or.inr (Or.inr (Or.inl (Int32.toInt_inj.mp (e.trans (by decide)))))))
    · exact stp_bin (Or.inr (Or.inr (Or.inr (Or.inr (Or.inl (Int32.toInt_inj.mp (e.trans (by decide))))))))
    · exact stp_bin (Or.inr (Or.inr (Or.inr (Or.inr (Or.inr (Or.inl (Int32.toInt_inj.mp (e.trans (by decide)))))))))
    · exact stp_bin (Or.inr (Or.inr (Or.inr (Or.inr (Or.inr (Or.inr (Int32.toInt_inj.mp (e.trans (by decide)))))))))
  rw [hs] at h4
  cases h4
  exact ⟨by omega, l, h5, h2, h3⟩
theorem wk_nn {f g : Nat → Int32} {a b k d : Nat} (h : I9_st f g a k d) (ok : I9_ok f a b) (hk : k < b) (hb : b < 2 ^ 31) : 0 ≤ Int32.toInt (f (Int32.toNatClampNeg (nI k))) := by
  obtain ⟨h0, l, l', h2, h3, h4, h5⟩ := wk_step h ok hk
  rw [nI_clamp (by omega)]
  by_cases hn : 0 ≤ Int32.toInt (f k)
  · exact hn
  · exfalso
    have hne : ∀ z : Int32, 0 ≤ Int32.toInt z → ¬ f k = z := fun z hz e => hn (by rw [e]; exact hz)
    unfold stp at h4
    rw [if_neg (hne 28 (by decide)), if_neg (hne 30 (by decide)), if_neg (hne 29 (by decide)), if_neg, if_pos] at h4
    · cases h4
    · exact Int32.lt_iff_toInt_lt.mpr (by rw [show Int32.toInt 0 = 0 by decide]; omega)
    · rintro (e | e | e | e | e | e | e)
      · exact hne 20 (by decide) e
      · exact hne 21 (by decide) e
      · exact hne 22 (by decide) e
      · exact hne 24 (by decide) e
      · exact hne 25 (by decide) e
      · exact hne 26 (by decide) e
      · exact hne 27 (by decide) e
theorem wk_val {f g : Nat → Int32} {a b k d : Nat} (h : I9_st f g a k d) (ok : I9_ok f a b) (hk : k < b) (hb : b < 2 ^ 31) (hc : ¬ Int32.toInt (f (Int32.toNatClampNeg (nI k))) = 28 ∧ ¬ Int32.toInt (f (Int32.toNatClampNeg (nI k))) = 30 ∧ ¬ Int32.toInt (f (Int32.toNatClampNeg (nI k))) = 29 ∧ ¬ Int32.toInt (f (Int32.toNatClampNeg (nI k))) = 20 ∧ ¬ Int32.toInt (f (Int32.toNatClampNeg (nI k))) = 21 ∧ ¬ Int32.toInt (f (Int32.toNatClampNeg (nI k))) = 22 ∧ ¬ Int32.toInt (f (Int32.toNatClampNeg (nI k))) = 24 ∧ ¬ Int32.toInt (f (Int32.toNatClampNeg (nI k))) = 25 ∧ ¬ Int32.toInt (f (Int32.toNatClampNeg (nI k))) = 26 ∧ ¬ Int32.toInt (f (Int32.toNatClampNeg (nI k))) = 27) : I9_pp f g a (k + 1) d := by
  have hn := wk_nn h ok hk hb
  obtain ⟨h0, l, l', h2, h3, h4, h5⟩ := wk_step h ok hk
  rw [nI_clamp (by omega)] at hc hn
  rw [stp_val hn hc] at h4
  cases h4
  exact ⟨by omega, l, h5, h2, h3⟩
theorem wk_cls {f g : Nat → Int32} {a b k d : Nat} (h : I9_st f g a k d) (ok : I9_ok f a b) (hk : k < b) (hb : b < 2 ^ 31) (hc : Int32.toInt (f (Int32.toNatClampNeg (nI k))) = 29) : 0 < d ∧ I9_pp f g a (k + 1) (d - 1) := by
  obtain ⟨h0, l, l', h2, h3, h4, h5⟩ := wk_step h ok hk
  rw [nI_clamp (by omega)] at hc
  have e' : f k = 29 := Int32.toInt_inj.mp (hc.trans (by decide))
  rw [e'] at h4
  subst h2
  cases l with
  | nil =>
    unfold stp at h4
    rw [if_neg (by decide), if_neg (by decide), if_pos rfl] at h4
    cases h4
  | cons b r =>
    rw [stp_cls] at h4
    cases h4
    exact ⟨Nat.succ_pos _, by omega, r, h5, by simp, h3.2⟩
theorem st_len {f g : Nat → Int32} {a n d : Nat} (h : I9_st f g a n d) : d ≤ 5 := by
  obtain ⟨-, l, h1, h2, -⟩ := h
  rw [← h2]; exact mch_len h1
