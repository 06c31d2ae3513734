/-! how it was, kept and given back: by both -/
def RE (g B : Nat) (p9 : Nat → Int32) (ins ni mi : Int32) (y pc st hi pl ca ck s : Nat → Int32) : Prop := RD g B p9 ins ni mi y pc st hi pl ca ck s ∧ (∀ i, i < 6 → Int32.toInt (y i) ≤ 300) ∧ (∀ q, q < g → (y q = 0 → 0 ≤ Int32.toInt (ca q) ∧ Int32.toInt (ca q) < Int32.toInt mi) ∧ (¬ y q = 0 → ca q = -1)) ∧ (0 ≤ Int32.toInt ni ∧ Int32.toInt ni ≤ (B : Int))
theorem cpo_at {f g : Nat → Int32} {o c : Nat} (h : c < 46) : va_cpy f g 0 o 46 (o + c) = f c := by
  unfold va_cpy
  rw [if_pos (by omega), Nat.zero_add, Nat.add_sub_cancel_left]
theorem cpo_n {f g : Nat → Int32} {o j : Nat} (h : j < o ∨ o + 46 ≤ j) : va_cpy f g 0 o 46 j = g j := by
  unfold va_cpy
  rw [if_neg (by omega)]
theorem cpf_at {f g : Nat → Int32} {o c : Nat} (h : c < 46) : va_cpy f g o 0 46 c = f (o + c) := by
  unfold va_cpy
  rw [if_pos (by omega), Nat.sub_zero]
theorem RE_congr {g B : Nat} {p9 p9' : Nat → Int32} {ins ni mi : Int32} {y pc st hi pl ca ck s y' pc' st' hi' pl' ca' ck' s' : Nat → Int32} (hg : g ≤ 6) (hp : ∀ i, i < g → p9 i = p9' i) (hs : ∀ j, j < 46 → s j = s' j) (e1 : ∀ i, i < 6 → y i = y' i) (e2 : ∀ i, i < 6 → pc i = pc' i) (e3 : ∀ i, i < 6 → st i = st' i) (e4 : ∀ i, i < 6 → hi i = hi' i) (e5 : ∀ i, i < 6 → pl i = pl' i) (e6 : ∀ i, i < 6 → ca i = ca' i) (e7 : ∀ i, i < 6 → ck i = ck' i) (h : RE g B p9 ins ni mi y pc st hi pl ca ck s) : RE g B p9' ins ni mi y' pc' st' hi' pl' ca' ck' s' :=
  ⟨RD_congr hg hp hs e1 e2 e3 e4 e5 e6 e7 h.1, fun i hi => by rw [← e1 i hi]; exact h.2.1 i hi, fun q hq => by rw [← e6 q (by omega), ← e1 q (by omega)]; exact h.2.2.1 q hq, h.2.2.2⟩
theorem RE_sp {g B : Nat} {p9 : Nat → Int32} {ins ni mi : Int32} {y pc st hi pl ca ck s : Nat → Int32} {p9' s' : Nat → Int32} (hg : g ≤ 6) (hp : ∀ i, i < g → p9 i = p9' i) (hs : ∀ j, j < 46 → s j = s' j) (h : RE g B p9 ins ni mi y pc st hi pl ca ck s) : RE g B p9' ins ni mi y pc st hi pl ca ck s' :=
  RE_congr hg hp hs (fun _ _ => rfl) (fun _ _ => rfl) (fun _ _ => rfl) (fun _ _ => rfl) (fun _ _ => rfl) (fun _ _ => rfl) (fun _ _ => rfl) h
theorem RE_s {g B : Nat} {p9 : Nat → Int32} {ins ni mi : Int32} {y pc st hi pl ca ck s : Nat → Int32} {s' : Nat → Int32} (hg : g ≤ 6) (hs : ∀ j, j < 46 → s j = s' j) (h : RE g B p9 ins ni mi y pc st hi pl ca ck s) : RE g B p9 ins ni mi y pc st hi pl ca ck s' := RE_sp hg (fun _ _ => rfl) hs h
theorem RE_fr {g B : Nat} {p9 : Nat → Int32} {ins ni mi : Int32} {y pc st hi pl ca ck s : Nat → Int32} {s' : Nat → Int32} (hg : g ≤ 6) (hs : I9_fr s' s) (h : RE g B p9 ins ni mi y pc st hi pl ca ck s) : RE g B p9 ins ni mi y pc st hi pl ca ck s' := RE_s hg (fun j hj => (hs j hj).symm) h
theorem RE_mono {g B : Nat} {p9 : Nat → Int32} {ins ni mi : Int32} {y pc st hi pl ca ck s : Nat → Int32} {B' : Nat} (hB : B ≤ B') (h : RE g B p9 ins ni mi y pc st hi pl ca ck s) : RE g B' p9 ins ni mi y pc st hi pl ca ck s := ⟨RD_mono hB h.1, h.2.1, h.2.2.1, h.2.2.2.1, by have := h.2.2.2.2; omega⟩
theorem RE_cpy {g B : Nat} {p9 : Nat → Int32} {ins ni mi : Int32} {y pc st hi pl ca ck s : Nat → Int32} {s' ky kp ks kh kl kc kk : Nat → Int32} (hg : g ≤ 6) (hs : ∀ j, j < 46 → s j = s' j) (h : RE g B p9 ins ni mi y pc st hi pl ca ck s) : RE g B p9 ins ni mi (va_cpy y ky 0 0 6) (va_cpy pc kp 0 0 6) (va_cpy st ks 0 0 6) (va_cpy hi kh 0 0 6) (va_cpy pl kl 0 0 6) (va_cpy ca kc 0 0 6) (va_cpy ck kk 0 0 6) s' :=
  RE_congr hg (fun _ _ => rfl) hs (fun i hi => (cpy_lt hi).symm) (fun i hi => (cpy_lt hi).symm) (fun i hi => (cpy_lt hi).symm) (fun i hi => (cpy_lt hi).symm) (fun i hi => (cpy_lt hi).symm) (fun i hi => (cpy_lt hi).symm) (fun i hi => (cpy_lt hi).symm) h
theorem kp_A {d : Nat} {s un : Nat → Int32} (h : d ≤ 15) : fX9_keeps d s un = (d + 1, va_cpy s un 0 (46 * d) 46) := by
  unfold fX9_keeps fX9_keeps_J49a
  rw [if_neg (by omega)]
theorem kp_lp {s un0 : Nat → Int32} {z : Nat → (Nat → Int32) → Nat × (Nat → Int32)} : ∀ k q un, q ≤ 690 → 691 - q < k → (∀ j, j < q → un j = un0 (j + 46)) → (∀ j, q ≤ j → un j = un0 j) → ∃ un', lp z (fX9_keeps_B11a 16 s) k q un = (16, va_cpy s un' 0 (46 * 15) 46) ∧ (∀ j, j < 690 → un' j = un0 (j + 46)) := by
  intro k
  induction k with
  | zero => intro q un _ h; exact absurd h (Nat.not_lt_zero _)
  | succ k ih =>
    intro q un hq hk h1 h2
    show ∃ un', fX9_keeps_B11a 16 s (lp z (fX9_keeps_B11a 16 s) k) q un = _ ∧ _
    have ih := ih (q + 1)
    generalize lp z (fX9_keeps_B11a 16 s) k = rc at ih ⊢
    unfold fX9_keeps_B11a fX9_keeps_J49a
    by_cases c : 690 ≤ q
    · rw [if_pos c]
      exact ⟨un, rfl, fun j hj => h1 j (by omega)⟩
    · rw [if_neg c, nI_clamp (n := q) (by omega), nI_clamp (n := q + 46) (by omega)]
      refine ih _ (by omega) (by omega) (fun j hj => ?_) (fun j hj => ?_)
      · by_cases e : j = q
        · rw [e, upd_e]; exact h2 (q + 46) (by omega)
        · rw [upd_n e]; exact h1 j (by omega)
      · rw [upd_n (by omega)]; exact h2 j (by omega)
theorem kp_B {s un : Nat → Int32} : ∃ un', fX9_keeps 16 s un = (16, un') ∧ (∀ c, c < 46 → un' (46 * 15 + c) = s c) ∧ ∀ i, i < 15 → ∀ c, c < 46 → un' (46 * i + c) = un (46 * (i + 1) + c) := by
  unfold fX9_keeps
  rw [if_pos rfl]
  obtain ⟨un', h1, h2⟩ := kp_lp (s := s) (un0 := un) (z := fun _ _ => (0, (fun _ => 0))) ((690 + 1 - 0) + 1) 0 un (by omega) (by omega) (fun j hj => absurd hj (Nat.not_lt_zero _)) (fun _ _ => rfl)
  refine ⟨_, h1, fun c hc => cpo_at hc, fun i hi c hc => ?_⟩
  rw [cpo_n (by omega), h2 _ (by omega), show 46 * i + c + 46 = 46 * (i + 1) + c by omega]
/-- what is kept at each place, one of them written anew -/
def PX (g B : Nat) (p9 : Nat → Int32) (JJ fi pa fi' pa' : Nat) (ins ni mi : Int32) (y pc st hi pl ca ck un un' : Nat → Int32) : Prop := (∀ i, i < pa' → (fi' + i) % 16 = JJ → RE g B p9 ins ni mi y pc st hi pl ca ck (fun c => un' (46 * i + c))) ∧ (∀ i, i < pa' → ¬ (fi' + i) % 16 = JJ → ∃ i0, i0 < pa ∧ (fi + i0) % 16 = (fi' + i) % 16 ∧ ∀ c, c < 46 → un' (46 * i + c) = un (46 * i0 + c))
theorem PX_o {g B B0 JJ fi pa fi' pa' j : Nat} {p9 : Nat → Int32} {ins ni mi ins0 ni0 mi0 : Int32} {y pc st hi pl ca ck un un' y0 pc0 st0 hi0 pl0 ca0 ck0 : Nat → Int32} (h : PX g B p9 JJ fi pa fi' pa' ins ni mi y pc st hi pl ca ck un un') (hg : g ≤ 6) (hB : B0 ≤ B) (hj : ¬ j = JJ) (old : ∀ i, i < pa → (fi + i) % 16 = j → RE g B0 p9 ins0 ni0 mi0 y0 pc0 st0 hi0 pl0 ca0 ck0 (fun c => un (46 * i + c))) : ∀ i, i < pa' → (fi' + i) % 16 = j → RE g B p9 ins0 ni0 mi0 y0 pc0 st0 hi0 pl0 ca0 ck0 (fun c => un' (46 * i + c)) := fun i hi hji => by
  obtain ⟨i0, a1, a2, a3⟩ := h.2 i hi (fun z => hj (hji.symm.trans z))
  exact RE_mono hB (RE_s hg (fun c hc => (a3 c hc).symm) (old i0 a1 (a2.trans hji)))
theorem PX_A {g B : Nat} {p9 : Nat → Int32} {ins ni mi : Int32} {y pc st hi pl ca ck s : Nat → Int32} {fi pa : Nat} {un ky kp ks kh kl kc kk : Nat → Int32} (hg : g ≤ 6) (h15 : pa ≤ 15) (h : RE g B p9 ins ni mi y pc st hi pl ca ck s) : PX g B p9 ((fi + pa) % 16) fi pa fi (pa + 1) ins ni mi (va_cpy y ky 0 0 6) (va_cpy pc kp 0 0 6) (va_cpy st ks 0 0 6) (va_cpy hi kh 0 0 6) (va_cpy pl kl 0 0 6) (va_cpy ca kc 0 0 6) (va_cpy ck kk 0 0 6) un (va_cpy s un 0 (46 * pa) 46) := by
  refine ⟨fun i hi e => ?_, fun i hi e => ⟨i, ?_, rfl, fun c hc => ?_⟩⟩
  · have ei : i = pa := by omega
    subst ei
    exact RE_cpy hg (fun j hj => (cpo_at hj).symm) h
  · have ei : ¬ i = pa := fun z => e (by rw [z])
    omega
  · have ei : ¬ i = pa := fun z => e (by rw [z])
    exact cpo_n (by omega)
theorem PX_A0 {g B : Nat} {p9 : Nat → Int32} {ins ni mi : Int32} {y pc st hi pl ca ck un : Nat → Int32} {fi pa : Nat} (h15 : pa ≤ 15) : PX g B p9 ((fi + pa) % 16) fi pa fi pa ins ni mi y pc st hi pl ca ck un un := by
  refine ⟨fun i hi e => ?_, fun i hi e => ⟨i, hi, rfl, fun c hc => rfl⟩⟩
  exfalso
  omega
theorem PX_B {g B : Nat} {p9 : Nat → Int32} {ins ni mi : Int32} {y pc st hi pl ca ck s : Nat → Int32} {fi : Nat} {un un' ky kp ks kh kl kc kk : Nat → Int32} (hg : g ≤ 6) (h1 : ∀ c, c < 46 → un' (46 * 15 + c) = s c) (h2 : ∀ i, i < 15 → ∀ c, c < 46 → un' (46 * i + c) = un (46 * (i + 1) + c)) (h : RE g B p9 ins ni mi y pc st hi pl ca ck s) : PX g B p9 (((fi + 1) % 16 + 15) % 16) fi 16 ((fi + 1) % 16) 16 ins ni mi (va_cpy y ky 0 0 6) (va_cpy pc kp 0 0 6) (va_cpy st ks 0 0 6) (va_cpy hi kh 0 0 6) (va_cpy pl kl 0 0 6) (va_cpy ca kc 0 0 6) (va_cpy ck kk 0 0 6) un un' := by
  refine ⟨fun i hi e => ?_, fun i hi e => ?_⟩
  · have ei : i = 15 := by omega
    subst ei
    exact RE_cpy hg (fun j hj => (h1 j hj).symm) h
  · have ei : ¬ i = 15 := fun z => e (by rw [z])
    exact ⟨i + 1, by omega, by omega, h2 i (by omega)⟩
theorem PX_B0 {g B : Nat} {p9 : Nat → Int32} {ins ni mi : Int32} {y pc st hi pl ca ck un : Nat → Int32} {fi JJ : Nat} (old : ∀ i, i < 16 → (fi + i) % 16 = JJ → RE g B p9 ins ni mi y pc st hi pl ca ck (fun c => un (46 * i + c))) : PX g B p9 JJ fi 16 fi 16 ins ni mi y pc st hi pl ca ck un un := ⟨old, fun i hi _ => ⟨i, hi, rfl, fun _ _ => rfl⟩⟩
/-- told: with all that a minute asks for -/
def TQ2 (g ns : Nat) (be ho : Int32) (ki ty tp sk snw sup k9 o9 p9 c9 sn9 : Nat → Int32) : Prop := TQ g be ki ty tp sup k9 o9 p9 ∧ (∀ i, i < g → sk i = c9 i ∧ Int32.toInt (ty i) ≤ 300 ∧ 1 ≤ Int32.toInt (tp i)) ∧ sup 2 = ho ∧ sup 3 = nI ns ∧ ns ≤ 12 ∧ (∀ i, i < ns → snw i = sn9 i) ∧ Int32.toInt be ≤ 50
theorem sno_ {g ns : Nat} {be ho mi : Int32} {ki ty tp sk snw sup k9 o9 p9 c9 sn9 : Nat → Int32} {B : Nat} (hT : TQ2 g ns be ho ki ty tp sk snw sup k9 o9 p9 c9 sn9) (h0 : 0 ≤ Int32.toInt mi) (hB : Int32.toInt mi ≤ (B : Int)) (hb : B ≤ 1000000) : fX7_snowAt mi ns snw = fX9_snowOf mi sup sn9 := by
  obtain ⟨N, hN, hNe⟩ := ofN h0 hB hb
  obtain ⟨_, _, _, h3, h12, hsn, _⟩ := hT
  subst hNe
  unfold fX7_snowAt fX7_snowAt_J25a fX7_snowAt_J26a fX9_snowOf fX9_snowOf_J26a
  rw [show Int32.toNatClampNeg 3 = 3 by decide, h3]
  by_cases c : ns = 0
  · rw [if_pos (show ns ≤ 0 by omega), if_pos (show nI ns = 0 by rw [c]; rfl)]
  · rw [if_neg (show ¬ (ns ≤ 0) by omega), if_neg (show ¬ (nI N < 0) by rw [Int32.lt_iff_toInt_lt, show Int32.toInt 0 = 0 by decide]; omega), if_neg (show ¬ (nI ns = 0) from fun z => c ((nI_eq (a := ns) (b := 0) (by omega) (by omega)).mp z)), nI_rem_ (by omega) (by omega) (by omega), nI_clamp (by have := Nat.mod_lt N (show 0 < ns by omega); omega)]
    exact hsn _ (Nat.mod_lt N (by omega))
