/-! a minute, by both -/
theorem nyv_nn {nr y p s : Int32} (h : 0 ≤ Int32.toInt nr) : 0 ≤ Int32.toInt (nyv nr y p s) := by
  unfold nyv
  by_cases c : nr < (y - (if 1 < (p - s) then (p - s) else 1))
  · rw [if_pos c]; rw [Int32.lt_iff_toInt_lt] at c; omega
  · rw [if_neg c]; exact h
theorem NY_nn {be sn : Int32} {hb : Nat → Bool} {y st pc : Nat → Int32} {q : Nat} (h0 : 0 ≤ Int32.toInt be) (hy : 0 ≤ Int32.toInt (y q)) : 0 ≤ Int32.toInt (NY be sn hb y st pc q) := by
  unfold NY
  by_cases c1 : onR y q = true
  · rw [if_pos c1]
    by_cases c2 : st q ≤ 0
    · rw [if_pos c2]
      unfold tgt
      refine nyv_nn ?_
      cases hb q with
      | true =>
        rw [if_pos rfl]
        by_cases c3 : be < y q
        · rw [if_pos c3]; exact h0
        · rw [if_neg c3]; exact hy
      | false => rw [if_neg (by decide)]; decide
    · rw [if_neg c2]; exact hy
  · rw [if_neg c1]; exact hy
theorem cnt_0 {p : Nat → Bool} : ∀ n, cnt p n = 0 → ∀ i, i < n → p i = false
  | 0, _, i, hi => absurd hi (Nat.not_lt_zero _)
  | n + 1, h, i, hi => by
    cases hp : p n with
    | true => rw [cnt_s1 hp] at h; omega
    | false =>
      rw [cnt_s0 hp] at h
      by_cases e : i = n
      · rw [e]; exact hp
      · exact cnt_0 n h i (by omega)
theorem ea_ {g c : Nat} {v : Int32} {sup o9 S kp kb ah ag su sb te tb bn vo : Nat → Int32} (hg : g ≤ 6) (hs : sup 0 = nI g) (hc : c < g) : ∃ s', fX9_isEatenBy_J89a (nI c) sup o9 S v kp kb ah ag su sb te tb bn vo = (kp, kb, ah, ag, su, sb, te, tb, bn, vo, s') ∧ (∀ i, i < g → SIX o9 s' i) ∧ s' 1 = 0 ∧ s' 0 = S 0 + 1 ∧ s' 3 = S 3 + 1 ∧ (∀ i, i < 6 → s' (40 + i) = if i = c then S (40 + c) + 1 else S (40 + i)) := by
  unfold fX9_isEatenBy_J89a
  rw [show Int32.toNatClampNeg 2 = 2 by decide, show Int32.toNatClampNeg 3 = 3 by decide, show Int32.toNatClampNeg 0 = 0 by decide, show (40 : Int32) + nI c = nI (40 + c) from nI_add 40 c, nI_clamp (by omega), bn1_]
  generalize fX9_between v (-99) 99 = r
  obtain ⟨s', a1, a2, a3, a4⟩ := sets_ (off := o9) (s := upd (upd (upd (upd S 2 (S 2 + r)) 3 ((upd S 2 (S 2 + r)) 3 + 1)) (40 + c) ((upd (upd S 2 (S 2 + r)) 3 ((upd S 2 (S 2 + r)) 3 + 1)) (40 + c) + 1)) 0 ((upd (upd (upd S 2 (S 2 + r)) 3 ((upd S 2 (S 2 + r)) 3 + 1)) (40 + c) ((upd (upd S 2 (S 2 + r)) 3 ((upd S 2 (S 2 + r)) 3 + 1)) (40 + c) + 1)) 0 + 1)) hg hs
  rw [a1, bn1_]
  refine ⟨s', rfl, a2, a3, ?_, ?_, fun i hi => ?_⟩
  · rw [a4 0 (by decide) (by omega), upd_e, upd_n (by omega), upd_n (by omega), upd_n (by omega)]
  · rw [a4 3 (by decide) (by omega), upd_n (by omega), upd_n (by omega), upd_e, upd_n (by omega)]
  · rw [a4 (40 + i) (by omega) (by omega), upd_n (by omega)]
    by_cases e : i = c
    · rw [if_pos e, e, upd_e, upd_n (by omega), upd_n (by omega)]
    · rw [if_neg e, upd_n (by omega), upd_n (by omega), upd_n (by omega)]
theorem eb_ {g c : Nat} {sup o9 c9 lf lt co S kp kb ah ag su sb te tb bn vo : Nat → Int32} (hg : g ≤ 6) (hs : sup 0 = nI g) (hc : c < g) : ∃ v1 v2 v3 v4 v5 v6 v7 v8 v9 v10 s', fX9_isEatenBy (nI c) sup o9 c9 lf lt co kp kb ah ag su sb te tb bn vo S = (v1, v2, v3, v4, v5, v6, v7, v8, v9, v10, s') ∧ (∀ i, i < g → SIX o9 s' i) ∧ s' 1 = 0 ∧ s' 0 = S 0 + 1 ∧ s' 3 = S 3 + 1 ∧ (∀ i, i < 6 → s' (40 + i) = if i = c then S (40 + c) + 1 else S (40 + i)) := by
  unfold fX9_isEatenBy
  by_cases l : lt (Int32.toNatClampNeg 0) ≤ lf (Int32.toNatClampNeg 0)
  · rw [if_pos l]
    obtain ⟨s', h⟩ := ea_ (v := c9 (Int32.toNatClampNeg (nI c))) (o9 := o9) (S := S) (kp := kp) (kb := kb) (ah := ah) (ag := ag) (su := su) (sb := sb) (te := te) (tb := tb) (bn := bn) (vo := vo) hg hs hc
    exact ⟨_, _, _, _, _, _, _, _, _, _, s', h⟩
  · rw [if_neg l]
    generalize fX9_worked _ _ _ _ _ _ _ _ _ _ _ _ _ = X
    obtain ⟨x1, x2, x3, x4, x5, x6, x7, x8, x9, x10⟩ := X
    rw [bn10_]
    obtain ⟨s', h⟩ := ea_ (v := x10) (o9 := o9) (S := S) (kp := x1) (kb := x2) (ah := x3) (ag := x4) (su := x5) (sb := x6) (te := x7) (tb := x8) (bn := x9) (vo := _) hg hs hc
    exact ⟨_, _, _, _, _, _, _, _, _, _, s', h⟩
set_option maxHeartbeats 4000000 in
theorem mn_ {g B wl wt : Nat} {sn sNow be ho ins ni mi ta lc : Int32} {y pc st hi pl ca ck ki ty tp sk wc ws wf sup k9 o9 p9 c9 sn9 lf lt co kp kb ah ag su sb te tb bn vo s : Nat → Int32} (hT : TQ g be ki ty tp sup k9 o9 p9) (hB : B ≤ 1000000) (hR : RD g B p9 ins ni mi y pc st hi pl ca ck s) (hsn : (if (0 : Int32) ≤ sNow then sNow else fX9_snowOf (s 1) sup sn9) = sn) :
    ∃ ins' ni' mi' ta' lc' y' pc' st' hi' pl' ca' ck' wt' ws' wf' v1 v2 v3 v4 v5 v6 v7 v8 v9 v10 s' r, fX4_passBySnow sn ins ni mi ta lc y pc st hi pl ca ck g be ho ki ty tp sk wl wt wc ws wf = (ins', ni', mi', ta', lc', anyB (MV be sn (hld g y ki hi ins) y st pc) g, y', pc', st', hi', pl', ca', ck', wt', ws', wf', r) ∧ fX9_passes sNow sup k9 o9 p9 c9 sn9 lf lt co kp kb ah ag su sb te tb bn vo s = (nI (BS (CM be sn (hld g y ki hi ins) y st pc) g), v1, v2, v3, v4, v5, v6, v7, v8, v9, v10, s', r) ∧ RD g (B + 1) p9 ins' ni' mi' y' pc' st' hi' pl' ca' ck' s' ∧ ((r = -1 ∧ lc' = lc ∧ ni' = ni ∧ mi' = mi + 1 ∧ ta' = ta ∧ pc' = pc ∧ hi' = hi ∧ ck' = ck ∧ y' = (SEQ (NY be sn (hld g y ki hi ins) y st pc) y g) ∧ st' = (SEQ (NS y st) st g) ∧ pl' = (SEQ (PLf (g - cnt (onR y) g) pl be sn (hld g y ki hi ins) y st pc) pl g) ∧ ca' = (SEQ (CAf mi ca be sn (hld g y ki hi ins) y st pc) ca g) ∧ ins' = nI ((g - cnt (onR y) g) + cnt (CM be sn (hld g y ki hi ins) y st pc) g) ∧ (g = 0 ∨ (g - cnt (onR y) g) + cnt (CM be sn (hld g y ki hi ins) y st pc) g < g)) ∨ ∃ c, c < g ∧ r = nI c ∧ lc' = nI c ∧ ni' = ni + 1 ∧ mi' = 0 ∧ (∀ i, i < 6 → y' i = ifg g ty i) ∧ ¬ g = 0 ∧ (g - cnt (onR y) g) + cnt (CM be sn (hld g y ki hi ins) y st pc) g = g ∧ ∀ i, i < 6 → ca' i = -1) := by
  have hT' := hT
  obtain ⟨hg, hs, hbe, hb0, hq⟩ := hT
  obtain ⟨r1, r2, r3, r4, r5, r6, r7, r8, r9, r10, r11, r12⟩ := hR
  have hcl := cnt_le (p := onR y) g
  have hw := wk_ (sn := sn) (be := be) (mi := mi) (pc := pc) (st := st) (pl := pl) (ca := ca) (hb := hld g y ki hi ins) (m0 := g - cnt (onR y) g) hg r1 r4 rfl
  have hp := ps_ (m0 := g - cnt (onR y) g) (be := be) (sn := sn) (sNow := sNow) (ins := ins) (y := y) (st := st) (pc := pc) (ki := ki) (hi := hi) (hb := hld g y ki hi ins) (o9 := o9) (c9 := c9) (lf := lf) (lt := lt) (co := co) (kp := kp) (kb := kb) (ah := ah) (ag := ag) (su := su) (sb := sb) (te := te) (tb := tb) (bn := bn) (vo := vo) (fun _ _ _ _ => ((0 : Int32), (fun _ => 0), (fun _ => 0), (fun _ => 0), (fun _ => 0), (fun _ => 0), (fun _ => 0), (fun _ => 0), (fun _ => 0), (fun _ => 0), (fun _ => 0), (fun _ => 0), (0 : Int32))) hg hs hbe r1 (fun i hi => (r2 i hi).1) (fun i hi => (r2 i hi).2.2.2.1) (fun i hi => (r2 i hi).2.2.2.2.1) (fun i hi => (hq i hi).1) r4 r3 hsn (fun i _ h => by unfold hld; rw [h, Bool.and_true]) rfl
  have hon := onR_w (g := g) (be := be) (sn := sn) (hb := hld g y ki hi ins) (y := y) (st := st) (pc := pc)
  have hc1 := cnt_le (p := (CM be sn (hld g y ki hi ins) y st pc)) g
  have hc2 := cnt_le (p := onR (SEQ (NY be sn (hld g y ki hi ins) y st pc) y g)) g
  have hm' : (g - cnt (onR y) g) + cnt (CM be sn (hld g y ki hi ins) y st pc) g = g - cnt (onR (SEQ (NY be sn (hld g y ki hi ins) y st pc) y g)) g := by omega
  have hPI := PI_w (be := be) (sn := sn) (hb := hld g y ki hi ins) (st := st) (pc := pc) hg (show g - cnt (onR y) g ≤ 6 by omega) r5
  -- the row behind the walk
  have a4 : ∀ i, i < g → (SS 10 16 (PLf (g - cnt (onR y) g) (fun i => s (10 + i)) be sn (hld g y ki hi ins) y st pc) (CAf (s 1) (fun i => s (16 + i)) be sn (hld g y ki hi ins) y st pc) (SS 4 22 (NY be sn (hld g y ki hi ins) y st pc) (NS y st) s g) g) (4 + i) = (NY be sn (hld g y ki hi ins) y st pc) i := fun i hi => by rw [SS_n (by omega) (by omega), SS_a hi]
  have a10 : ∀ i, i < g → (SS 10 16 (PLf (g - cnt (onR y) g) (fun i => s (10 + i)) be sn (hld g y ki hi ins) y st pc) (CAf (s 1) (fun i => s (16 + i)) be sn (hld g y ki hi ins) y st pc) (SS 4 22 (NY be sn (hld g y ki hi ins) y st pc) (NS y st) s g) g) (10 + i) = (SEQ (PLf (g - cnt (onR y) g) pl be sn (hld g y ki hi ins) y st pc) pl g) i := fun i hi => by
    rw [SS_a hi, SEQ_lt hi]
    unfold PLf
    rw [(r2 i hi).2.1]
  have a16 : ∀ i, i < g → (SS 10 16 (PLf (g - cnt (onR y) g) (fun i => s (10 + i)) be sn (hld g y ki hi ins) y st pc) (CAf (s 1) (fun i => s (16 + i)) be sn (hld g y ki hi ins) y st pc) (SS 4 22 (NY be sn (hld g y ki hi ins) y st pc) (NS y st) s g) g) (16 + i) = (SEQ (CAf mi ca be sn (hld g y ki hi ins) y st pc) ca g) i := fun i hi => by
    rw [SS_b hg (by decide) hi, SEQ_lt hi]
    unfold CAf
    rw [(r2 i hi).2.2.1, r9]
  have a22 : ∀ i, i < g → (SS 10 16 (PLf (g - cnt (onR y) g) (fun i => s (10 + i)) be sn (hld g y ki hi ins) y st pc) (CAf (s 1) (fun i => s (16 + i)) be sn (hld g y ki hi ins) y st pc) (SS 4 22 (NY be sn (hld g y ki hi ins) y st pc) (NS y st) s g) g) (22 + i) = NS y st i := fun i hi => by rw [SS_n (by omega) (by omega), SS_b hg (by decide) hi]
  have an : ∀ j, j < 4 ∨ 28 ≤ j → (SS 10 16 (PLf (g - cnt (onR y) g) (fun i => s (10 + i)) be sn (hld g y ki hi ins) y st pc) (CAf (s 1) (fun i => s (16 + i)) be sn (hld g y ki hi ins) y st pc) (SS 4 22 (NY be sn (hld g y ki hi ins) y st pc) (NS y st) s g) g) j = s j := fun j hj => by rw [SS_n (by omega) (by omega), SS_n (by omega) (by omega)]
  have y1n : ∀ i, i < 6 → 0 ≤ Int32.toInt ((SEQ (NY be sn (hld g y ki hi ins) y st pc) y g) i) := fun i hi => by
    by_cases c : i < g
    · rw [SEQ_lt c]; exact NY_nn hb0 (r1 i hi)
    · rw [SEQ_ge (by omega)]; exact r1 i hi
  -- nobody cooks yet
  have hno : RD g (B + 1) p9 (nI ((g - cnt (onR y) g) + cnt (CM be sn (hld g y ki hi ins) y st pc) g)) ni (mi + 1) (SEQ (NY be sn (hld g y ki hi ins) y st pc) y g) pc (SEQ (NS y st) st g) hi (SEQ (PLf (g - cnt (onR y) g) pl be sn (hld g y ki hi ins) y st pc) pl g) (SEQ (CAf mi ca be sn (hld g y ki hi ins) y st pc) ca g) ck (upd (SS 10 16 (PLf (g - cnt (onR y) g) (fun i => s (10 + i)) be sn (hld g y ki hi ins) y st pc) (CAf (s 1) (fun i => s (16 + i)) be sn (hld g y ki hi ins) y st pc) (SS 4 22 (NY be sn (hld g y ki hi ins) y st pc) (NS y st) s g) g) 1 ((SS 10 16 (PLf (g - cnt (onR y) g) (fun i => s (10 + i)) be sn (hld g y ki hi ins) y st pc) (CAf (s 1) (fun i => s (16 + i)) be sn (hld g y ki hi ins) y st pc) (SS 4 22 (NY be sn (hld g y ki hi ins) y st pc) (NS y st) s g) g) 1 + 1)) := by
    refine ⟨y1n, fun i hi => ⟨?_, ?_, ?_, ?_, ?_, ?_⟩, fun q hq' => ?_, by rw [hm'], by rw [← hm']; exact hPI, fun q a b => ⟨?_, fun h0 => ⟨((r6 q a b).2.1 h0).1, ?_⟩, (r6 q a b).2.2⟩, ?_, ?_, ?_, fun i hi => ?_, fun i hi => ⟨(r11 i hi).1, by have := (r11 i hi).2; omega⟩, ?_⟩
    · rw [upd_n (by omega), a4 i hi, SEQ_lt hi]
    · rw [upd_n (by omega), a10 i hi]
    · rw [upd_n (by omega), a16 i hi]
    · rw [upd_n (by omega), a22 i hi, SEQ_lt hi]
    · rw [upd_n (by omega), an (28 + i) (by omega)]; exact (r2 i hi).2.2.2.2.1
    · rw [upd_n (by omega), an (40 + i) (by omega)]; exact (r2 i hi).2.2.2.2.2
    · rw [upd_n (by omega), an (34 + q) (by omega)]; exact r3 q hq'
    · rw [SEQ_ge a]; exact (r6 q a b).1
    · rw [SEQ_ge a]; exact ((r6 q a b).2.1 h0).2
    · rw [upd_n (by omega), an 0 (by omega)]; exact r7
    · rw [upd_n (by omega), an 3 (by omega)]; exact r8
    · rw [upd_e, an 1 (by omega), r9]
    · rw [upd_n (by omega), an (28 + i) (by omega)]; exact r10 i hi
    · rw [tI_add rfl (show Int32.toInt 1 = 1 by decide) (by omega) (by omega)]; omega
  unfold fX4_passBySnow fX4_passBySnow_J24a
  rw [hw, bn6_, hp]
  unfold fX9_passes_B57a fX9_passes_J146a
  rw [show Int32.toNatClampNeg 0 = 0 by decide, show Int32.toNatClampNeg 1 = 1 by decide, hs, if_pos ((nI_leI (a := g) (b := g) (by omega) (by omega)).mpr (Nat.le_refl g))]
  by_cases g0 : g = 0
  · rw [if_pos g0, if_neg (show ¬ (nI ((g - cnt (onR y) g) + cnt (CM be sn (hld g y ki hi ins) y st pc) g) < nI g) from fun z => by have := (nI_ltI (a := (g - cnt (onR y) g) + cnt (CM be sn (hld g y ki hi ins) y st pc) g) (b := g) (by omega) (by omega)).mp z; omega), if_pos (show nI ((g - cnt (onR y) g) + cnt (CM be sn (hld g y ki hi ins) y st pc) g) = 0 from by rw [show (g - cnt (onR y) g) + cnt (CM be sn (hld g y ki hi ins) y st pc) g = 0 by omega]; decide)]
    exact ⟨_, _, _, _, _, _, _, _, _, _, _, _, _, _, _, _, _, _, _, _, _, _, _, _, _, _, _, rfl, rfl, hno, Or.inl ⟨rfl, rfl, rfl, rfl, rfl, rfl, rfl, rfl, rfl, rfl, rfl, rfl, rfl, Or.inl g0⟩⟩
  rw [if_neg g0]
  by_cases gl : (g - cnt (onR y) g) + cnt (CM be sn (hld g y ki hi ins) y st pc) g < g
  · rw [if_neg (show ¬ (nI g ≤ nI ((g - cnt (onR y) g) + cnt (CM be sn (hld g y ki hi ins) y st pc) g)) from fun z => by have := (nI_leI (a := g) (b := (g - cnt (onR y) g) + cnt (CM be sn (hld g y ki hi ins) y st pc) g) (by omega) (by omega)).mp z; omega), if_pos ((nI_ltI (a := (g - cnt (onR y) g) + cnt (CM be sn (hld g y ki hi ins) y st pc) g) (b := g) (by omega) (by omega)).mpr gl)]
    exact ⟨_, _, _, _, _, _, _, _, _, _, _, _, _, _, _, _, _, _, _, _, _, _, _, _, _, _, _, rfl, rfl, hno, Or.inl ⟨rfl, rfl, rfl, rfl, rfl, rfl, rfl, rfl, rfl, rfl, rfl, rfl, rfl, Or.inr gl⟩⟩
  have ge : (g - cnt (onR y) g) + cnt (CM be sn (hld g y ki hi ins) y st pc) g = g := by omega
  rw [if_pos (show nI g ≤ nI ((g - cnt (onR y) g) + cnt (CM be sn (hld g y ki hi ins) y st pc) g) from (nI_leI (by omega) (by omega)).mpr (by omega)), if_neg (show ¬ (nI ((g - cnt (onR y) g) + cnt (CM be sn (hld g y ki hi ins) y st pc) g) < nI g) from fun z => gl ((nI_ltI (by omega) (by omega)).mp z)), if_neg (show ¬ (nI ((g - cnt (onR y) g) + cnt (CM be sn (hld g y ki hi ins) y st pc) g) = 0) from fun z => by have := (nI_eq (a := (g - cnt (onR y) g) + cnt (CM be sn (hld g y ki hi ins) y st pc) g) (b := 0) (by omega) (by omega)).mp z; omega)]
  have hall : ∀ q, q < g → (SEQ (NY be sn (hld g y ki hi ins) y st pc) y g) q = 0 := fun q hq' => onR_f.mp (cnt_0 (p := onR (SEQ (NY be sn (hld g y ki hi ins) y st pc) y g)) g (by omega) q hq')
  rw [ge] at hPI
  obtain ⟨pn, w, hPB⟩ := PB_of hg hPI hall
  obtain ⟨c, c1, c2, c3⟩ := cn_ (ki := ki) (k9 := k9) (s := (SS 10 16 (PLf (g - cnt (onR y) g) (fun i => s (10 + i)) be sn (hld g y ki hi ins) y st pc) (CAf (s 1) (fun i => s (16 + i)) be sn (hld g y ki hi ins) y st pc) (SS 4 22 (NY be sn (hld g y ki hi ins) y st pc) (NS y st) s g) g)) hg (by omega) hs hPB (fun i hi => (hq i hi).1) (fun i hi => (a10 i hi).symm)
  rw [bn1_, bn1_, c2, c3]
  unfold fX4_eat
  rw [if_neg (nI_n0 (by omega)), if_pos (show nI c < 6 from (nI_ltI (a := c) (b := 6) (by omega) (by omega)).mpr (by omega)), nI_clamp (by omega)]
  obtain ⟨t1, t2, t3, t4, et⟩ : ∃ a b c' d, fX0_taste (sk c) (if 0 < mi + 1 - ho then mi + 1 - ho else 0) (nI g) ni wl wc ws wf = (a, b, c', d) := ⟨_, _, _, _, rfl⟩
  rw [et, bn4_, bg_, bn8_, bn15_]
  obtain ⟨v1, v2, v3, v4, v5, v6, v7, v8, v9, v10, s', e1, e2, e3, e4, e5, e6⟩ := eb_ (o9 := o9) (c9 := c9) (lf := lf) (lt := lt) (co := co) (S := (SS 10 16 (PLf (g - cnt (onR y) g) (fun i => s (10 + i)) be sn (hld g y ki hi ins) y st pc) (CAf (s 1) (fun i => s (16 + i)) be sn (hld g y ki hi ins) y st pc) (SS 4 22 (NY be sn (hld g y ki hi ins) y st pc) (NS y st) s g) g)) (kp := kp) (kb := kb) (ah := ah) (ag := ag) (su := su) (sb := sb) (te := te) (tb := tb) (bn := bn) (vo := vo) hg hs c1
  rw [e1, bn11_]
  refine ⟨_, _, _, _, _, _, _, _, _, _, _, _, _, _, _, _, _, _, _, _, _, _, _, _, _, _, _, rfl, rfl, ?_, Or.inr ⟨c, c1, rfl, rfl, rfl, rfl, fun i hi => SEQ_lt hi, g0, ge, fun i hi => SEQ_lt hi⟩⟩
  refine RD_new hT' e2 e3 (by rw [e4, an 0 (by omega), r7]) (by rw [e5, an 3 (by omega), r8]) (fun i hi => ?_) (fun q a b => ?_) (fun i hi => ?_)
  · rw [e6 i (by omega)]
    by_cases e : i = c
    · rw [if_pos e, e, upd_e, an (40 + c) (by omega), (r2 c c1).2.2.2.2.2]
    · rw [if_neg e, upd_n e, an (40 + i) (by omega)]; exact (r2 i hi).2.2.2.2.2
  · rw [upd_n (by omega)]; exact (r6 q a b).2.2
  · by_cases e : i = c
    · rw [e, upd_e]
      have h9 := r11 c c1
      rw [tI_add rfl (show Int32.toInt 1 = 1 by decide) (by omega) (by omega)]; omega
    · rw [upd_n e]
      have h9 := r11 i hi
      omega
