/-! the words as the tape's constructor gathers them; the signs' text; what is on a tape -/
def cAt (v : Int32) : Int32 := ((v &&& 255).toUInt32 % 65536).toInt32
def txW : List Int32 := [103, 117, 101, 115, 116, 32, 111, 102, 102, 32, 112, 97, 99, 101, 32, 99, 111, 111, 107, 115, 32, 98, 101, 110, 100, 32, 104, 111, 117, 114, 32, 115, 110, 111, 119, 32, 116, 97, 115, 116, 101, 115, 32, 119, 104, 101, 101, 108, 32, 114, 117, 110, 32, 104, 105, 114, 101, 32, 109, 105, 110, 117, 116, 101, 32, 112, 108, 97, 105, 110, 32, 100, 111, 99, 116, 111, 114, 32, 115, 104, 121, 32, 103, 114, 101, 97, 116, 32, 110, 111, 116, 32, 97, 110, 100, 32, 111, 114, 32, 115, 107, 105, 108, 108, 32, 108, 97, 116, 101, 32, 103, 117, 101, 115, 116, 115, 32, 110, 105, 103, 104, 116, 32]
def txF : Nat → Int32 := fun j => txW.getD j 0
def tpW : List Nat := [0, 0, 0, 0, 0, 0, 1, 1, 1, 1, 2, 2, 2, 2, 2, 3, 3, 3, 3, 3, 3, 4, 4, 4, 4, 4, 5, 5, 5, 5, 5, 6, 6, 6, 6, 6, 7, 7, 7, 7, 7, 7, 7, 8, 8, 8, 8, 8, 8, 9, 9, 9, 9, 10, 10, 10, 10, 10, 11, 11, 11, 11, 11, 11, 11, 12, 12, 12, 12, 12, 12, 13, 13, 13, 13, 13, 13, 13, 14, 14, 14, 14, 15, 15, 15, 15, 15, 15, 16, 16, 16, 16, 17, 17, 17, 17, 18, 18, 18, 19, 19, 19, 19, 19, 19, 20, 20, 20, 20, 20, 21, 21, 21, 21, 21, 21, 21, 22, 22, 22, 22, 22, 22, 23]
def tpG : List Int64 := [0, 7, 245, 7845, 251059, 8033908, 0, 15, 486, 15558, 0, 16, 513, 16419, 525413, 0, 3, 111, 3567, 114155, 3652979, 0, 2, 69, 2222, 71108, 0, 8, 271, 8693, 278194, 0, 19, 622, 19919, 637431, 0, 20, 641, 20531, 657012, 21024389, 672780467, 0, 23, 744, 23813, 762021, 24384684, 0, 18, 597, 19118, 0, 8, 265, 8498, 271941, 0, 13, 425, 13614, 435669, 13941428, 446125701, 0, 16, 524, 16769, 536617, 17171758, 0, 4, 143, 4579, 146548, 4689551, 150065650, 0, 19, 616, 19737, 0, 7, 242, 7749, 247969, 7935028, 0, 14, 463, 14836, 0, 1, 46, 1476, 0, 15, 498, 0, 19, 619, 19817, 634156, 20293004, 0, 12, 385, 12340, 394885, 0, 7, 245, 7845, 251059, 8033908, 257085075, 0, 14, 457, 14631, 468200, 14982420, 0]
def TI (j w : Nat) (g : Int64) (c : Nat → Int64) : Prop := w = tpW.getD j 0 ∧ g = tpG.getD j 0 ∧ ∀ i, i < w → Int64.toInt (c i) = Er 32 (wd i)
set_option maxRecDepth 100000 in
theorem ti_d : ∀ j, j < 123 → (if fX6_isLetter (cAt (txW.getD j 0)) = true then tpW.getD (j + 1) 0 = tpW.getD j 0 ∧ tpG.getD (j + 1) 0 = fX6_withLetter (tpG.getD j 0) (cAt (txW.getD j 0)) else tpW.getD j 0 < 23 ∧ tpW.getD (j + 1) 0 = tpW.getD j 0 + 1 ∧ tpG.getD (j + 1) 0 = 0 ∧ Int64.toInt (tpG.getD j 0) = Er 32 (wd (tpW.getD j 0))) := by decide +kernel
theorem ti_0 {c : Nat → Int64} : TI 0 0 0 c := ⟨rfl, rfl, fun i h => absurd h (Nat.not_lt_zero _)⟩
theorem ti_r {f : Nat → Int32} {j : Nat} {r : Int32} (hj : ¬ 123 ≤ j) (hf : f = txF) (hr : r = cAt (f (Int32.toNatClampNeg (nI j)))) : r = cAt (txW.getD j 0) := by
  rw [hr, hf, nI_clamp (by omega)]; rfl
theorem ti_l {f : Nat → Int32} {j w : Nat} {g r9 : Int64} {c : Nat → Int64} {r : Int32} {u : Bool} (h : TI j w g c) (hj : ¬ 123 ≤ j) (hf : f = txF) (hr : r = cAt (f (Int32.toNatClampNeg (nI j)))) (hu : u = fX6_isLetter r) (hb : ¬ bB u = 0) (h9 : r9 = fX6_withLetter g r) : TI (j + 1) w r9 c := by
  have hr := ti_r hj hf hr
  have hd := ti_d j (by omega)
  have hu1 : u = true := bB_1 hb
  rw [← hr, ← hu, if_pos hu1] at hd
  exact ⟨h.1.trans hd.1.symm, by rw [h9, h.2.1]; exact hd.2.symm, h.2.2⟩
theorem ti_s {f : Nat → Int32} {j w : Nat} {g : Int64} {c : Nat → Int64} {r : Int32} {u : Bool} (h : TI j w g c) (hj : ¬ 123 ≤ j) (hf : f = txF) (hr : r = cAt (f (Int32.toNatClampNeg (nI j)))) (hu : u = fX6_isLetter r) (hb : bB u = 0) (hw : ¬ 23 ≤ w) : TI (j + 1) (w + 1) 0 (vp_updL c (Int32.toNatClampNeg (nI w)) g) := by
  have hr := ti_r hj hf hr
  have hd := ti_d j (by omega)
  have hu1 : u = false := bB_0 hb
  rw [← hr, ← hu, if_neg (bF hu1)] at hd
  refine ⟨by rw [hd.2.1, h.1], hd.2.2.1.symm, fun i hi => ?_⟩
  rw [nI_clamp (by omega)]
  by_cases e : i = w
  · rw [e, updL_e, h.2.1, h.1]; exact hd.2.2.2
  · rw [updL_n e]; exact h.2.2 i (by omega)
theorem ti_n {f : Nat → Int32} {j w : Nat} {g : Int64} {c : Nat → Int64} {r : Int32} {u : Bool} (h : TI j w g c) (hj : ¬ 123 ≤ j) (hf : f = txF) (hr : r = cAt (f (Int32.toNatClampNeg (nI j)))) (hu : u = fX6_isLetter r) (hb : bB u = 0) (hw : 23 ≤ w) : TI (j + 1) w g c := by
  have hr := ti_r hj hf hr
  have hd := ti_d j (by omega)
  have hu1 : u = false := bB_0 hb
  rw [← hr, ← hu, if_neg (bF hu1)] at hd
  have h1 := hd.1
  rw [← h.1] at h1
  omega
theorem ti_e {j w : Nat} {g : Int64} {c : Nat → Int64} (h : TI j w g c) (h1 : 123 ≤ j) (h2 : j ≤ 123) : WT c := by
  obtain rfl : j = 123 := by omega
  intro i hi
  refine h.2.2 i ?_
  rw [h.1]; exact hi
def SR (s : Nat → Int32) : Prop := ∀ q, 0 ≤ Int32.toInt (s q) ∧ Int32.toInt (s q) ≤ 126
def FT (f : Nat → Int32) : Prop := ∀ v : Int32, 0 ≤ Int32.toInt v → Int32.toInt v ≤ 126 → ((¬ ixS f ((v.toUInt32 % 65536).toInt32) < 0) ↔ isG v = true)
theorem SG_of {f s : Nat → Int32} (hF : FT f) (hs : SR s) : SG f s := fun q => hF (s q) (hs q).1 (hs q).2
set_option maxRecDepth 100000 in
theorem FT_S : FT (fun j => ([40, 41, 60, 61, 43, 45, 42, 59] : List Int32).getD j 0) := by
  intro v h1 h2
  obtain ⟨k, hk, rfl⟩ : ∃ k : Nat, k ≤ 126 ∧ v = nI k := ⟨(Int32.toInt v).toNat, by omega, Int32.toInt_inj.mp (by rw [nI_toInt (by omega)]; omega)⟩
  have : ∀ k, k ≤ 126 → ((¬ ixS (fun j => ([40, 41, 60, 61, 43, 45, 42, 59] : List Int32).getD j 0) (((nI k).toUInt32 % 65536).toInt32) < 0) ↔ isG (nI k) = true) := by decide +kernel
  exact this k hk
theorem SR_0 : SR (fun _ => 0) := fun _ => ⟨by show (0 : Int) ≤ Int32.toInt 0; decide, by show Int32.toInt 0 ≤ 126; decide⟩
theorem SR_one {w : Int64} {sh : Int32} {p : Nat × (Nat → Int32)} (h : SR p.2) : SR (one w sh p).2 := by
  have e10 : Int32.toInt 10 = 10 := by decide
  have e32 : Int32.toInt 32 = 32 := by decide
  have e126 : Int32.toInt 126 = 126 := by decide
  have up : ∀ v : Int32, 0 ≤ Int32.toInt v ∧ Int32.toInt v ≤ 126 → SR (upd p.2 p.1 v) := by
    intro v hv q
    by_cases e : q = p.1
    · rw [e, upd_e]; exact hv
    · rw [upd_n e]; exact h q
  unfold one
  by_cases c1 : 1000 ≤ p.1
  · rw [if_pos c1]; exact h
  rw [if_neg c1]
  by_cases c2 : bt w sh = 10
  · rw [if_pos c2]; exact up _ (by rw [c2]; omega)
  rw [if_neg c2]
  by_cases c3 : bt w sh < 32
  · rw [if_pos c3]; exact h
  rw [if_neg c3]
  by_cases c4 : (126 : Int32) < bt w sh
  · rw [if_pos c4]; exact h
  rw [if_neg c4]
  rw [Int32.lt_iff_toInt_lt] at c3 c4
  exact up _ (by omega)
theorem SR_put {w : Int64} {p : Nat × (Nat → Int32)} (h : SR p.2) : SR (put8 w p).2 := SR_one (SR_one (SR_one (SR_one (SR_one (SR_one (SR_one (SR_one h)))))))
theorem feed_stp {a b c : Int64} {n n' : Nat} {s s' : Nat → Int32} {u1 v1 : Nat} {u2 v2 : Nat → Int32} {r1 r2 v0 : Int32} (hn : n ≤ 1000) (e1 : n = n') (e2 : s = s') (hs : SR s) (h1 : (u1, u2, r1) = fX8_feed a b c n s) (h2 : (v0, v1, v2, r2) = fX9_feed a b c n' s') : r1 = r2 ∧ u1 = v1 ∧ u2 = v2 ∧ SR u2 := by
  subst e1
  subst e2
  obtain ⟨k1, k2, k3⟩ := feed_eq hn h1 h2
  refine ⟨k1, k2, k3, ?_⟩
  have h1 := h1.trans (feed_8 (a := a) (b := b) (c := c) (p := (n, s)) hn)
  injection h1 with a1 a2
  injection a2 with a2 a3
  rw [a2]
  exact SR_put (SR_put (SR_put hs))
