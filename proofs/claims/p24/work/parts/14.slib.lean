/-! small rows of the safety contracts: booleans as ints, ints by their numbers -/
def bB (b : Bool) : Int32 := if b then 1 else 0
theorem narrow_bB (b : Bool) : narrow .boolean (.int (bB b)) = .int (bB b) := by cases b <;> rfl
theorem fits_bB (b : Bool) : fits .boolean (.int (bB b)) = true := by cases b <;> rfl
theorem bB_or (a b : Bool) : bB a ||| bB b = bB (a || b) := by cases a <;> cases b <;> decide
theorem bB_1 {b : Bool} (h : ¬ bB b = 0) : b = true := by cases b with | false => exact absurd rfl h | true => rfl
theorem bB_0 {b : Bool} (h : bB b = 0) : b = false := by cases b with | false => rfl | true => exact absurd h (by decide)
theorem tI_lt {a b : Int32} {x y : Int} (ha : a.toInt = x) (hb : b.toInt = y) (h : a < b) : x < y := by rw [← ha, ← hb]; exact Int32.lt_iff_toInt_lt.mp h
theorem tI_nlt {a b : Int32} {x y : Int} (ha : a.toInt = x) (hb : b.toInt = y) (h : ¬ a < b) : x ≥ y := by
  rw [← ha, ← hb]; exact Int.not_lt.mp (fun q => h (Int32.lt_iff_toInt_lt.mpr q))
theorem tI_le {a b : Int32} {x y : Int} (ha : a.toInt = x) (hb : b.toInt = y) (h : a ≤ b) : x ≤ y := by rw [← ha, ← hb]; exact Int32.le_iff_toInt_le.mp h
theorem tI_nle {a b : Int32} {x y : Int} (ha : a.toInt = x) (hb : b.toInt = y) (h : ¬ a ≤ b) : x > y := by
  rw [← ha, ← hb]; exact Int.not_le.mp (fun q => h (Int32.le_iff_toInt_le.mpr q))
theorem tI_eq {a b : Int32} {x y : Int} (ha : a.toInt = x) (hb : b.toInt = y) (h : a = b) : x = y := by rw [← ha, ← hb, h]
theorem tI_ne {a b : Int32} {x y : Int} (ha : a.toInt = x) (hb : b.toInt = y) (h : ¬ a = b) : x ≠ y := by
  rw [← ha, ← hb]; exact fun q => h (Int32.toInt_inj.mp q)
theorem tI_add {a b : Int32} {x y : Int} (ha : a.toInt = x) (hb : b.toInt = y) (h1 : -2147483648 ≤ x + y) (h2 : x + y < 2147483648) : (a + b).toInt = x + y := by
  rw [Int32.toInt_add, ha, hb]
  exact Int.bmod_eq_of_le (by omega) (by omega)
theorem tI_sub {a b : Int32} {x y : Int} (ha : a.toInt = x) (hb : b.toInt = y) (h1 : -2147483648 ≤ x - y) (h2 : x - y < 2147483648) : (a - b).toInt = x - y := by
  rw [Int32.toInt_sub, ha, hb]
  exact Int.bmod_eq_of_le (by omega) (by omega)
theorem tI_div {a b : Int32} {x y : Int} (ha : a.toInt = x) (hb : b.toInt = y) (hx : 0 ≤ x) (hy : 0 < y) : (a / b).toInt = x / y := by
  have hl : x < 2147483648 := by rw [← ha]; exact Int32.toInt_lt a
  have h1 : x / y ≤ x := Int.ediv_le_self y hx
  have h0 : 0 ≤ x / y := Int.ediv_nonneg hx (Int.le_of_lt hy)
  rw [Int32.toInt_div, ha, hb, Int.tdiv_eq_ediv_of_nonneg hx]
  exact Int.bmod_eq_of_le (by omega) (by omega)
theorem tI_rem {a b : Int32} {x y : Int} (ha : a.toInt = x) (hb : b.toInt = y) (hx : 0 ≤ x) (hy : 0 < y) : (a - a / b * b).toInt = x % y := by
  have hl : x < 2147483648 := by rw [← ha]; exact Int32.toInt_lt a
  have hm0 : 0 ≤ x % y := Int.emod_nonneg x (by omega)
  have he : x / y * y = x - x % y := by have h9 := Int.ediv_mul_add_emod x y; omega
  have hm1 : 0 ≤ x / y * y := Int.mul_nonneg (Int.ediv_nonneg hx (Int.le_of_lt hy)) (Int.le_of_lt hy)
  have h3 : (a / b * b).toInt = x / y * y := by
    rw [Int32.toInt_mul, tI_div ha hb hx hy, hb]
    exact Int.bmod_eq_of_le (by omega) (by omega)
  rw [tI_sub ha h3 (by omega) (by omega)]
  omega
theorem tI_rem2 {a b : Int32} {x y : Int} (ha : a.toInt = x) (hb : b.toInt = y) (hx : 0 ≤ x) (hy : 0 < y) : 0 ≤ (a - a / b * b).toInt ∧ (a - a / b * b).toInt < y := by
  rw [tI_rem ha hb hx hy]
  exact ⟨Int.emod_nonneg x (by omega), Int.emod_lt_of_pos x hy⟩
theorem nI_sub_ {a b : Nat} (h : b ≤ a) (ha : a < 2 ^ 31) : nI a - nI b = nI (a - b) := by
  apply Int32.toInt_inj.mp
  rw [tI_sub (nI_toInt ha) (nI_toInt (by omega)) (by omega) (by omega), nI_toInt (by omega)]
  omega
theorem nI_rem_ {a b : Nat} (h : 0 < b) (hb : b < 2 ^ 31) (ha : a < 2 ^ 31) : nI a - nI a / nI b * nI b = nI (a % b) := by
  have hm : a % b < b := Nat.mod_lt a h
  apply Int32.toInt_inj.mp
  rw [tI_rem (nI_toInt ha) (nI_toInt hb) (by omega) (by omega), nI_toInt (by omega)]
  omega
/-- a nest mate's static method that answers an int -/
theorem kz_SNi {p : Program} {l : Launch} {e : Env} {R : Room} {s : State} {m : MethodId} {args : Array Value} {below : List Frame} {meth : Method} {c : Code} {H H0 : Heap} {locs : List Loc} {cells slots : Nat} {Q : State → Prop} {D : va_G} {k : Nat → ClassId} {A : Nat → Prop} {ws wc wr : va_W} {y : MethodName} {bytes cc : ByteArray} {maxL nL mc ms n index pc : Nat} {ret : Option FieldType} {wsy : List Cond} {rm : Room} {Ts : List Cond} {own : String} {As rest : List Value} {ls : Array Slot} {st0 : List Value} {host : String}
    {S : Type} {post : Int32 → S → Prop} {w1 : S → va_W} (hS0 : CallFix p m c cc nL s args Ts own) (hK : va_K D vwCl (tysW k) s) (hE : kz_E s) (hP : va_P D vwCl ws H) (hD : va_D A ws) (hS : va_S A H0 H locs) (hA : ∀ q, H0.size ≤ q → A q)
    (hM : Met l y wsy rm (va_Pc As (kz_Pre D k wc H.size)) (va_Qi post (fun u t => kz_B D (va_A wc H.size) (w1 u) t) (va_A wc H.size)) mc ms (va_A wc H.size)) (cw : va_CN R s args own index y host bytes maxL ret wsy rm mc ms n ∧ (Cond.static y).before args s = true ∧ True)
    (isC isR : List Nat) (hC : isC.map (fun i => ws[i]?) = wc.map some) (hR : isR.map (fun i => ws[i]?) = wr.map some) (hnC : va_nd isC = true) (hn : va_nd isR = true) (hdis : ∀ i ∈ isR, i ∉ isC)
    (hlen : As.length = n) (hsize : ls.size = nL) (hst : st0 = As.reverse ++ rest) (hW : (rest.map fun v => v.category).sum ≤ 8) (hdg : decode cc pc = .ok (.invokestatic index, 3)) (hf : cells + mc ≤ R.cells ∧ slots + ms ≤ R.slots)
    (kk : ∀ (r : Int32) (u : S) (H1 : Heap) (locs1 : List Loc), post r u → va_P D vwCl (wr ++ w1 u) H1 → va_D A (wr ++ w1 u) → va_S A H0 H1 locs1 → W p l e R s m args below meth c H1 locs1 (cells + mc) (slots + ms) Q (F0 m (pc + 3) ls (.int r :: rest))) : W p l e R s m args below meth c H locs cells slots Q (F0 m pc ls st0) := by
  subst hst
  have hPc := kz_sub hP isC hC
  have hDc := kz_subD hD isC hC hnC
  have hFc := va_free hD hS hA isC hC
  refine va_calli (va_runSN (As := As) (rest := rest) hS0 hM cw (kz_preS hK hE hPc hDc) rfl hlen hsize rfl (lv_room hW) hdg hf) hS (fun q _ h => hFc q h) hFc (fun r u t H1 locs1 ht hvm hw hB hz1 hk1 hS1 => ?_)
  exact by
   obtain ⟨h1, h2⟩ := kz_join hP hD hS hA isC isR hC hR hn hdis ht hB hk1
   exact kk r u H1 locs1 hw h1 h2 hS1
