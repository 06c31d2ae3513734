/-! what every contract here is made of: the array classes by number, a method's start and end, one row a call -/
abbrev tysW (k : Nat → ClassId) : List (ClassId × FieldType) := [(k 0, .int), (k 1, .long), (k 2, .byte), (k 3, .boolean), (k 4, .object "LastCook$Mark"), (k 5, .object "LastCook$Road")]
abbrev kI (k : Nat → ClassId) (n : Nat) (f : Nat → Int32) : va_E := .inl (k 0, n, .inl f)
abbrev kJ (k : Nat → ClassId) (n : Nat) (f : Nat → Int64) : va_E := .inl (k 1, n, .inr (.inl f))
abbrev kB (k : Nat → ClassId) (n : Nat) (f : Nat → Int32) : va_E := .inl (k 2, n, .inl f)
abbrev kZ (k : Nat → ClassId) (n : Nat) (f : Nat → Int32) : va_E := .inl (k 3, n, .inl f)
abbrev kM (k : Nat → ClassId) (n : Nat) (f : Nat → Option Nat) : va_E := .inl (k 4, n, .inr (.inr (.inr (.inr f))))
abbrev kR (k : Nat → ClassId) (n : Nat) (f : Nat → Option Nat) : va_E := .inl (k 5, n, .inr (.inr (.inr (.inr f))))
abbrev kO (ci : Nat) (fs : List Value) : va_E := .inr (ci, fs)
def kz_E (U : State) : Prop := va_Nw (.methodLinkNest RX8 18 yX7_init RX8) U ∧ va_Nw (.methodLinkNest RX8 28 yX1_init RX8) U ∧ va_Nw (.methodLinkNest RX8 38 yX4_init RX8) U ∧ va_Nw (.methodLinkNest RX8 48 yX5_init RX8) U ∧ va_Nw (.methodLinkNest RX8 66 yX2_init RX8) U ∧ va_Nw (.methodLinkNest RX2 18 yX1_init RX8) U ∧ va_Nw (.methodLinkNest RX2 25 yX5_init RX8) U ∧ va_Nw (.methodLinkNest RX2 9 yX4_init RX8) U ∧ va_Nw (.methodLinkNest RX3 15 yX4_init RX8) U ∧ va_Nw (.methodLinkNest RX6 93 yX8_isWithin RX8) U ∧ va_Nw (.methodLinkNest RX7 33 yX0_init RX8) U ∧ va_AO "LastCook$Mark" U ∧ va_AO "LastCook$Road" U
theorem kz_E.warm {s U : State} (hW : s.WarmedH U.vm) (h : kz_E s) : kz_E U := by
  obtain ⟨h1, h2, h3, h4, h5, h6, h7, h8, h9, h10, h11, h12, h13⟩ := h
  exact ⟨h1.warmM hW, h2.warmM hW, h3.warmM hW, h4.warmM hW, h5.warmM hW, h6.warmM hW, h7.warmM hW, h8.warmM hW, h9.warmM hW, h10.warmM hW, h11.warmM hW, h12.moved hW.alike, h13.moved hW.alike⟩
theorem kz_E.same {s U : State} (hW : s.vm = U.vm) (h : kz_E s) : kz_E U := by
  obtain ⟨h1, h2, h3, h4, h5, h6, h7, h8, h9, h10, h11, h12, h13⟩ := h
  have ha : s.vm.Alike U.vm := by rw [hW]; exact Vm.Alike.refl _
  exact ⟨h1.same rfl hW, h2.same rfl hW, h3.same rfl hW, h4.same rfl hW, h5.same rfl hW, h6.same rfl hW, h7.same rfl hW, h8.same rfl hW, h9.same rfl hW, h10.same rfl hW, h11.same rfl hW, h12.moved ha, h13.moved ha⟩
def kz_Pre (D : va_G) (k : Nat → ClassId) (ws : va_W) (sz : Nat) (U : State) : Prop := U.heap.size = sz ∧ va_P D vwCl ws U.heap ∧ va_K D vwCl (tysW k) U ∧ va_D (fun _ => True) ws ∧ kz_E U
def kz_B (D : va_G) (A : Nat → Prop) (ws : va_W) (t : State) : Prop := va_P D vwCl ws t.heap ∧ va_D A ws
theorem kz_blind {D : va_G} {k : Nat → ClassId} {ws : va_W} {sz : Nat} {av : List Value} : FrameBlind (va_Pc av (kz_Pre D k ws sz)) := by
  intro a U g mk q
  obtain ⟨q0, q1, qP, qK, qD, qE⟩ := q
  exact ⟨q0, q1, qP, va_K.moved (u := U) (U := U.calling g mk a) (Vm.Alike.refl U.vm) qK, qD, qE.same rfl⟩
theorem kz_preS {s : State} {H : Heap} {D : va_G} {k : Nat → ClassId} {wc : va_W} {A : Nat → Prop} {As : List Value} (hK : va_K D vwCl (tysW k) s) (hE : kz_E s) (hPc : va_P D vwCl wc H) (hDc : va_D A wc) : PreS s H (va_Pc As (kz_Pre D k wc H.size)) As :=
  ⟨kz_blind, fun U hU hW => ⟨rfl, by rw [hU], by rw [hU]; exact hPc, va_K.moved hW.alike hK, hDc.weaken (fun _ _ _ _ => trivial), hE.warm hW⟩⟩
theorem kz_preV {s : State} {H : Heap} {D : va_G} {k : Nat → ClassId} {wc : va_W} {A : Nat → Prop} {As : List Value} {b q0 ci : Nat} {q : vw_C} {fs : List Value} (hK : va_K D vwCl (tysW k) s) (hE : kz_E s) (hPc : va_P D vwCl wc H) (hDc : va_D A wc) (hc : vwCl[ci]? = some q) (he : wc[q0]? = some (b, .inr (ci, fs))) : PreV s H q.1 b (va_Pc (.ref b :: As) (kz_Pre D k wc H.size)) As :=
  ⟨kz_blind, va_recv hK hPc hc he, fun U hU hW => ⟨rfl, by rw [hU], by rw [hU]; exact hPc, va_K.moved hW.alike hK, hDc.weaken (fun _ _ _ _ => trivial), hE.warm hW⟩⟩
/-- the array class by its number -/
theorem kz_same {D : va_G} {cl : List vw_C} {tys : List (ClassId × FieldType)} {s : State} {cA c0 : ClassId} {ty : FieldType} (h : va_K D cl (tys ++ [(cA, ty)]) s) (t0 : Nat) (ht : tys[t0]? = some (c0, ty)) : cA = c0 := by
  have hl : t0 < tys.length := (List.getElem?_eq_some_iff.mp ht).1
  have h0 := (h.2 t0 (c0, ty) (by rw [List.getElem?_append_left hl]; exact ht)).2
  have h1 := (h.2 tys.length (cA, ty) (by rw [List.getElem?_append_right (Nat.le_refl _)]; simp)).2
  cases ty with
  | object C =>
    obtain ⟨kA, comp, a1, a2, a3, a4⟩ := h0
    obtain ⟨kA', comp', b1, b2, b3, b4⟩ := h1
    exact Option.some.inj (b4.symm.trans a4)
  | _ => exact Option.some.inj (h1.symm.trans h0)
section KZ
variable {p : Program} {l : Launch} {e : Env} {R : Room} {s : State} {m : MethodId} {args : Array Value} {below : List Frame} {meth : Method} {c : Code} {H H0 : Heap} {locs : List Loc} {cells slots : Nat} {Q : State → Prop}
variable {D : va_G} {k : Nat → ClassId} {A : Nat → Prop} {ws wc wr : va_W} {y : MethodName} {bytes cc : ByteArray} {maxL nL mc ms n index pc : Nat} {ret : Option FieldType} {wsy : List Cond} {rm : Room} {Ts : List Cond} {own : String} {b : Addr} {As rest : List Value} {ls : Array Slot} {st0 : List Value}
/-- behind a call: what va_join gives -/
theorem kz_join {w1 : va_W} {H1 : Heap} {t : State} (hP : va_P D vwCl ws H) (hD : va_D A ws) (hS : va_S A H0 H locs) (hA : ∀ q, H0.size ≤ q → A q) (isC isR : List Nat) (hC : isC.map (fun i => ws[i]?) = wc.map some) (hR : isR.map (fun i => ws[i]?) = wr.map some) (hn : va_nd isR = true) (hdis : ∀ i ∈ isR, i ∉ isC) (ht : t.heap = H1) (hB : kz_B D (va_A wc H.size) w1 t) (hk1 : ∀ q : Nat, q < H.size → ¬ va_A wc H.size q → H1[q]? = H[q]?) : va_P D vwCl (wr ++ w1) H1 ∧ va_D A (wr ++ w1) := by
  have hP1 := hB.1
  rw [ht] at hP1
  exact va_join hP hD isC isR hC hR hn hdis hk1 (va_free hD hS hA isC hC) hP1 hB.2
theorem kz_sub (hP : va_P D vwCl ws H) (isC : List Nat) (hC : isC.map (fun i => ws[i]?) = wc.map some) : va_P D vwCl wc H := by
  intro j q hj
  have h1 : (isC.map (fun i => ws[i]?))[j]? = some (some q) := by rw [hC, List.getElem?_map, hj]; rfl
  rw [List.getElem?_map] at h1
  cases hi : isC[j]? with
  | none => rw [hi] at h1; cases h1
  | some i => rw [hi] at h1; exact hP i q (Option.some.inj h1)
theorem kz_subD (hD : va_D A ws) (isC : List Nat) (hC : isC.map (fun i => ws[i]?) = wc.map some) (hn : va_nd isC = true) : va_D A wc := hD.sub isC hn hC
/-- a call of an instance method that answers an int (or a boolean) -/
theorem kz_Vi {S : Type} {post : Int32 → S → Prop} {w1 : S → va_W} {ci : Nat} {q : vw_C} {fs : List Value} (hS0 : CallFix p m c cc nL s args Ts own) (hK : va_K D vwCl (tysW k) s) (hE : kz_E s) (hP : va_P D vwCl ws H) (hD : va_D A ws) (hS : va_S A H0 H locs) (hA : ∀ q, H0.size ≤ q → A q)
    (hM : Met l y wsy rm (va_Pc (.ref b :: As) (kz_Pre D k wc H.size)) (va_Qi post (fun u t => kz_B D (va_A wc H.size) (w1 u) t) (va_A wc H.size)) mc ms (va_A wc H.size)) (cw : CallW R s args own q.1 index y bytes maxL ret wsy rm mc ms n)
    (isC isR : List Nat) (hC : isC.map (fun i => ws[i]?) = wc.map some) (hR : isR.map (fun i => ws[i]?) = wr.map some) (hnC : va_nd isC = true) (hn : va_nd isR = true) (hdis : ∀ i ∈ isR, i ∉ isC) (q0 : Nat) (hc : vwCl[ci]? = some q) (he : wc[q0]? = some (b, .inr (ci, fs)))
    (hlen : As.length = n) (hsize : ls.size = nL) (hst : st0 = As.reverse ++ .ref b :: rest) (hW : (rest.map fun v => v.category).sum ≤ 8) (hdg : decode cc pc = .ok (.invokevirtual index, 3)) (hf : cells + mc ≤ R.cells ∧ slots + ms ≤ R.slots)
    (kk : ∀ (r : Int32) (u : S) (H1 : Heap) (locs1 : List Loc), post r u → va_P D vwCl (wr ++ w1 u) H1 → va_D A (wr ++ w1 u) → va_S A H0 H1 locs1 → W p l e R s m args below meth c H1 locs1 (cells + mc) (slots + ms) Q (F0 m (pc + 3) ls (.int r :: rest))) : W p l e R s m args below meth c H locs cells slots Q (F0 m pc ls st0) := by
  subst hst
  have hPc := kz_sub hP isC hC
  have hDc := kz_subD hD isC hC hnC
  have hFc := va_free hD hS hA isC hC
  refine va_calli (va_runV (As := As) (rest := rest) hS0 hM cw (kz_preV hK hE hPc hDc hc he) rfl hlen hsize rfl (lv_room hW) hdg hf) hS (fun q _ h => hFc q h) hFc (fun r u t H1 locs1 ht hvm hw hB hz1 hk1 hS1 => ?_)
  exact by
   obtain ⟨h1, h2⟩ := kz_join hP hD hS hA isC isR hC hR hn hdis ht hB hk1
   exact kk r u H1 locs1 hw h1 h2 hS1
theorem kz_Vv {S : Type} {post : S → Prop} {w1 : S → va_W} {ci : Nat} {q : vw_C} {fs : List Value} (hS0 : CallFix p m c cc nL s args Ts own) (hK : va_K D vwCl (tysW k) s) (hE : kz_E s) (hP : va_P D vwCl ws H) (hD : va_D A ws) (hS : va_S A H0 H locs) (hA : ∀ q, H0.size ≤ q → A q)
    (hM : Met l y wsy rm (va_Pc (.ref b :: As) (kz_Pre D k wc H.size)) (va_Qv post (fun u t => kz_B D (va_A wc H.size) (w1 u) t) (va_A wc H.size)) mc ms (va_A wc H.size)) (cw : CallW R s args own q.1 index y bytes maxL ret wsy rm mc ms n)
    (isC isR : List Nat) (hC : isC.map (fun i => ws[i]?) = wc.map some) (hR : isR.map (fun i => ws[i]?) = wr.map some) (hnC : va_nd isC = true) (hn : va_nd isR = true) (hdis : ∀ i ∈ isR, i ∉ isC) (q0 : Nat) (hc : vwCl[ci]? = some q) (he : wc[q0]? = some (b, .inr (ci, fs)))
    (hlen : As.length = n) (hsize : ls.size = nL) (hst : st0 = As.reverse ++ .ref b :: rest) (hW : (rest.map fun v => v.category).sum ≤ 8) (hdg : decode cc pc = .ok (.invokevirtual index, 3)) (hf : cells + mc ≤ R.cells ∧ slots + ms ≤ R.slots)
    (kk : ∀ (u : S) (H1 : Heap) (locs1 : List Loc), post u → va_P D vwCl (wr ++ w1 u) H1 → va_D A (wr ++ w1 u) → va_S A H0 H1 locs1 → W p l e R s m args below meth c H1 locs1 (cells + mc) (slots + ms) Q (F0 m (pc + 3) ls rest)) : W p l e R s m args below meth c H locs cells slots Q (F0 m pc ls st0) := by
  subst hst
  have hPc := kz_sub hP isC hC
  have hDc := kz_subD hD isC hC hnC
  have hFc := va_free hD hS hA isC hC
  refine va_callv (va_runV (As := As) (rest := rest) hS0 hM cw (kz_preV hK hE hPc hDc hc he) rfl hlen hsize rfl (lv_room hW) hdg hf) hS (fun q _ h => hFc q h) hFc (fun u t H1 locs1 ht hvm hw hB hz1 hk1 hS1 => ?_)
  exact by
   obtain ⟨h1, h2⟩ := kz_join hP hD hS hA isC isR hC hR hn hdis ht hB hk1
   exact kk u H1 locs1 hw h1 h2 hS1
/-- a call of a static method -/
theorem kz_Si {S : Type} {post : Int32 → S → Prop} {w1 : S → va_W} (hS0 : CallFix p m c cc nL s args Ts own) (hK : va_K D vwCl (tysW k) s) (hE : kz_E s) (hP : va_P D vwCl ws H) (hD : va_D A ws) (hS : va_S A H0 H locs) (hA : ∀ q, H0.size ≤ q → A q)
    (hM : Met l y wsy rm (va_Pc As (kz_Pre D k wc H.size)) (va_Qi post (fun u t => kz_B D (va_A wc H.size) (w1 u) t) (va_A wc H.size)) mc ms (va_A wc H.size)) (cw : CallB R s args own index y bytes maxL ret wsy rm mc ms n ∧ (Cond.static y).before args s = true)
    (isC isR : List Nat) (hC : isC.map (fun i => ws[i]?) = wc.map some) (hR : isR.map (fun i => ws[i]?) = wr.map some) (hnC : va_nd isC = true) (hn : va_nd isR = true) (hdis : ∀ i ∈ isR, i ∉ isC)
    (hlen : As.length = n) (hsize : ls.size = nL) (hst : st0 = As.reverse ++ rest) (hW : (rest.map fun v => v.category).sum ≤ 8) (hdg : decode cc pc = .ok (.invokestatic index, 3)) (hf : cells + mc ≤ R.cells ∧ slots + ms ≤ R.slots)
    (kk : ∀ (r : Int32) (u : S) (H1 : Heap) (locs1 : List Loc), post r u → va_P D vwCl (wr ++ w1 u) H1 → va_D A (wr ++ w1 u) → va_S A H0 H1 locs1 → W p l e R s m args below meth c H1 locs1 (cells + mc) (slots + ms) Q (F0 m (pc + 3) ls (.int r :: rest))) : W p l e R s m args below meth c H locs cells slots Q (F0 m pc ls st0) := by
  subst hst
  have hPc := kz_sub hP isC hC
  have hDc := kz_subD hD isC hC hnC
  have hFc := va_free hD hS hA isC hC
  refine va_calli (va_runS (As := As) (rest := rest) hS0 hM cw (kz_preS hK hE hPc hDc) rfl hlen hsize rfl (lv_room hW) hdg hf) hS (fun q _ h => hFc q h) hFc (fun r u t H1 locs1 ht hvm hw hB hz1 hk1 hS1 => ?_)
  exact by
   obtain ⟨h1, h2⟩ := kz_join hP hD hS hA isC isR hC hR hn hdis ht hB hk1
   exact kk r u H1 locs1 hw h1 h2 hS1
theorem kz_Sv {S : Type} {post : S → Prop} {w1 : S → va_W} (hS0 : CallFix p m c cc nL s args Ts own) (hK : va_K D vwCl (tysW k) s) (hE : kz_E s) (hP : va_P D vwCl ws H) (hD : va_D A ws) (hS : va_S A H0 H locs) (hA : ∀ q, H0.size ≤ q → A q)
    (hM : Met l y wsy rm (va_Pc As (kz_Pre D k wc H.size)) (va_Qv post (fun u t => kz_B D (va_A wc H.size) (w1 u) t) (va_A wc H.size)) mc ms (va_A wc H.size)) (cw : CallB R s args own index y bytes maxL ret wsy rm mc ms n ∧ (Cond.static y).before args s = true)
    (isC isR : List Nat) (hC : isC.map (fun i => ws[i]?) = wc.map some) (hR : isR.map (fun i => ws[i]?) = wr.map some) (hnC : va_nd isC = true) (hn : va_nd isR = true) (hdis : ∀ i ∈ isR, i ∉ isC)
    (hlen : As.length = n) (hsize : ls.size = nL) (hst : st0 = As.reverse ++ rest) (hW : (rest.map fun v => v.category).sum ≤ 8) (hdg : decode cc pc = .ok (.invokestatic index, 3)) (hf : cells + mc ≤ R.cells ∧ slots + ms ≤ R.slots)
    (kk : ∀ (u : S) (H1 : Heap) (locs1 : List Loc), post u → va_P D vwCl (wr ++ w1 u) H1 → va_D A (wr ++ w1 u) → va_S A H0 H1 locs1 → W p l e R s m args below meth c H1 locs1 (cells + mc) (slots + ms) Q (F0 m (pc + 3) ls rest)) : W p l e R s m args below meth c H locs cells slots Q (F0 m pc ls st0) := by
  subst hst
  have hPc := kz_sub hP isC hC
  have hDc := kz_subD hD isC hC hnC
  have hFc := va_free hD hS hA isC hC
  refine va_callv (va_runS (As := As) (rest := rest) hS0 hM cw (kz_preS hK hE hPc hDc) rfl hlen hsize rfl (lv_room hW) hdg hf) hS (fun q _ h => hFc q h) hFc (fun u t H1 locs1 ht hvm hw hB hz1 hk1 hS1 => ?_)
  exact by
   obtain ⟨h1, h2⟩ := kz_join hP hD hS hA isC isR hC hR hn hdis ht hB hk1
   exact kk u H1 locs1 hw h1 h2 hS1
/-- a constructor, public or a nest mate's -/
theorem kz_Iv {S : Type} {post : S → Prop} {w1 : S → va_W} (hS0 : CallFix p m c cc nL s args Ts own) (hK : va_K D vwCl (tysW k) s) (hE : kz_E s) (hP : va_P D vwCl ws H) (hD : va_D A ws) (hS : va_S A H0 H locs) (hA : ∀ q, H0.size ≤ q → A q)
    (hM : Met l y wsy rm (va_Pc (.ref b :: As) (kz_Pre D k wc H.size)) (va_Qv post (fun u t => kz_B D (va_A wc H.size) (w1 u) t) (va_A wc H.size)) mc ms (va_A wc H.size)) (cw : CallB R s args own index y bytes maxL none wsy rm mc ms n ∧ y.name = "<init>" ∧ (Cond.instanceMethod y).before args s = true)
    (isC isR : List Nat) (hC : isC.map (fun i => ws[i]?) = wc.map some) (hR : isR.map (fun i => ws[i]?) = wr.map some) (hnC : va_nd isC = true) (hn : va_nd isR = true) (hdis : ∀ i ∈ isR, i ∉ isC)
    (hlen : As.length = n) (hsize : ls.size = nL) (hst : st0 = As.reverse ++ .ref b :: rest) (hW : (rest.map fun v => v.category).sum ≤ 8) (hdg : decode cc pc = .ok (.invokespecial index, 3)) (hf : cells + mc ≤ R.cells ∧ slots + ms ≤ R.slots)
    (kk : ∀ (u : S) (H1 : Heap) (locs1 : List Loc), post u → va_P D vwCl (wr ++ w1 u) H1 → va_D A (wr ++ w1 u) → va_S A H0 H1 locs1 → W p l e R s m args below meth c H1 locs1 (cells + mc) (slots + ms) Q (F0 m (pc + 3) ls rest)) : W p l e R s m args below meth c H locs cells slots Q (F0 m pc ls st0) := by
  subst hst
  have hPc := kz_sub hP isC hC
  have hDc := kz_subD hD isC hC hnC
  have hFc := va_free hD hS hA isC hC
  refine va_callv (va_runI (As := As) (rest := rest) hS0 hM cw (kz_preS hK hE hPc hDc) rfl hlen hsize rfl (lv_room hW) hdg hf) hS (fun q _ h => hFc q h) hFc (fun u t H1 locs1 ht hvm hw hB hz1 hk1 hS1 => ?_)
  exact by
   obtain ⟨h1, h2⟩ := kz_join hP hD hS hA isC isR hC hR hn hdis ht hB hk1
   exact kk u H1 locs1 hw h1 h2 hS1
theorem kz_INv {S : Type} {post : S → Prop} {w1 : S → va_W} {host : String} (hS0 : CallFix p m c cc nL s args Ts own) (hK : va_K D vwCl (tysW k) s) (hE : kz_E s) (hP : va_P D vwCl ws H) (hD : va_D A ws) (hS : va_S A H0 H locs) (hA : ∀ q, H0.size ≤ q → A q)
    (hM : Met l y wsy rm (va_Pc (.ref b :: As) (kz_Pre D k wc H.size)) (va_Qv post (fun u t => kz_B D (va_A wc H.size) (w1 u) t) (va_A wc H.size)) mc ms (va_A wc H.size)) (cw : va_CN R s args own index y host bytes maxL none wsy rm mc ms n ∧ y.name = "<init>" ∧ (Cond.instanceMethod y).before args s = true)
    (isC isR : List Nat) (hC : isC.map (fun i => ws[i]?) = wc.map some) (hR : isR.map (fun i => ws[i]?) = wr.map some) (hnC : va_nd isC = true) (hn : va_nd isR = true) (hdis : ∀ i ∈ isR, i ∉ isC)
    (hlen : As.length = n) (hsize : ls.size = nL) (hst : st0 = As.reverse ++ .ref b :: rest) (hW : (rest.map fun v => v.category).sum ≤ 8) (hdg : decode cc pc = .ok (.invokespecial index, 3)) (hf : cells + mc ≤ R.cells ∧ slots + ms ≤ R.slots)
    (kk : ∀ (u : S) (H1 : Heap) (locs1 : List Loc), post u → va_P D vwCl (wr ++ w1 u) H1 → va_D A (wr ++ w1 u) → va_S A H0 H1 locs1 → W p l e R s m args below meth c H1 locs1 (cells + mc) (slots + ms) Q (F0 m (pc + 3) ls rest)) : W p l e R s m args below meth c H locs cells slots Q (F0 m pc ls st0) := by
  subst hst
  have hPc := kz_sub hP isC hC
  have hDc := kz_subD hD isC hC hnC
  have hFc := va_free hD hS hA isC hC
  refine va_callv (va_runIN (As := As) (rest := rest) hS0 hM cw (kz_preS hK hE hPc hDc) rfl hlen hsize rfl (lv_room hW) hdg hf) hS (fun q _ h => hFc q h) hFc (fun u t H1 locs1 ht hvm hw hB hz1 hk1 hS1 => ?_)
  exact by
   obtain ⟨h1, h2⟩ := kz_join hP hD hS hA isC isR hC hR hn hdis ht hB hk1
   exact kk u H1 locs1 hw h1 h2 hS1
end KZ
