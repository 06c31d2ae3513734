section KZ
variable {p : Program} {l : Launch} {e : Env} {R : Room} {s : State} {m : MethodId} {args : Array Value} {below : List Frame} {meth : Method} {c : Code} {H H0 : Heap} {locs : List Loc} {cells slots : Nat} {Q : State → Prop}
variable {D : va_G} {k : Nat → ClassId} {A : Nat → Prop} {X pl wc wr : va_W} {y : MethodName} {bytes cc : ByteArray} {maxL nL mc ms n index pc : Nat} {ret : Option FieldType} {wsy : List Cond} {rm : Room} {Ts : List Cond} {own : String} {b : Addr} {As rest : List Value} {ls : Array Slot} {st0 : List Value}
theorem kq_sub (hP : va_P D vwCl (X ++ pl) H) (isC : List Nat) (hC : isC.map (fun i => X[i]?) = wc.map some) : va_P D vwCl wc H :=
  fun j q hj => (hP.part isC hC) j q (by rw [List.getElem?_append_left (List.getElem?_eq_some_iff.mp hj).1]; exact hj)
theorem kq_subD (hD : va_D A (X ++ pl)) (isC : List Nat) (hC : isC.map (fun i => X[i]?) = wc.map some) (hn : va_nd isC = true) : va_D A wc := by
  refine (hD.part isC hn hC).by id (fun k q hq => ?_) (fun i j _ _ e => e)
  show (wc ++ pl)[k]? = some q
  rw [List.getElem?_append_left (List.getElem?_eq_some_iff.mp hq).1]
  exact hq
theorem kq_free (hD : va_D A (X ++ pl)) (hS : va_S A H0 H locs) (hA : ∀ q, H0.size ≤ q → A q) (isC : List Nat) (hC : isC.map (fun i => X[i]?) = wc.map some) : ∀ q, va_A wc H.size q → A q := by
  intro q h
  rcases h with ⟨k, e, h⟩ | h
  · obtain ⟨i, -, h2⟩ := va_in_of isC hC h
    exact hD.2 i (q, e) (by rw [List.getElem?_append_left (List.getElem?_eq_some_iff.mp h2).1]; exact h2)
  · exact hA q (Nat.le_trans hS.1 h)
theorem kq_join {w1 : va_W} {H1 : Heap} {t : State} (hP : va_P D vwCl (X ++ pl) H) (hD : va_D A (X ++ pl)) (hS : va_S A H0 H locs) (hA : ∀ q, H0.size ≤ q → A q) (isC isR : List Nat) (hC : isC.map (fun i => X[i]?) = wc.map some) (hR : isR.map (fun i => X[i]?) = wr.map some) (hn : va_nd isR = true) (hdis : ∀ i ∈ isR, i ∉ isC) (ht : t.heap = H1) (hB : kz_B D (va_A wc H.size) w1 t) (hk1 : ∀ q : Nat, q < H.size → ¬ va_A wc H.size q → H1[q]? = H[q]?) : va_P D vwCl ((wr ++ w1) ++ pl) H1 ∧ va_D A ((wr ++ w1) ++ pl) := by
  have hP1 := hB.1
  rw [ht] at hP1
  exact va_joinQ hP hD isC isR hC hR hn hdis hk1 (kq_free hD hS hA isC hC) hP1 hB.2
theorem kz_ViQ {S : Type} {post : Int32 → S → Prop} {w1 : S → va_W} {ci : Nat} {q : vw_C} {fs : List Value} (hS0 : CallFix p m c cc nL s args Ts own) (hK : va_K D vwCl (tysW k) s) (hE : kz_E s) (hP : va_P D vwCl (X ++ pl) H) (hD : va_D A (X ++ pl)) (hS : va_S A H0 H locs) (hA : ∀ q, H0.size ≤ q → A q)
    (hM : Met l y wsy rm (va_Pc (.ref b :: As) (kz_Pre D k wc H.size)) (va_Qi post (fun u t => kz_B D (va_A wc H.size) (w1 u) t) (va_A wc H.size)) mc ms (va_A wc H.size)) (cw : CallW R s args own q.1 index y bytes maxL ret wsy rm mc ms n)
    (isC isR : List Nat) (hC : isC.map (fun i => X[i]?) = wc.map some) (hR : isR.map (fun i => X[i]?) = wr.map some) (hnC : va_nd isC = true) (hn : va_nd isR = true) (hdis : ∀ i ∈ isR, i ∉ isC) (q0 : Nat) (hc : vwCl[ci]? = some q) (he : wc[q0]? = some (b, .inr (ci, fs)))
    (hlen : As.length = n) (hsize : ls.size = nL) (hst : st0 = As.reverse ++ .ref b :: rest) (hW : (rest.map fun v => v.category).sum ≤ 8) (hdg : decode cc pc = .ok (.invokevirtual index, 3)) (hf : cells + mc ≤ R.cells ∧ slots + ms ≤ R.slots)
    (kk : ∀ (r : Int32) (u : S) (H1 : Heap) (locs1 : List Loc), post r u → va_P D vwCl ((wr ++ w1 u) ++ pl) H1 → va_D A ((wr ++ w1 u) ++ pl) → va_S A H0 H1 locs1 → W p l e R s m args below meth c H1 locs1 (cells + mc) (slots + ms) Q (F0 m (pc + 3) ls (.int r :: rest))) : W p l e R s m args below meth c H locs cells slots Q (F0 m pc ls st0) := by
  subst hst
  have hPc := kq_sub hP isC hC
  have hDc := kq_subD hD isC hC hnC
  have hFc := kq_free hD hS hA isC hC
  refine va_calli (va_runV (As := As) (rest := rest) hS0 hM cw (kz_preV hK hE hPc hDc hc he) rfl hlen hsize rfl (lv_room hW) hdg hf) hS (fun q _ h => hFc q h) hFc (fun r u t H1 locs1 ht hvm hw hB hz1 hk1 hS1 => ?_)
  exact by
   obtain ⟨h1, h2⟩ := kq_join hP hD hS hA isC isR hC hR hn hdis ht hB hk1
   exact kk r u H1 locs1 hw h1 h2 hS1
theorem kz_VvQ {S : Type} {post : S → Prop} {w1 : S → va_W} {ci : Nat} {q : vw_C} {fs : List Value} (hS0 : CallFix p m c cc nL s args Ts own) (hK : va_K D vwCl (tysW k) s) (hE : kz_E s) (hP : va_P D vwCl (X ++ pl) H) (hD : va_D A (X ++ pl)) (hS : va_S A H0 H locs) (hA : ∀ q, H0.size ≤ q → A q)
    (hM : Met l y wsy rm (va_Pc (.ref b :: As) (kz_Pre D k wc H.size)) (va_Qv post (fun u t => kz_B D (va_A wc H.size) (w1 u) t) (va_A wc H.size)) mc ms (va_A wc H.size)) (cw : CallW R s args own q.1 index y bytes maxL ret wsy rm mc ms n)
    (isC isR : List Nat) (hC : isC.map (fun i => X[i]?) = wc.map some) (hR : isR.map (fun i => X[i]?) = wr.map some) (hnC : va_nd isC = true) (hn : va_nd isR = true) (hdis : ∀ i ∈ isR, i ∉ isC) (q0 : Nat) (hc : vwCl[ci]? = some q) (he : wc[q0]? = some (b, .inr (ci, fs)))
    (hlen : As.length = n) (hsize : ls.size = nL) (hst : st0 = As.reverse ++ .ref b :: rest) (hW : (rest.map fun v => v.category).sum ≤ 8) (hdg : decode cc pc = .ok (.invokevirtual index, 3)) (hf : cells + mc ≤ R.cells ∧ slots + ms ≤ R.slots)
    (kk : ∀ (u : S) (H1 : Heap) (locs1 : List Loc), post u → va_P D vwCl ((wr ++ w1 u) ++ pl) H1 → va_D A ((wr ++ w1 u) ++ pl) → va_S A H0 H1 locs1 → W p l e R s m args below meth c H1 locs1 (cells + mc) (slots + ms) Q (F0 m (pc + 3) ls rest)) : W p l e R s m args below meth c H locs cells slots Q (F0 m pc ls st0) := by
  subst hst
  have hPc := kq_sub hP isC hC
  have hDc := kq_subD hD isC hC hnC
  have hFc := kq_free hD hS hA isC hC
  refine va_callv (va_runV (As := As) (rest := rest) hS0 hM cw (kz_preV hK hE hPc hDc hc he) rfl hlen hsize rfl (lv_room hW) hdg hf) hS (fun q _ h => hFc q h) hFc (fun u t H1 locs1 ht hvm hw hB hz1 hk1 hS1 => ?_)
  exact by
   obtain ⟨h1, h2⟩ := kq_join hP hD hS hA isC isR hC hR hn hdis ht hB hk1
   exact kk u H1 locs1 hw h1 h2 hS1
theorem kz_IvQ {S : Type} {post : S → Prop} {w1 : S → va_W} (hS0 : CallFix p m c cc nL s args Ts own) (hK : va_K D vwCl (tysW k) s) (hE : kz_E s) (hP : va_P D vwCl (X ++ pl) H) (hD : va_D A (X ++ pl)) (hS : va_S A H0 H locs) (hA : ∀ q, H0.size ≤ q → A q)
    (hM : Met l y wsy rm (va_Pc (.ref b :: As) (kz_Pre D k wc H.size)) (va_Qv post (fun u t => kz_B D (va_A wc H.size) (w1 u) t) (va_A wc H.size)) mc ms (va_A wc H.size)) (cw : CallB R s args own index y bytes maxL none wsy rm mc ms n ∧ y.name = "<init>" ∧ (Cond.instanceMethod y).before args s = true)
    (isC isR : List Nat) (hC : isC.map (fun i => X[i]?) = wc.map some) (hR : isR.map (fun i => X[i]?) = wr.map some) (hnC : va_nd isC = true) (hn : va_nd isR = true) (hdis : ∀ i ∈ isR, i ∉ isC)
    (hlen : As.length = n) (hsize : ls.size = nL) (hst : st0 = As.reverse ++ .ref b :: rest) (hW : (rest.map fun v => v.category).sum ≤ 8) (hdg : decode cc pc = .ok (.invokespecial index, 3)) (hf : cells + mc ≤ R.cells ∧ slots + ms ≤ R.slots)
    (kk : ∀ (u : S) (H1 : Heap) (locs1 : List Loc), post u → va_P D vwCl ((wr ++ w1 u) ++ pl) H1 → va_D A ((wr ++ w1 u) ++ pl) → va_S A H0 H1 locs1 → W p l e R s m args below meth c H1 locs1 (cells + mc) (slots + ms) Q (F0 m (pc + 3) ls rest)) : W p l e R s m args below meth c H locs cells slots Q (F0 m pc ls st0) := by
  subst hst
  have hPc := kq_sub hP isC hC
  have hDc := kq_subD hD isC hC hnC
  have hFc := kq_free hD hS hA isC hC
  refine va_callv (va_runI (As := As) (rest := rest) hS0 hM cw (kz_preS hK hE hPc hDc) rfl hlen hsize rfl (lv_room hW) hdg hf) hS (fun q _ h => hFc q h) hFc (fun u t H1 locs1 ht hvm hw hB hz1 hk1 hS1 => ?_)
  exact by
   obtain ⟨h1, h2⟩ := kq_join hP hD hS hA isC isR hC hR hn hdis ht hB hk1
   exact kk u H1 locs1 hw h1 h2 hS1
theorem kz_INvQ {S : Type} {post : S → Prop} {w1 : S → va_W} {host : String} (hS0 : CallFix p m c cc nL s args Ts own) (hK : va_K D vwCl (tysW k) s) (hE : kz_E s) (hP : va_P D vwCl (X ++ pl) H) (hD : va_D A (X ++ pl)) (hS : va_S A H0 H locs) (hA : ∀ q, H0.size ≤ q → A q)
    (hM : Met l y wsy rm (va_Pc (.ref b :: As) (kz_Pre D k wc H.size)) (va_Qv post (fun u t => kz_B D (va_A wc H.size) (w1 u) t) (va_A wc H.size)) mc ms (va_A wc H.size)) (cw : va_CN R s args own index y host bytes maxL none wsy rm mc ms n ∧ y.name = "<init>" ∧ (Cond.instanceMethod y).before args s = true)
    (isC isR : List Nat) (hC : isC.map (fun i => X[i]?) = wc.map some) (hR : isR.map (fun i => X[i]?) = wr.map some) (hnC : va_nd isC = true) (hn : va_nd isR = true) (hdis : ∀ i ∈ isR, i ∉ isC)
    (hlen : As.length = n) (hsize : ls.size = nL) (hst : st0 = As.reverse ++ .ref b :: rest) (hW : (rest.map fun v => v.category).sum ≤ 8) (hdg : decode cc pc = .ok (.invokespecial index, 3)) (hf : cells + mc ≤ R.cells ∧ slots + ms ≤ R.slots)
    (kk : ∀ (u : S) (H1 : Heap) (locs1 : List Loc), post u → va_P D vwCl ((wr ++ w1 u) ++ pl) H1 → va_D A ((wr ++ w1 u) ++ pl) → va_S A H0 H1 locs1 → W p l e R s m args below meth c H1 locs1 (cells + mc) (slots + ms) Q (F0 m (pc + 3) ls rest)) : W p l e R s m args below meth c H locs cells slots Q (F0 m pc ls st0) := by
  subst hst
  have hPc := kq_sub hP isC hC
  have hDc := kq_subD hD isC hC hnC
  have hFc := kq_free hD hS hA isC hC
  refine va_callv (va_runIN (As := As) (rest := rest) hS0 hM cw (kz_preS hK hE hPc hDc) rfl hlen hsize rfl (lv_room hW) hdg hf) hS (fun q _ h => hFc q h) hFc (fun u t H1 locs1 ht hvm hw hB hz1 hk1 hS1 => ?_)
  exact by
   obtain ⟨h1, h2⟩ := kq_join hP hD hS hA isC isR hC hR hn hdis ht hB hk1
   exact kk u H1 locs1 hw h1 h2 hS1
end KZ
/-! families of cells: one of them at hand, the others in the pool -/
theorem P_perm {D : va_G} {cl : List vw_C} {w w' : va_W} {H : Heap} (hp : w.Perm w') (h : va_P D cl w H) : va_P D cl w' H := by
  intro k q hk
  obtain ⟨i, hi⟩ := List.getElem?_of_mem (hp.mem_iff.mpr (List.mem_of_getElem? hk))
  exact h i q hi
def adP (A : Nat → Prop) : va_W → Prop
  | [] => True
  | q :: r => (A q.1 ∧ ∀ p ∈ r, p.1 ≠ q.1) ∧ adP A r
theorem adP_of {A : Nat → Prop} : ∀ {w : va_W}, va_D A w → adP A w
  | [], _ => trivial
  | q :: r, h => by
    refine ⟨⟨h.2 0 q rfl, fun p hp e => ?_⟩, adP_of (w := r) ⟨fun i j x y hi hj hxy => ?_, fun k z hk => h.2 (k + 1) z hk⟩⟩
    · obtain ⟨i, hi⟩ := List.getElem?_of_mem hp
      have := h.1 (i + 1) 0 p q hi rfl e
      omega
    · have := h.1 (i + 1) (j + 1) x y hi hj hxy
      omega
theorem of_adP {A : Nat → Prop} : ∀ {w : va_W}, adP A w → va_D A w
  | [], _ => ⟨fun i j x y hi => by simp at hi, fun k q hk => by simp at hk⟩
  | q :: r, h => by
    have hr := of_adP (w := r) h.2
    refine ⟨fun i j x y hi hj hxy => ?_, fun k z hk => ?_⟩
    · match i, j, hi, hj with
      | 0, 0, _, _ => rfl
      | 0, j + 1, hi, hj =>
        have e : q = x := Option.some.inj hi
        subst e
        exact absurd hxy.symm (h.1.2 y (List.mem_of_getElem? (i := j) hj))
      | i + 1, 0, hi, hj =>
        have e : q = y := Option.some.inj hj
        subst e
        exact absurd hxy (h.1.2 x (List.mem_of_getElem? (i := i) hi))
      | i + 1, j + 1, hi, hj => rw [hr.1 i j x y hi hj hxy]
    · match k, hk with
      | 0, hk =>
        have e : q = z := Option.some.inj hk
        subst e
        exact h.1.1
      | k + 1, hk => exact hr.2 k z hk
theorem adP_perm {A : Nat → Prop} {w w' : va_W} (hp : w.Perm w') : adP A w → adP A w' := by
  induction hp with
  | nil => exact id
  | cons x hp ih => exact fun h => ⟨⟨h.1.1, fun p hq => h.1.2 p (hp.mem_iff.mpr hq)⟩, ih h.2⟩
  | swap x y r =>
    intro h
    have h1 := h.1
    have h2 := h.2
    refine ⟨⟨h2.1.1, fun p hq => ?_⟩, ⟨h1.1, fun p hq => h1.2 p (List.mem_cons_of_mem _ hq)⟩, h2.2⟩
    rcases List.mem_cons.mp hq with e | e
    · rw [e]; exact fun z => h1.2 x List.mem_cons_self z.symm
    · exact h2.1.2 p e
  | trans _ _ i1 i2 => exact fun h => i2 (i1 h)
theorem D_perm {A : Nat → Prop} {w w' : va_W} (hp : w.Perm w') (h : va_D A w) : va_D A w' := of_adP (adP_perm hp (adP_of h))
def fam (g : Nat → va_W) : Nat → va_W
  | 0 => []
  | n + 1 => g n ++ fam g n
def famX (g : Nat → va_W) (j : Nat) : Nat → va_W
  | 0 => []
  | n + 1 => (if n = j then [] else g n) ++ famX g j n
theorem famX_ge {g : Nat → va_W} {j : Nat} : ∀ {n : Nat}, n ≤ j → famX g j n = fam g n
  | 0, _ => rfl
  | n + 1, h => by
    show (if n = j then [] else g n) ++ famX g j n = g n ++ fam g n
    rw [if_neg (by omega), famX_ge (n := n) (by omega)]
theorem fam_perm {g : Nat → va_W} {j : Nat} : ∀ {n : Nat}, j < n → (fam g n).Perm (g j ++ famX g j n)
  | 0, h => absurd h (Nat.not_lt_zero _)
  | n + 1, h => by
    by_cases e : n = j
    · subst e
      show (g n ++ fam g n).Perm (g n ++ ((if n = n then [] else g n) ++ famX g n n))
      rw [if_pos rfl, famX_ge (Nat.le_refl n)]
      exact List.Perm.refl _
    · show (g n ++ fam g n).Perm (g j ++ ((if n = j then [] else g n) ++ famX g j n))
      rw [if_neg e]
      exact (List.Perm.append_left (g n) (fam_perm (n := n) (by omega))).trans (List.perm_append_comm_assoc _ _ _)
def updW (g : Nat → va_W) (j : Nat) (w : va_W) : Nat → va_W := fun q => if q = j then w else g q
theorem updW_s {g : Nat → va_W} {j : Nat} {w : va_W} : updW g j w j = w := if_pos rfl
theorem updW_n {g : Nat → va_W} {j q : Nat} {w : va_W} (h : ¬ q = j) : updW g j w q = g q := if_neg h
theorem famX_upd {g : Nat → va_W} {j : Nat} {w : va_W} : ∀ {n : Nat}, famX (updW g j w) j n = famX g j n
  | 0 => rfl
  | n + 1 => by
    show (if n = j then [] else updW g j w n) ++ famX (updW g j w) j n = (if n = j then [] else g n) ++ famX g j n
    rw [famX_upd (n := n)]
    by_cases e : n = j
    · rw [if_pos e, if_pos e]
    · rw [if_neg e, if_neg e, updW_n e]
theorem foc_perm {X r : va_W} {g : Nat → va_W} {j n : Nat} (h : j < n) : (X ++ (fam g n ++ r)).Perm ((X ++ g j) ++ (famX g j n ++ r)) := by
  rw [List.append_assoc]
  refine List.Perm.append_left X ?_
  rw [← List.append_assoc]
  exact List.Perm.append_right r (fam_perm h)
theorem foc_P {D : va_G} {cl : List vw_C} {H : Heap} {X r : va_W} {g : Nat → va_W} {j n : Nat} (h : j < n) (hP : va_P D cl (X ++ (fam g n ++ r)) H) : va_P D cl ((X ++ g j) ++ (famX g j n ++ r)) H := P_perm (foc_perm h) hP
theorem foc_D {A : Nat → Prop} {X r : va_W} {g : Nat → va_W} {j n : Nat} (h : j < n) (hD : va_D A (X ++ (fam g n ++ r))) : va_D A ((X ++ g j) ++ (famX g j n ++ r)) := D_perm (foc_perm h) hD
theorem unf_P {D : va_G} {cl : List vw_C} {H : Heap} {X r w : va_W} {g : Nat → va_W} {j n : Nat} (h : j < n) (hP : va_P D cl ((X ++ w) ++ (famX g j n ++ r)) H) : va_P D cl (X ++ (fam (updW g j w) n ++ r)) H := by
  refine P_perm (foc_perm (g := updW g j w) h).symm ?_
  rw [updW_s, famX_upd]
  exact hP
theorem unf_D {A : Nat → Prop} {X r w : va_W} {g : Nat → va_W} {j n : Nat} (h : j < n) (hD : va_D A ((X ++ w) ++ (famX g j n ++ r))) : va_D A (X ++ (fam (updW g j w) n ++ r)) := by
  refine D_perm (foc_perm (g := updW g j w) h).symm ?_
  rw [updW_s, famX_upd]
  exact hD
/-- the second family to the front -/
theorem two_perm {X a b : va_W} : (X ++ (a ++ (b ++ []))).Perm (X ++ (b ++ (a ++ []))) := by
  refine List.Perm.append_left X ?_
  exact List.perm_append_comm_assoc a b []
