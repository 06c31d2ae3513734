section KZ
variable {p : Program} {l : Launch} {e : Env} {R : Room} {s : State} {m : MethodId} {args : Array Value} {below : List Frame} {meth : Method} {c : Code} {H H0 : Heap} {locs : List Loc} {cells slots : Nat} {Q : State → Prop}
variable {D : va_G} {k : Nat → ClassId} {A : Nat → Prop} {X pl wc wr : va_W} {y : MethodName} {bytes cc : ByteArray} {maxL nL mc ms n index pc : Nat} {ret : Option FieldType} {wsy : List Cond} {rm : Room} {Ts : List Cond} {own : String} {b : Addr} {As rest : List Value} {ls : Array Slot} {st0 : List Value}
variable {a0 sa sv : Nat} {f : Nat → Int32}
theorem kz_ViYQ {S : Type} {post : Int32 → S → Prop} {w1 : S → va_W} {ci : Nat} {q : vw_C} {fs : List Value} (hS0 : CallFix p m c cc nL s args Ts own) (hX : ky_X a0 sa sv f s) (hAX : ∀ q, A q → a0 ≤ q) (ha0 : a0 ≤ s.heap.size) (hK : va_K D vwCl (tysW k) s) (hE : kz_E s) (hP : va_P D vwCl (X ++ pl) H) (hD : va_D A (X ++ pl)) (hS : va_S A s.heap H locs) (hA : ∀ q, s.heap.size ≤ q → A q)
    (hM : Met l y wsy rm (va_Pc (.ref b :: As) (kz_PreY D k wc a0 sa sv f H.size)) (va_Qi post (fun u t => kz_B D (va_A wc H.size) (w1 u) t) (va_A wc H.size)) mc ms (va_A wc H.size)) (cw : CallW R s args own q.1 index y bytes maxL ret wsy rm mc ms n)
    (isC isR : List Nat) (hC : isC.map (fun i => X[i]?) = wc.map some) (hR : isR.map (fun i => X[i]?) = wr.map some) (hnC : va_nd isC = true) (hn : va_nd isR = true) (hdis : ∀ i ∈ isR, i ∉ isC) (q0 : Nat) (hc : vwCl[ci]? = some q) (he : wc[q0]? = some (b, .inr (ci, fs)))
    (hlen : As.length = n) (hsize : ls.size = nL) (hst : st0 = As.reverse ++ .ref b :: rest) (hW : (rest.map fun v => v.category).sum ≤ 8) (hdg : decode cc pc = .ok (.invokevirtual index, 3)) (hf : cells + mc ≤ R.cells ∧ slots + ms ≤ R.slots)
    (kk : ∀ (r : Int32) (u : S) (H1 : Heap) (locs1 : List Loc), post r u → va_P D vwCl ((wr ++ w1 u) ++ pl) H1 → va_D A ((wr ++ w1 u) ++ pl) → va_S A s.heap H1 locs1 → W p l e R s m args below meth c H1 locs1 (cells + mc) (slots + ms) Q (F0 m (pc + 3) ls (.int r :: rest))) : W p l e R s m args below meth c H locs cells slots Q (F0 m pc ls st0) := by
  subst hst
  have hPc := kq_sub hP isC hC
  have hDc := kq_subD hD isC hC hnC
  have hFc := kq_free hD hS hA isC hC
  refine va_calli (va_runV (As := As) (rest := rest) hS0 hM cw (kz_preVY hX hAX ha0 hS hK hE hPc hDc hc he) rfl hlen hsize rfl (lv_room hW) hdg hf) hS (fun q _ h => hFc q h) hFc (fun r u t H1 locs1 ht hvm hw hB hz1 hk1 hS1 => ?_)
  exact by
   obtain ⟨h1, h2⟩ := kq_join hP hD hS hA isC isR hC hR hn hdis ht hB hk1
   exact kk r u H1 locs1 hw h1 h2 hS1
end KZ
