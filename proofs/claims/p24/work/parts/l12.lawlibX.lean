section KZ
variable {p : Program} {l : Launch} {e : Env} {R : Room} {s : State} {m : MethodId} {args : Array Value} {below : List Frame} {meth : Method} {c : Code} {H H0 : Heap} {locs : List Loc} {cells slots : Nat} {Q : State → Prop}
variable {D : va_G} {k : Nat → ClassId} {A : Nat → Prop} {X pl wc wr : va_W} {y : MethodName} {bytes cc : ByteArray} {maxL nL mc ms n index pc : Nat} {ret : Option FieldType} {wsy : List Cond} {rm : Room} {Ts : List Cond} {own : String} {b : Addr} {As rest : List Value} {ls : Array Slot} {st0 : List Value}
variable {a0 sa sv : Nat} {f : Nat → Int32}
theorem kz_IvXQ {S : Type} {post : S → Prop} {w1 : S → va_W} (hS0 : CallFix p m c cc nL s args Ts own) (hX : kz_X a0 sa sv f s) (hAX : ∀ q, A q → a0 ≤ q) (ha0 : a0 ≤ H.size) (hS9 : va_S A s.heap H locs) (hK : va_K D vwCl (tysW k) s) (hE : kz_E s) (hP : va_P D vwCl (X ++ pl) H) (hD : va_D A (X ++ pl)) (hS : va_S A H0 H locs) (hA : ∀ q, H0.size ≤ q → A q)
    (hM : Met l y wsy rm (va_Pc (.ref b :: As) (kz_PreX D k wc a0 sa sv f H.size)) (va_Qv post (fun u t => kz_B D (va_A wc H.size) (w1 u) t) (va_A wc H.size)) mc ms (va_A wc H.size)) (cw : CallB R s args own index y bytes maxL none wsy rm mc ms n ∧ y.name = "<init>" ∧ (Cond.instanceMethod y).before args s = true)
    (isC isR : List Nat) (hC : isC.map (fun i => X[i]?) = wc.map some) (hR : isR.map (fun i => X[i]?) = wr.map some) (hnC : va_nd isC = true) (hn : va_nd isR = true) (hdis : ∀ i ∈ isR, i ∉ isC)
    (hlen : As.length = n) (hsize : ls.size = nL) (hst : st0 = As.reverse ++ .ref b :: rest) (hW : (rest.map fun v => v.category).sum ≤ 8) (hdg : decode cc pc = .ok (.invokespecial index, 3)) (hf : cells + mc ≤ R.cells ∧ slots + ms ≤ R.slots)
    (kk : ∀ (u : S) (H1 : Heap) (locs1 : List Loc), post u → va_P D vwCl ((wr ++ w1 u) ++ pl) H1 → va_D A ((wr ++ w1 u) ++ pl) → va_S A H0 H1 locs1 → W p l e R s m args below meth c H1 locs1 (cells + mc) (slots + ms) Q (F0 m (pc + 3) ls rest)) : W p l e R s m args below meth c H locs cells slots Q (F0 m pc ls st0) := by
  subst hst
  have hPc := kq_sub hP isC hC
  have hDc := kq_subD hD isC hC hnC
  have hFc := kq_free hD hS hA isC hC
  refine va_callv (va_runI (As := As) (rest := rest) hS0 hM cw (kz_preSX hK hE hPc hDc hX hS9 hAX ha0) rfl hlen hsize rfl (lv_room hW) hdg hf) hS (fun q _ h => hFc q h) hFc (fun u t H1 locs1 ht hvm hw hB hz1 hk1 hS1 => ?_)
  exact by
   obtain ⟨h1, h2⟩ := kq_join hP hD hS hA isC isR hC hR hn hdis ht hB hk1
   exact kk u H1 locs1 hw h1 h2 hS1
end KZ
