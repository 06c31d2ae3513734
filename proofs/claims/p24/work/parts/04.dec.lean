def b0_ (c : ByteArray) (pc k : Nat) : Bool := match c.data.toList.drop pc with | x :: _ => Nat.beq x.toNat k | _ => false
def b1_ (c : ByteArray) (pc k n : Nat) : Bool := match c.data.toList.drop pc with | x :: y :: _ => Nat.beq x.toNat k && Nat.beq y.toNat n | _ => false
def b2_ (c : ByteArray) (pc k n : Nat) : Bool := match c.data.toList.drop pc with | x :: y :: z :: _ => Nat.beq x.toNat k && Nat.beq (y.toNat * 256 + z.toNat) n | _ => false
def s1_ (c : ByteArray) (pc k : Nat) (n : Int) : Bool := match c.data.toList.drop pc with | x :: y :: _ => Nat.beq x.toNat k && decide (Reader.signed 8 y.toNat = n) | _ => false
def s2_ (c : ByteArray) (pc k : Nat) (n : Int) : Bool := match c.data.toList.drop pc with | x :: y :: z :: _ => Nat.beq x.toNat k && decide (Reader.signed 16 (y.toNat * 256 + z.toNat) = n) | _ => false
def bi_ (c : ByteArray) (pc k a : Nat) (n : Int) : Bool := match c.data.toList.drop pc with | x :: y :: z :: _ => Nat.beq x.toNat k && (Nat.beq y.toNat a && decide (Reader.signed 8 z.toNat = n)) | _ => false
theorem dk_dr {l : List UInt8} {p : Nat} {x : UInt8} {r : List UInt8} (h : l.drop p = x :: r) : l[p]? = some x ∧ l.drop (p + 1) = r := by
  constructor
  · rw [← List.head?_drop, h]; rfl
  · rw [← List.drop_drop (i := 1) (j := p), h]; rfl
theorem dk_u1 {c : ByteArray} {p : Nat} {x : UInt8} (h : c.data.toList[p]? = some x) : (Reader.u1 : Decoder Nat) c p = .ok (x.toNat, p + 1) := by
  obtain ⟨hp, hx⟩ := List.getElem?_eq_some_iff.mp h
  have hp : p < c.size := hp
  show (if h : p < c.size then ((do set (p + 1); Pure.pure c[p].toNat) : Decoder Nat) else throw (HasTruncated.truncated p)) c p = _
  rw [dif_pos hp]
  show (Except.ok (c[p].toNat, p + 1) : Except DecodeError (Nat × Nat)) = _
  rw [show c[p] = x from hx]
theorem dk_bind {α β : Type} {r : Decoder α} {G : α → Decoder β} {c : ByteArray} {p q : Nat} {a : α} (h : r c p = .ok (a, q)) : (r >>= G) c p = G a c q := by
  show Except.bind (r c p) (fun x => G x.1 c x.2) = _
  rw [h]; rfl
theorem dk_dec {c : ByteArray} {pc q : Nat} {i : Instr} (h : Decoder.instr pc c pc = .ok (i, q)) : decode c pc = .ok (i, q - pc) := by
  show Except.bind (Decoder.instr pc c pc) (fun x => Except.ok (x.1, x.2 - pc)) = _
  rw [h]; rfl
theorem dk_u2 {c : ByteArray} {p : Nat} {y z : UInt8} {r : List UInt8} (h : c.data.toList.drop p = y :: z :: r) : (Reader.u2 : Decoder Nat) c p = .ok (y.toNat * 256 + z.toNat, p + 2) := by
  have h1 := dk_dr h
  have h2 := dk_dr h1.2
  show ((Reader.u1 : Decoder Nat) >>= fun hi => (Reader.u1 : Decoder Nat) >>= fun lo => Pure.pure (hi * 256 + lo)) c p = _
  rw [dk_bind (dk_u1 h1.1), dk_bind (dk_u1 h2.1)]; rfl
theorem dk_map {α β : Type} {r : Decoder α} {f : α → β} {c : ByteArray} {p q : Nat} {a : α} (h : r c p = .ok (a, q)) : (f <$> r) c p = .ok (f a, q) := by
  show Except.map (fun x => (f x.1, x.2)) (r c p) = _
  rw [h]; rfl
theorem dk0 {c : ByteArray} {pc k : Nat} {i : Instr} (G : Nat → Decoder Instr) (hG : Decoder.instr pc = Reader.u1 >>= G) (e : G k = Pure.pure i) (h : b0_ c pc k = true) : decode c pc = .ok (i, 1) := by
  revert h; unfold b0_
  cases hl : c.data.toList.drop pc with
  | nil => intro h; exact absurd h Bool.false_ne_true
  | cons x r =>
    intro h
    have hk : x.toNat = k := Nat.eq_of_beq_eq_true h
    have h2 : Decoder.instr pc c pc = .ok (i, pc + 1) := by
      rw [hG, dk_bind (dk_u1 (dk_dr hl).1), hk, e]; rfl
    have h3 := dk_dec h2
    rwa [Nat.add_sub_cancel_left] at h3
theorem dk1 {c : ByteArray} {pc k n : Nat} {X : Nat → Instr} (G : Nat → Decoder Instr) (hG : Decoder.instr pc = Reader.u1 >>= G) (e : G k = (Reader.u1 : Decoder Nat) >>= fun m => Pure.pure (X m)) (h : b1_ c pc k n = true) : decode c pc = .ok (X n, 2) := by
  revert h; unfold b1_
  rcases hl : c.data.toList.drop pc with _ | ⟨x, _ | ⟨y, r⟩⟩
  · intro h; exact absurd h Bool.false_ne_true
  · intro h; exact absurd h Bool.false_ne_true
  · intro h
    obtain ⟨ha, hb⟩ := (Bool.and_eq_true _ _).mp h
    have hk : x.toNat = k := Nat.eq_of_beq_eq_true ha
    have hn : y.toNat = n := Nat.eq_of_beq_eq_true hb
    have h1 := dk_dr hl
    have h2 : Decoder.instr pc c pc = .ok (X n, pc + 2) := by
      rw [hG, dk_bind (dk_u1 h1.1), hk, e, dk_bind (dk_u1 (dk_dr h1.2).1), hn]; rfl
    have h3 := dk_dec h2
    rwa [Nat.add_sub_cancel_left] at h3
theorem dk2 {c : ByteArray} {pc k n : Nat} {X : Nat → Instr} (G : Nat → Decoder Instr) (hG : Decoder.instr pc = Reader.u1 >>= G) (e : G k = (Reader.u2 : Decoder Nat) >>= fun m => Pure.pure (X m)) (h : b2_ c pc k n = true) : decode c pc = .ok (X n, 3) := by
  revert h; unfold b2_
  rcases hl : c.data.toList.drop pc with _ | ⟨x, _ | ⟨y, _ | ⟨z, r⟩⟩⟩
  · intro h; exact absurd h Bool.false_ne_true
  · intro h; exact absurd h Bool.false_ne_true
  · intro h; exact absurd h Bool.false_ne_true
  · intro h
    obtain ⟨ha, hb⟩ := (Bool.and_eq_true _ _).mp h
    have hk : x.toNat = k := Nat.eq_of_beq_eq_true ha
    have hn : y.toNat * 256 + z.toNat = n := Nat.eq_of_beq_eq_true hb
    have h1 := dk_dr hl
    have h2 : Decoder.instr pc c pc = .ok (X n, pc + 3) := by
      rw [hG, dk_bind (dk_u1 h1.1), hk, e, dk_bind (dk_u2 h1.2), hn]; rfl
    have h3 := dk_dec h2
    rwa [Nat.add_sub_cancel_left] at h3
theorem ds1 {c : ByteArray} {pc k : Nat} {n : Int} {X : Int → Instr} (G : Nat → Decoder Instr) (hG : Decoder.instr pc = Reader.u1 >>= G) (e : G k = (Reader.s1 : Decoder Int) >>= fun m => Pure.pure (X m)) (h : s1_ c pc k n = true) : decode c pc = .ok (X n, 2) := by
  revert h; unfold s1_
  rcases hl : c.data.toList.drop pc with _ | ⟨x, _ | ⟨y, r⟩⟩
  · intro h; exact absurd h Bool.false_ne_true
  · intro h; exact absurd h Bool.false_ne_true
  · intro h
    obtain ⟨ha, hb⟩ := (Bool.and_eq_true _ _).mp h
    have hk : x.toNat = k := Nat.eq_of_beq_eq_true ha
    have hn : Reader.signed 8 y.toNat = n := of_decide_eq_true hb
    have h1 := dk_dr hl
    have h2 : Decoder.instr pc c pc = .ok (X n, pc + 2) := by
      rw [hG, dk_bind (dk_u1 h1.1), hk, e, dk_bind (r := (Reader.s1 : Decoder Int)) (dk_map (dk_u1 (dk_dr h1.2).1)), hn]; rfl
    have h3 := dk_dec h2
    rwa [Nat.add_sub_cancel_left] at h3
theorem ds2 {c : ByteArray} {pc k : Nat} {n : Int} {X : Int → Instr} (G : Nat → Decoder Instr) (hG : Decoder.instr pc = Reader.u1 >>= G) (e : G k = (Reader.s2 : Decoder Int) >>= fun m => Pure.pure (X m)) (h : s2_ c pc k n = true) : decode c pc = .ok (X n, 3) := by
  revert h; unfold s2_
  rcases hl : c.data.toList.drop pc with _ | ⟨x, _ | ⟨y, _ | ⟨z, r⟩⟩⟩
  · intro h; exact absurd h Bool.false_ne_true
  · intro h; exact absurd h Bool.false_ne_true
  · intro h; exact absurd h Bool.false_ne_true
  · intro h
    obtain ⟨ha, hb⟩ := (Bool.and_eq_true _ _).mp h
    have hk : x.toNat = k := Nat.eq_of_beq_eq_true ha
    have hn : Reader.signed 16 (y.toNat * 256 + z.toNat) = n := of_decide_eq_true hb
    have h1 := dk_dr hl
    have h2 : Decoder.instr pc c pc = .ok (X n, pc + 3) := by
      rw [hG, dk_bind (dk_u1 h1.1), hk, e, dk_bind (r := (Reader.s2 : Decoder Int)) (dk_map (dk_u2 h1.2)), hn]; rfl
    have h3 := dk_dec h2
    rwa [Nat.add_sub_cancel_left] at h3
theorem dki {c : ByteArray} {pc k a : Nat} {n : Int} {X : Nat → Int → Instr} (G : Nat → Decoder Instr) (hG : Decoder.instr pc = Reader.u1 >>= G) (e : G k = (Reader.u1 : Decoder Nat) >>= fun m => (Reader.s1 : Decoder Int) >>= fun m2 => Pure.pure (X m m2)) (h : bi_ c pc k a n = true) : decode c pc = .ok (X a n, 3) := by
  revert h; unfold bi_
  rcases hl : c.data.toList.drop pc with _ | ⟨x, _ | ⟨y, _ | ⟨z, r⟩⟩⟩
  · intro h; exact absurd h Bool.false_ne_true
  · intro h; exact absurd h Bool.false_ne_true
  · intro h; exact absurd h Bool.false_ne_true
  · intro h
    obtain ⟨ha, hb⟩ := (Bool.and_eq_true _ _).mp h
    obtain ⟨hb, hd⟩ := (Bool.and_eq_true _ _).mp hb
    have hk : x.toNat = k := Nat.eq_of_beq_eq_true ha
    have hn : y.toNat = a := Nat.eq_of_beq_eq_true hb
    have hm : Reader.signed 8 z.toNat = n := of_decide_eq_true hd
    have h1 := dk_dr hl
    have h4 := dk_dr h1.2
    have h2 : Decoder.instr pc c pc = .ok (X a n, pc + 3) := by
      rw [hG, dk_bind (dk_u1 h1.1), hk, e, dk_bind (dk_u1 h4.1), hn, dk_bind (r := (Reader.s1 : Decoder Int)) (dk_map (dk_u1 (dk_dr h4.2).1)), hm]; rfl
    have h3 := dk_dec h2
    rwa [Nat.add_sub_cancel_left] at h3
theorem dk_iaload {c : ByteArray} {pc : Nat} (h : b0_ c pc 46 = true) : decode c pc = .ok (.iaload, 1) := dk0 _ rfl rfl h
theorem dk_laload {c : ByteArray} {pc : Nat} (h : b0_ c pc 47 = true) : decode c pc = .ok (.laload, 1) := dk0 _ rfl rfl h
theorem dk_aaload {c : ByteArray} {pc : Nat} (h : b0_ c pc 50 = true) : decode c pc = .ok (.aaload, 1) := dk0 _ rfl rfl h
theorem dk_baload {c : ByteArray} {pc : Nat} (h : b0_ c pc 51 = true) : decode c pc = .ok (.baload, 1) := dk0 _ rfl rfl h
theorem dk_iastore {c : ByteArray} {pc : Nat} (h : b0_ c pc 79 = true) : decode c pc = .ok (.iastore, 1) := dk0 _ rfl rfl h
theorem dk_lastore {c : ByteArray} {pc : Nat} (h : b0_ c pc 80 = true) : decode c pc = .ok (.lastore, 1) := dk0 _ rfl rfl h
theorem dk_aastore {c : ByteArray} {pc : Nat} (h : b0_ c pc 83 = true) : decode c pc = .ok (.aastore, 1) := dk0 _ rfl rfl h
theorem dk_bastore {c : ByteArray} {pc : Nat} (h : b0_ c pc 84 = true) : decode c pc = .ok (.bastore, 1) := dk0 _ rfl rfl h
theorem dk_pop {c : ByteArray} {pc : Nat} (h : b0_ c pc 87 = true) : decode c pc = .ok (.pop, 1) := dk0 _ rfl rfl h
theorem dk_dup {c : ByteArray} {pc : Nat} (h : b0_ c pc 89 = true) : decode c pc = .ok (.dup, 1) := dk0 _ rfl rfl h
theorem dk_dup2 {c : ByteArray} {pc : Nat} (h : b0_ c pc 92 = true) : decode c pc = .ok (.dup2, 1) := dk0 _ rfl rfl h
theorem dk_iadd {c : ByteArray} {pc : Nat} (h : b0_ c pc 96 = true) : decode c pc = .ok (.iadd, 1) := dk0 _ rfl rfl h
theorem dk_ladd {c : ByteArray} {pc : Nat} (h : b0_ c pc 97 = true) : decode c pc = .ok (.ladd, 1) := dk0 _ rfl rfl h
theorem dk_isub {c : ByteArray} {pc : Nat} (h : b0_ c pc 100 = true) : decode c pc = .ok (.isub, 1) := dk0 _ rfl rfl h
theorem dk_lsub {c : ByteArray} {pc : Nat} (h : b0_ c pc 101 = true) : decode c pc = .ok (.lsub, 1) := dk0 _ rfl rfl h
theorem dk_imul {c : ByteArray} {pc : Nat} (h : b0_ c pc 104 = true) : decode c pc = .ok (.imul, 1) := dk0 _ rfl rfl h
theorem dk_lmul {c : ByteArray} {pc : Nat} (h : b0_ c pc 105 = true) : decode c pc = .ok (.lmul, 1) := dk0 _ rfl rfl h
theorem dk_idiv {c : ByteArray} {pc : Nat} (h : b0_ c pc 108 = true) : decode c pc = .ok (.idiv, 1) := dk0 _ rfl rfl h
theorem dk_ldiv {c : ByteArray} {pc : Nat} (h : b0_ c pc 109 = true) : decode c pc = .ok (.ldiv, 1) := dk0 _ rfl rfl h
theorem dk_irem {c : ByteArray} {pc : Nat} (h : b0_ c pc 112 = true) : decode c pc = .ok (.irem, 1) := dk0 _ rfl rfl h
theorem dk_lrem {c : ByteArray} {pc : Nat} (h : b0_ c pc 113 = true) : decode c pc = .ok (.lrem, 1) := dk0 _ rfl rfl h
theorem dk_ineg {c : ByteArray} {pc : Nat} (h : b0_ c pc 116 = true) : decode c pc = .ok (.ineg, 1) := dk0 _ rfl rfl h
theorem dk_ishl {c : ByteArray} {pc : Nat} (h : b0_ c pc 120 = true) : decode c pc = .ok (.ishl, 1) := dk0 _ rfl rfl h
theorem dk_lshl {c : ByteArray} {pc : Nat} (h : b0_ c pc 121 = true) : decode c pc = .ok (.lshl, 1) := dk0 _ rfl rfl h
theorem dk_ishr {c : ByteArray} {pc : Nat} (h : b0_ c pc 122 = true) : decode c pc = .ok (.ishr, 1) := dk0 _ rfl rfl h
theorem dk_iushr {c : ByteArray} {pc : Nat} (h : b0_ c pc 124 = true) : decode c pc = .ok (.iushr, 1) := dk0 _ rfl rfl h
theorem dk_lushr {c : ByteArray} {pc : Nat} (h : b0_ c pc 125 = true) : decode c pc = .ok (.lushr, 1) := dk0 _ rfl rfl h
theorem dk_iand {c : ByteArray} {pc : Nat} (h : b0_ c pc 126 = true) : decode c pc = .ok (.iand, 1) := dk0 _ rfl rfl h
theorem dk_land {c : ByteArray} {pc : Nat} (h : b0_ c pc 127 = true) : decode c pc = .ok (.land, 1) := dk0 _ rfl rfl h
theorem dk_ior {c : ByteArray} {pc : Nat} (h : b0_ c pc 128 = true) : decode c pc = .ok (.ior, 1) := dk0 _ rfl rfl h
theorem dk_lor {c : ByteArray} {pc : Nat} (h : b0_ c pc 129 = true) : decode c pc = .ok (.lor, 1) := dk0 _ rfl rfl h
theorem dk_ixor {c : ByteArray} {pc : Nat} (h : b0_ c pc 130 = true) : decode c pc = .ok (.ixor, 1) := dk0 _ rfl rfl h
theorem dk_i2l {c : ByteArray} {pc : Nat} (h : b0_ c pc 133 = true) : decode c pc = .ok (.i2l, 1) := dk0 _ rfl rfl h
theorem dk_l2i {c : ByteArray} {pc : Nat} (h : b0_ c pc 136 = true) : decode c pc = .ok (.l2i, 1) := dk0 _ rfl rfl h
theorem dk_i2b {c : ByteArray} {pc : Nat} (h : b0_ c pc 145 = true) : decode c pc = .ok (.i2b, 1) := dk0 _ rfl rfl h
theorem dk_i2c {c : ByteArray} {pc : Nat} (h : b0_ c pc 146 = true) : decode c pc = .ok (.i2c, 1) := dk0 _ rfl rfl h
theorem dk_lcmp {c : ByteArray} {pc : Nat} (h : b0_ c pc 148 = true) : decode c pc = .ok (.lcmp, 1) := dk0 _ rfl rfl h
theorem dk_ireturn {c : ByteArray} {pc : Nat} (h : b0_ c pc 172 = true) : decode c pc = .ok (.ireturn, 1) := dk0 _ rfl rfl h
theorem dk_lreturn {c : ByteArray} {pc : Nat} (h : b0_ c pc 173 = true) : decode c pc = .ok (.lreturn, 1) := dk0 _ rfl rfl h
theorem dk_return_ {c : ByteArray} {pc : Nat} (h : b0_ c pc 177 = true) : decode c pc = .ok (.return_, 1) := dk0 _ rfl rfl h
theorem dk_arraylength {c : ByteArray} {pc : Nat} (h : b0_ c pc 190 = true) : decode c pc = .ok (.arraylength, 1) := dk0 _ rfl rfl h
theorem dk_athrow {c : ByteArray} {pc : Nat} (h : b0_ c pc 191 = true) : decode c pc = .ok (.athrow, 1) := dk0 _ rfl rfl h
theorem dk_iconst_m1 {c : ByteArray} {pc : Nat} (h : b0_ c pc 2 = true) : decode c pc = .ok (.iconst (-1), 1) := dk0 _ rfl rfl h
theorem dk_iconst_0 {c : ByteArray} {pc : Nat} (h : b0_ c pc 3 = true) : decode c pc = .ok (.iconst 0, 1) := dk0 _ rfl rfl h
theorem dk_iconst_1 {c : ByteArray} {pc : Nat} (h : b0_ c pc 4 = true) : decode c pc = .ok (.iconst 1, 1) := dk0 _ rfl rfl h
theorem dk_iconst_2 {c : ByteArray} {pc : Nat} (h : b0_ c pc 5 = true) : decode c pc = .ok (.iconst 2, 1) := dk0 _ rfl rfl h
theorem dk_iconst_3 {c : ByteArray} {pc : Nat} (h : b0_ c pc 6 = true) : decode c pc = .ok (.iconst 3, 1) := dk0 _ rfl rfl h
theorem dk_iconst_4 {c : ByteArray} {pc : Nat} (h : b0_ c pc 7 = true) : decode c pc = .ok (.iconst 4, 1) := dk0 _ rfl rfl h
theorem dk_iconst_5 {c : ByteArray} {pc : Nat} (h : b0_ c pc 8 = true) : decode c pc = .ok (.iconst 5, 1) := dk0 _ rfl rfl h
theorem dk_lconst_0 {c : ByteArray} {pc : Nat} (h : b0_ c pc 9 = true) : decode c pc = .ok (.lconst 0, 1) := dk0 _ rfl rfl h
theorem dk_lconst_1 {c : ByteArray} {pc : Nat} (h : b0_ c pc 10 = true) : decode c pc = .ok (.lconst 1, 1) := dk0 _ rfl rfl h
theorem dk_iload_n_0 {c : ByteArray} {pc : Nat} (h : b0_ c pc 26 = true) : decode c pc = .ok (.iload_n 0, 1) := dk0 _ rfl rfl h
theorem dk_iload_n_1 {c : ByteArray} {pc : Nat} (h : b0_ c pc 27 = true) : decode c pc = .ok (.iload_n 1, 1) := dk0 _ rfl rfl h
theorem dk_iload_n_2 {c : ByteArray} {pc : Nat} (h : b0_ c pc 28 = true) : decode c pc = .ok (.iload_n 2, 1) := dk0 _ rfl rfl h
theorem dk_iload_n_3 {c : ByteArray} {pc : Nat} (h : b0_ c pc 29 = true) : decode c pc = .ok (.iload_n 3, 1) := dk0 _ rfl rfl h
theorem dk_lload_n_0 {c : ByteArray} {pc : Nat} (h : b0_ c pc 30 = true) : decode c pc = .ok (.lload_n 0, 1) := dk0 _ rfl rfl h
theorem dk_lload_n_1 {c : ByteArray} {pc : Nat} (h : b0_ c pc 31 = true) : decode c pc = .ok (.lload_n 1, 1) := dk0 _ rfl rfl h
theorem dk_lload_n_2 {c : ByteArray} {pc : Nat} (h : b0_ c pc 32 = true) : decode c pc = .ok (.lload_n 2, 1) := dk0 _ rfl rfl h
theorem dk_lload_n_3 {c : ByteArray} {pc : Nat} (h : b0_ c pc 33 = true) : decode c pc = .ok (.lload_n 3, 1) := dk0 _ rfl rfl h
theorem dk_aload_n_0 {c : ByteArray} {pc : Nat} (h : b0_ c pc 42 = true) : decode c pc = .ok (.aload_n 0, 1) := dk0 _ rfl rfl h
theorem dk_aload_n_1 {c : ByteArray} {pc : Nat} (h : b0_ c pc 43 = true) : decode c pc = .ok (.aload_n 1, 1) := dk0 _ rfl rfl h
theorem dk_aload_n_2 {c : ByteArray} {pc : Nat} (h : b0_ c pc 44 = true) : decode c pc = .ok (.aload_n 2, 1) := dk0 _ rfl rfl h
theorem dk_aload_n_3 {c : ByteArray} {pc : Nat} (h : b0_ c pc 45 = true) : decode c pc = .ok (.aload_n 3, 1) := dk0 _ rfl rfl h
theorem dk_istore_n_0 {c : ByteArray} {pc : Nat} (h : b0_ c pc 59 = true) : decode c pc = .ok (.istore_n 0, 1) := dk0 _ rfl rfl h
theorem dk_istore_n_1 {c : ByteArray} {pc : Nat} (h : b0_ c pc 60 = true) : decode c pc = .ok (.istore_n 1, 1) := dk0 _ rfl rfl h
theorem dk_istore_n_2 {c : ByteArray} {pc : Nat} (h : b0_ c pc 61 = true) : decode c pc = .ok (.istore_n 2, 1) := dk0 _ rfl rfl h
theorem dk_istore_n_3 {c : ByteArray} {pc : Nat} (h : b0_ c pc 62 = true) : decode c pc = .ok (.istore_n 3, 1) := dk0 _ rfl rfl h
theorem dk_lstore_n_2 {c : ByteArray} {pc : Nat} (h : b0_ c pc 65 = true) : decode c pc = .ok (.lstore_n 2, 1) := dk0 _ rfl rfl h
theorem dk_astore_n_1 {c : ByteArray} {pc : Nat} (h : b0_ c pc 76 = true) : decode c pc = .ok (.astore_n 1, 1) := dk0 _ rfl rfl h
theorem dk_astore_n_2 {c : ByteArray} {pc : Nat} (h : b0_ c pc 77 = true) : decode c pc = .ok (.astore_n 2, 1) := dk0 _ rfl rfl h
theorem dk_astore_n_3 {c : ByteArray} {pc : Nat} (h : b0_ c pc 78 = true) : decode c pc = .ok (.astore_n 3, 1) := dk0 _ rfl rfl h
theorem dk_ldc {c : ByteArray} {pc : Nat} {n : Nat} (h : b1_ c pc 18 n = true) : decode c pc = .ok (.ldc n, 2) := dk1 (X := fun m => .ldc m) _ rfl rfl h
theorem dk_iload {c : ByteArray} {pc : Nat} {n : Nat} (h : b1_ c pc 21 n = true) : decode c pc = .ok (.iload n, 2) := dk1 (X := fun m => .iload m) _ rfl rfl h
theorem dk_lload {c : ByteArray} {pc : Nat} {n : Nat} (h : b1_ c pc 22 n = true) : decode c pc = .ok (.lload n, 2) := dk1 (X := fun m => .lload m) _ rfl rfl h
theorem dk_aload {c : ByteArray} {pc : Nat} {n : Nat} (h : b1_ c pc 25 n = true) : decode c pc = .ok (.aload n, 2) := dk1 (X := fun m => .aload m) _ rfl rfl h
theorem dk_istore {c : ByteArray} {pc : Nat} {n : Nat} (h : b1_ c pc 54 n = true) : decode c pc = .ok (.istore n, 2) := dk1 (X := fun m => .istore m) _ rfl rfl h
theorem dk_lstore {c : ByteArray} {pc : Nat} {n : Nat} (h : b1_ c pc 55 n = true) : decode c pc = .ok (.lstore n, 2) := dk1 (X := fun m => .lstore m) _ rfl rfl h
theorem dk_astore {c : ByteArray} {pc : Nat} {n : Nat} (h : b1_ c pc 58 n = true) : decode c pc = .ok (.astore n, 2) := dk1 (X := fun m => .astore m) _ rfl rfl h
theorem dk_ldc_w {c : ByteArray} {pc : Nat} {n : Nat} (h : b2_ c pc 19 n = true) : decode c pc = .ok (.ldc_w n, 3) := dk2 (X := fun m => .ldc_w m) _ rfl rfl h
theorem dk_ldc2_w {c : ByteArray} {pc : Nat} {n : Nat} (h : b2_ c pc 20 n = true) : decode c pc = .ok (.ldc2_w n, 3) := dk2 (X := fun m => .ldc2_w m) _ rfl rfl h
theorem dk_getstatic {c : ByteArray} {pc : Nat} {n : Nat} (h : b2_ c pc 178 n = true) : decode c pc = .ok (.getstatic n, 3) := dk2 (X := fun m => .getstatic m) _ rfl rfl h
theorem dk_getfield {c : ByteArray} {pc : Nat} {n : Nat} (h : b2_ c pc 180 n = true) : decode c pc = .ok (.getfield n, 3) := dk2 (X := fun m => .getfield m) _ rfl rfl h
theorem dk_putfield {c : ByteArray} {pc : Nat} {n : Nat} (h : b2_ c pc 181 n = true) : decode c pc = .ok (.putfield n, 3) := dk2 (X := fun m => .putfield m) _ rfl rfl h
theorem dk_invokevirtual {c : ByteArray} {pc : Nat} {n : Nat} (h : b2_ c pc 182 n = true) : decode c pc = .ok (.invokevirtual n, 3) := dk2 (X := fun m => .invokevirtual m) _ rfl rfl h
theorem dk_invokespecial {c : ByteArray} {pc : Nat} {n : Nat} (h : b2_ c pc 183 n = true) : decode c pc = .ok (.invokespecial n, 3) := dk2 (X := fun m => .invokespecial m) _ rfl rfl h
theorem dk_invokestatic {c : ByteArray} {pc : Nat} {n : Nat} (h : b2_ c pc 184 n = true) : decode c pc = .ok (.invokestatic n, 3) := dk2 (X := fun m => .invokestatic m) _ rfl rfl h
theorem dk_new {c : ByteArray} {pc : Nat} {n : Nat} (h : b2_ c pc 187 n = true) : decode c pc = .ok (.new n, 3) := dk2 (X := fun m => .new m) _ rfl rfl h
theorem dk_anewarray {c : ByteArray} {pc : Nat} {n : Nat} (h : b2_ c pc 189 n = true) : decode c pc = .ok (.anewarray n, 3) := dk2 (X := fun m => .anewarray m) _ rfl rfl h
theorem dk_bipush {c : ByteArray} {pc : Nat} {n : Int} (h : s1_ c pc 16 n = true) : decode c pc = .ok (.bipush n, 2) := ds1 (X := fun m => .bipush m) _ rfl rfl h
theorem dk_sipush {c : ByteArray} {pc : Nat} {n : Int} (h : s2_ c pc 17 n = true) : decode c pc = .ok (.sipush n, 3) := ds2 (X := fun m => .sipush m) _ rfl rfl h
theorem dk_goto {c : ByteArray} {pc : Nat} {n : Int} (h : s2_ c pc 167 n = true) : decode c pc = .ok (.goto n, 3) := ds2 (X := fun m => .goto m) _ rfl rfl h
theorem dk_ifCond_eq {c : ByteArray} {pc : Nat} {n : Int} (h : s2_ c pc 153 n = true) : decode c pc = .ok (.ifCond .eq n, 3) := ds2 (X := fun m => .ifCond .eq m) _ rfl rfl h
theorem dk_ifCond_ne {c : ByteArray} {pc : Nat} {n : Int} (h : s2_ c pc 154 n = true) : decode c pc = .ok (.ifCond .ne n, 3) := ds2 (X := fun m => .ifCond .ne m) _ rfl rfl h
theorem dk_ifCond_lt {c : ByteArray} {pc : Nat} {n : Int} (h : s2_ c pc 155 n = true) : decode c pc = .ok (.ifCond .lt n, 3) := ds2 (X := fun m => .ifCond .lt m) _ rfl rfl h
theorem dk_ifCond_ge {c : ByteArray} {pc : Nat} {n : Int} (h : s2_ c pc 156 n = true) : decode c pc = .ok (.ifCond .ge n, 3) := ds2 (X := fun m => .ifCond .ge m) _ rfl rfl h
theorem dk_ifCond_le {c : ByteArray} {pc : Nat} {n : Int} (h : s2_ c pc 158 n = true) : decode c pc = .ok (.ifCond .le n, 3) := ds2 (X := fun m => .ifCond .le m) _ rfl rfl h
theorem dk_if_icmp_eq {c : ByteArray} {pc : Nat} {n : Int} (h : s2_ c pc 159 n = true) : decode c pc = .ok (.if_icmp .eq n, 3) := ds2 (X := fun m => .if_icmp .eq m) _ rfl rfl h
theorem dk_if_icmp_ne {c : ByteArray} {pc : Nat} {n : Int} (h : s2_ c pc 160 n = true) : decode c pc = .ok (.if_icmp .ne n, 3) := ds2 (X := fun m => .if_icmp .ne m) _ rfl rfl h
theorem dk_if_icmp_lt {c : ByteArray} {pc : Nat} {n : Int} (h : s2_ c pc 161 n = true) : decode c pc = .ok (.if_icmp .lt n, 3) := ds2 (X := fun m => .if_icmp .lt m) _ rfl rfl h
theorem dk_if_icmp_ge {c : ByteArray} {pc : Nat} {n : Int} (h : s2_ c pc 162 n = true) : decode c pc = .ok (.if_icmp .ge n, 3) := ds2 (X := fun m => .if_icmp .ge m) _ rfl rfl h
theorem dk_if_icmp_gt {c : ByteArray} {pc : Nat} {n : Int} (h : s2_ c pc 163 n = true) : decode c pc = .ok (.if_icmp .gt n, 3) := ds2 (X := fun m => .if_icmp .gt m) _ rfl rfl h
theorem dk_if_icmp_le {c : ByteArray} {pc : Nat} {n : Int} (h : s2_ c pc 164 n = true) : decode c pc = .ok (.if_icmp .le n, 3) := ds2 (X := fun m => .if_icmp .le m) _ rfl rfl h
theorem dk_iinc {c : ByteArray} {pc : Nat} {a : Nat} {n : Int} (h : bi_ c pc 132 a n = true) : decode c pc = .ok (.iinc a n, 3) := dki (X := fun a m => .iinc a m) _ rfl rfl h
theorem pb_map {X : va_W} : ∀ (n s : Nat), s + n ≤ X.length → (List.range' s n).map (fun i => X[i]?) = ((X.drop s).take n).map some
  | 0, s, _ => rfl
  | n + 1, s, h => by
    have hs : s < X.length := by omega
    rw [List.range'_succ, List.map_cons, pb_map n (s + 1) (by omega), List.drop_eq_getElem_cons hs, List.take_succ_cons, List.map_cons, List.getElem?_eq_getElem hs]
theorem pb_flat {X : va_W} : ∀ (bl : List (Nat × Nat)), (∀ q ∈ bl, q.1 + q.2 ≤ X.length) → (bl.flatMap (fun q => List.range' q.1 q.2)).map (fun i => X[i]?) = (bl.flatMap (fun q => (X.drop q.1).take q.2)).map some
  | [], _ => rfl
  | q :: bl, h => by
    rw [List.flatMap_cons, List.flatMap_cons, List.map_append, List.map_append, pb_map q.2 q.1 (h q (List.mem_cons_self ..)), pb_flat bl (fun r hr => h r (List.mem_cons_of_mem _ hr))]
theorem pb_le {n : Nat} {X : va_W} {bl : List (Nat × Nat)} (hl : X.length = n) (hb : bl.all (fun q => Nat.ble (q.1 + q.2) n) = true) : ∀ q ∈ bl, q.1 + q.2 ≤ X.length :=
  fun q hq => by rw [hl]; exact Nat.le_of_ble_eq_true (List.all_eq_true.mp hb q hq)
theorem pB_P {D : va_G} {cl : List vw_C} {X cx pl : va_W} {H : Heap} (h : va_P D cl (X ++ pl) H) (n : Nat) (bl : List (Nat × Nat)) (hl : X.length = n) (hb : bl.all (fun q => Nat.ble (q.1 + q.2) n) = true) (e : bl.flatMap (fun q => (X.drop q.1).take q.2) = cx) : va_P D cl (cx ++ pl) H :=
  h.part (bl.flatMap (fun q => List.range' q.1 q.2)) (by rw [pb_flat bl (pb_le hl hb), e])
theorem pB_D {A : Nat → Prop} {X cx pl : va_W} (h : va_D A (X ++ pl)) (n : Nat) (bl : List (Nat × Nat)) (hn : va_nd (bl.flatMap (fun q => List.range' q.1 q.2)) = true) (hl : X.length = n) (hb : bl.all (fun q => Nat.ble (q.1 + q.2) n) = true) (e : bl.flatMap (fun q => (X.drop q.1).take q.2) = cx) : va_D A (cx ++ pl) :=
  h.part (bl.flatMap (fun q => List.range' q.1 q.2)) hn (by rw [pb_flat bl (pb_le hl hb), e])
theorem pB_P0 {D : va_G} {cl : List vw_C} {X cx : va_W} {H : Heap} (h : va_P D cl X H) (n : Nat) (bl : List (Nat × Nat)) (hl : X.length = n) (hb : bl.all (fun q => Nat.ble (q.1 + q.2) n) = true) (e : bl.flatMap (fun q => (X.drop q.1).take q.2) = cx) : va_P D cl cx H := by
  have h1 : va_P D cl (X ++ []) H := by rw [List.append_nil]; exact h
  have h2 := pB_P h1 n bl hl hb e
  rw [List.append_nil] at h2; exact h2
theorem pB_D0 {A : Nat → Prop} {X cx : va_W} (h : va_D A X) (n : Nat) (bl : List (Nat × Nat)) (hn : va_nd (bl.flatMap (fun q => List.range' q.1 q.2)) = true) (hl : X.length = n) (hb : bl.all (fun q => Nat.ble (q.1 + q.2) n) = true) (e : bl.flatMap (fun q => (X.drop q.1).take q.2) = cx) : va_D A cx := by
  have h1 : va_D A (X ++ []) := by rw [List.append_nil]; exact h
  have h2 := pB_D h1 n bl hn hl hb e
  rw [List.append_nil] at h2; exact h2
