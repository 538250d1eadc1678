/-! DECODING, cheaply: by the bytes, some rows at a time -/
def dq (x : Except DecodeError (Instr × Nat)) (I : Instr) (n : Nat) : Bool := match x with | .ok (i, m) => decide (i = I) && decide (m = n) | .error _ => false
theorem d_of {c : ByteArray} {pc n : Nat} {I : Instr} (h : dq (decode c pc) I n = true) : decode c pc = .ok (I, n) := by
  revert h
  cases decode c pc with
  | error e => intro h; exact Bool.noConfusion h
  | ok p =>
    obtain ⟨i, m⟩ := p
    intro h
    have h' : (decide (i = I) && decide (m = n)) = true := h
    rw [Bool.and_eq_true, decide_eq_true_eq, decide_eq_true_eq] at h'
    rw [h'.1, h'.2]
theorem dl_u1 {c : ByteArray} {pc : Nat} {a : UInt8} {r : List UInt8} (h : c.data.toList.drop pc = a :: r) : (Reader.u1 : Decoder Nat) c pc = .ok (a.toNat, pc + 1) ∧ c.data.toList.drop (pc + 1) = r := by
  have hl : pc < c.data.toList.length := by
    by_cases q : pc < c.data.toList.length
    · exact q
    · rw [List.drop_eq_nil_of_le (by omega)] at h
      cases h
  have e := List.drop_eq_getElem_cons hl
  rw [h] at e
  obtain ⟨e1, e2⟩ := List.cons.inj e
  refine ⟨?_, e2.symm⟩
  have hl' : pc < c.size := hl
  show (if h : pc < c.size then (do set (pc + 1); Pure.pure c[pc].toNat : Decoder Nat) else throw (HasTruncated.truncated pc)) c pc = _
  rw [dif_pos hl', e1]
  rfl

/-- behind the first byte -/
theorem dl_op {c : ByteArray} {pc op : Nat} (hu : (Reader.u1 : Decoder Nat) c pc = .ok (op, pc + 1)) : ∃ K : Nat → Decoder Instr, decode c pc = Except.bind (K op c (pc + 1)) (fun x => .ok (x.1, x.2 - pc)) ∧ K 1 = Pure.pure Instr.aconst_null ∧ K 2 = Pure.pure (Instr.iconst (-1)) ∧ K 3 = Pure.pure (Instr.iconst 0) ∧ K 4 = Pure.pure (Instr.iconst 1) ∧ K 5 = Pure.pure (Instr.iconst 2) ∧ K 6 = Pure.pure (Instr.iconst 3) ∧ K 7 = Pure.pure (Instr.iconst 4) ∧ K 8 = Pure.pure (Instr.iconst 5) ∧ K 9 = Pure.pure (Instr.lconst 0) ∧ K 10 = Pure.pure (Instr.lconst 1) ∧ K 26 = Pure.pure (Instr.iload_n 0) ∧ K 27 = Pure.pure (Instr.iload_n 1) ∧ K 28 = Pure.pure (Instr.iload_n 2) ∧ K 29 = Pure.pure (Instr.iload_n 3) ∧ K 30 = Pure.pure (Instr.lload_n 0) ∧ K 31 = Pure.pure (Instr.lload_n 1) ∧ K 32 = Pure.pure (Instr.lload_n 2) ∧ K 33 = Pure.pure (Instr.lload_n 3) ∧ K 42 = Pure.pure (Instr.aload_n 0) ∧ K 43 = Pure.pure (Instr.aload_n 1) ∧ K 44 = Pure.pure (Instr.aload_n 2) ∧ K 45 = Pure.pure (Instr.aload_n 3) ∧ K 46 = Pure.pure Instr.iaload ∧ K 47 = Pure.pure Instr.laload ∧ K 50 = Pure.pure Instr.aaload ∧ K 51 = Pure.pure Instr.baload ∧ K 59 = Pure.pure (Instr.istore_n 0) ∧ K 60 = Pure.pure (Instr.istore_n 1) ∧ K 61 = Pure.pure (Instr.istore_n 2) ∧ K 62 = Pure.pure (Instr.istore_n 3) ∧ K 63 = Pure.pure (Instr.lstore_n 0) ∧ K 64 = Pure.pure (Instr.lstore_n 1) ∧ K 65 = Pure.pure (Instr.lstore_n 2) ∧ K 66 = Pure.pure (Instr.lstore_n 3) ∧ K 75 = Pure.pure (Instr.astore_n 0) ∧ K 76 = Pure.pure (Instr.astore_n 1) ∧ K 77 = Pure.pure (Instr.astore_n 2) ∧ K 78 = Pure.pure (Instr.astore_n 3) ∧ K 79 = Pure.pure Instr.iastore ∧ K 80 = Pure.pure Instr.lastore ∧ K 83 = Pure.pure Instr.aastore ∧ K 84 = Pure.pure Instr.bastore ∧ K 87 = Pure.pure Instr.pop ∧ K 88 = Pure.pure Instr.pop2 ∧ K 89 = Pure.pure Instr.dup ∧ K 92 = Pure.pure Instr.dup2 ∧ K 96 = Pure.pure Instr.iadd ∧ K 97 = Pure.pure Instr.ladd ∧ K 100 = Pure.pure Instr.isub ∧ K 101 = Pure.pure Instr.lsub ∧ K 104 = Pure.pure Instr.imul ∧ K 105 = Pure.pure Instr.lmul ∧ K 108 = Pure.pure Instr.idiv ∧ K 109 = Pure.pure Instr.ldiv ∧ K 112 = Pure.pure Instr.irem ∧ K 113 = Pure.pure Instr.lrem ∧ K 116 = Pure.pure Instr.ineg ∧ K 117 = Pure.pure Instr.lneg ∧ K 120 = Pure.pure Instr.ishl ∧ K 121 = Pure.pure Instr.lshl ∧ K 122 = Pure.pure Instr.ishr ∧ K 126 = Pure.pure Instr.iand ∧ K 127 = Pure.pure Instr.land ∧ K 128 = Pure.pure Instr.ior ∧ K 129 = Pure.pure Instr.lor ∧ K 130 = Pure.pure Instr.ixor ∧ K 133 = Pure.pure Instr.i2l ∧ K 136 = Pure.pure Instr.l2i ∧ K 145 = Pure.pure Instr.i2b ∧ K 146 = Pure.pure Instr.i2c ∧ K 147 = Pure.pure Instr.i2s ∧ K 148 = Pure.pure Instr.lcmp ∧ K 172 = Pure.pure Instr.ireturn ∧ K 173 = Pure.pure Instr.lreturn ∧ K 176 = Pure.pure Instr.areturn ∧ K 177 = Pure.pure Instr.return_ ∧ K 190 = Pure.pure Instr.arraylength ∧ K 191 = Pure.pure Instr.athrow ∧ K 18 = (do let x ← Reader.u1; Pure.pure (Instr.ldc x)) ∧ K 21 = (do let x ← Reader.u1; Pure.pure (Instr.iload x)) ∧ K 22 = (do let x ← Reader.u1; Pure.pure (Instr.lload x)) ∧ K 25 = (do let x ← Reader.u1; Pure.pure (Instr.aload x)) ∧ K 54 = (do let x ← Reader.u1; Pure.pure (Instr.istore x)) ∧ K 55 = (do let x ← Reader.u1; Pure.pure (Instr.lstore x)) ∧ K 58 = (do let x ← Reader.u1; Pure.pure (Instr.astore x)) ∧ K 16 = (do let x ← Reader.s1; Pure.pure (Instr.bipush x)) ∧ K 19 = (do let x ← Reader.u2; Pure.pure (Instr.ldc_w x)) ∧ K 20 = (do let x ← Reader.u2; Pure.pure (Instr.ldc2_w x)) ∧ K 178 = (do let x ← Reader.u2; Pure.pure (Instr.getstatic x)) ∧ K 180 = (do let x ← Reader.u2; Pure.pure (Instr.getfield x)) ∧ K 181 = (do let x ← Reader.u2; Pure.pure (Instr.putfield x)) ∧ K 182 = (do let x ← Reader.u2; Pure.pure (Instr.invokevirtual x)) ∧ K 183 = (do let x ← Reader.u2; Pure.pure (Instr.invokespecial x)) ∧ K 184 = (do let x ← Reader.u2; Pure.pure (Instr.invokestatic x)) ∧ K 187 = (do let x ← Reader.u2; Pure.pure (Instr.new x)) ∧ K 189 = (do let x ← Reader.u2; Pure.pure (Instr.anewarray x)) ∧ K 17 = (do let x ← Reader.s2; Pure.pure (Instr.sipush x)) ∧ K 167 = (do let x ← Reader.s2; Pure.pure (Instr.goto x)) ∧ K 198 = (do let x ← Reader.s2; Pure.pure (Instr.ifnull x)) ∧ K 199 = (do let x ← Reader.s2; Pure.pure (Instr.ifnonnull x)) ∧ K 153 = (do let x ← Reader.s2; Pure.pure (Instr.ifCond Jvm.ClassFile.Cond.eq x)) ∧ K 159 = (do let x ← Reader.s2; Pure.pure (Instr.if_icmp Jvm.ClassFile.Cond.eq x)) ∧ K 154 = (do let x ← Reader.s2; Pure.pure (Instr.ifCond Jvm.ClassFile.Cond.ne x)) ∧ K 160 = (do let x ← Reader.s2; Pure.pure (Instr.if_icmp Jvm.ClassFile.Cond.ne x)) ∧ K 155 = (do let x ← Reader.s2; Pure.pure (Instr.ifCond Jvm.ClassFile.Cond.lt x)) ∧ K 161 = (do let x ← Reader.s2; Pure.pure (Instr.if_icmp Jvm.ClassFile.Cond.lt x)) ∧ K 156 = (do let x ← Reader.s2; Pure.pure (Instr.ifCond Jvm.ClassFile.Cond.ge x)) ∧ K 162 = (do let x ← Reader.s2; Pure.pure (Instr.if_icmp Jvm.ClassFile.Cond.ge x)) ∧ K 157 = (do let x ← Reader.s2; Pure.pure (Instr.ifCond Jvm.ClassFile.Cond.gt x)) ∧ K 163 = (do let x ← Reader.s2; Pure.pure (Instr.if_icmp Jvm.ClassFile.Cond.gt x)) ∧ K 158 = (do let x ← Reader.s2; Pure.pure (Instr.ifCond Jvm.ClassFile.Cond.le x)) ∧ K 164 = (do let x ← Reader.s2; Pure.pure (Instr.if_icmp Jvm.ClassFile.Cond.le x)) ∧ K 132 = (do let x ← Reader.u1; let y ← Reader.s1; Pure.pure (Instr.iinc x y)) := by
  have key : ∀ L : Nat → Decoder Instr, Decoder.instr pc = (Reader.u1 >>= L) → decode c pc = Except.bind (L op c (pc + 1)) (fun x => .ok (x.1, x.2 - pc)) := fun L hL => by
    show Except.bind (Decoder.instr pc c pc) (fun x => Except.ok (x.1, x.2 - pc)) = _
    rw [hL]
    show Except.bind (Except.bind ((Reader.u1 : Decoder Nat) c pc) (fun p => L p.1 c p.2)) (fun x => Except.ok (x.1, x.2 - pc)) = _
    rw [hu]
    rfl
  refine ⟨_, key _ (by unfold Decoder.instr; rfl), ?_⟩
  exact ⟨rfl, rfl, rfl, rfl, rfl, rfl, rfl, rfl, rfl, rfl, rfl, rfl, rfl, rfl, rfl, rfl, rfl, rfl, rfl, rfl, rfl, rfl, rfl, rfl, rfl, rfl, rfl, rfl, rfl, rfl, rfl, rfl, rfl, rfl, rfl, rfl, rfl, rfl, rfl, rfl, rfl, rfl, rfl, rfl, rfl, rfl, rfl, rfl, rfl, rfl, rfl, rfl, rfl, rfl, rfl, rfl, rfl, rfl, rfl, rfl, rfl, rfl, rfl, rfl, rfl, rfl, rfl, rfl, rfl, rfl, rfl, rfl, rfl, rfl, rfl, rfl, rfl, rfl, rfl, rfl, rfl, rfl, rfl, rfl, rfl, rfl, rfl, rfl, rfl, rfl, rfl, rfl, rfl, rfl, rfl, rfl, rfl, rfl, rfl, rfl, rfl, rfl, rfl, rfl, rfl, rfl, rfl, rfl, rfl, rfl, rfl, rfl, rfl⟩

theorem dl_u2 {c : ByteArray} {pc : Nat} {a b : UInt8} {r : List UInt8} (h : c.data.toList.drop pc = a :: b :: r) : (Reader.u2 : Decoder Nat) c pc = .ok (a.toNat * 256 + b.toNat, pc + 2) := by
  obtain ⟨u, d1⟩ := dl_u1 h
  obtain ⟨v, d2⟩ := dl_u1 d1
  show Except.bind ((Reader.u1 : Decoder Nat) c pc) (fun x => Except.bind ((Reader.u1 : Decoder Nat) c x.2) (fun y => Except.ok (x.1 * 256 + y.1, y.2))) = _
  rw [u]
  show Except.bind ((Reader.u1 : Decoder Nat) c (pc + 1)) (fun y => Except.ok (a.toNat * 256 + y.1, y.2)) = _
  rw [v]
  rfl
theorem dl_s2 {c : ByteArray} {pc : Nat} {a b : UInt8} {r : List UInt8} (h : c.data.toList.drop pc = a :: b :: r) : (Reader.s2 : Decoder Int) c pc = .ok (Reader.signed 16 (a.toNat * 256 + b.toNat), pc + 2) := by
  show Except.bind ((Reader.u2 : Decoder Nat) c pc) (fun x => Except.ok (Reader.signed 16 x.1, x.2)) = _
  rw [dl_u2 h]
  rfl

theorem dl_s1 {c : ByteArray} {pc : Nat} {a : UInt8} {r : List UInt8} (h : c.data.toList.drop pc = a :: r) : (Reader.s1 : Decoder Int) c pc = .ok (Reader.signed 8 a.toNat, pc + 1) := by
  show Except.bind ((Reader.u1 : Decoder Nat) c pc) (fun x => Except.ok (Reader.signed 8 x.1, x.2)) = _
  rw [(dl_u1 h).1]
  rfl
def dk_c0 (a : UInt8) (n k : Nat) : Bool := Nat.beq a.toNat k && Nat.beq n 1
def dk_c1 (a : UInt8) (r : List UInt8) (n k i : Nat) : Bool := Nat.beq a.toNat k && Nat.beq n 2 && (match r with | b :: _ => Nat.beq b.toNat i | [] => false)
def dk_c2 (a : UInt8) (r : List UInt8) (n k i : Nat) : Bool := Nat.beq a.toNat k && Nat.beq n 3 && (match r with | b :: d :: _ => Nat.beq (b.toNat * 256 + d.toNat) i | _ => false)
def dk_s1 (a : UInt8) (r : List UInt8) (n k : Nat) (i : Int) : Bool := Nat.beq a.toNat k && Nat.beq n 2 && (match r with | b :: _ => decide (Reader.signed 8 b.toNat = i) | [] => false)
def dk_s2 (a : UInt8) (r : List UInt8) (n k : Nat) (i : Int) : Bool := Nat.beq a.toNat k && Nat.beq n 3 && (match r with | b :: d :: _ => decide (Reader.signed 16 (b.toNat * 256 + d.toNat) = i) | _ => false)
def dk_us (a : UInt8) (r : List UInt8) (n k i : Nat) (j : Int) : Bool := Nat.beq a.toNat k && Nat.beq n 3 && (match r with | b :: d :: _ => Nat.beq b.toNat i && decide (Reader.signed 8 d.toNat = j) | _ => false)
def dk_ic (a : UInt8) (n : Nat) (i : Int) : Bool := decide (((a.toNat : Nat) : Int) = i + 3) && decide (2 ≤ a.toNat) && decide (a.toNat ≤ 8) && Nat.beq n 1
def dk_co : Jvm.ClassFile.Cond → Nat
  | .eq => 0
  | .ne => 1
  | .lt => 2
  | .ge => 3
  | .gt => 4
  | .le => 5
section
variable {c : ByteArray} {pc n : Nat} {a : UInt8} {r : List UInt8} {K : Nat → Decoder Instr}
theorem dk_0 {I : Instr} {k : Nat} (e : decode c pc = Except.bind (K a.toNat c (pc + 1)) (fun x => .ok (x.1, x.2 - pc))) (f : K k = Pure.pure I) (h : dk_c0 a n k = true) : decode c pc = .ok (I, n) := by
  unfold dk_c0 at h
  rw [Bool.and_eq_true] at h
  have h1 : a.toNat = k := Nat.eq_of_beq_eq_true h.1
  have h2 : n = 1 := Nat.eq_of_beq_eq_true h.2
  rw [e, h1, f, h2]
  show Except.ok (I, pc + 1 - pc) = _
  rw [Nat.add_sub_cancel_left]
theorem dk_1 {k : Nat} {i : Nat} {f : Nat → Instr} (e : decode c pc = Except.bind (K a.toNat c (pc + 1)) (fun x => .ok (x.1, x.2 - pc))) (hk : K k = (do let x ← Reader.u1; Pure.pure (f x))) (d1 : c.data.toList.drop (pc + 1) = r) (h : dk_c1 a r n k i = true) : decode c pc = .ok (f i, n) := by
  unfold dk_c1 at h
  cases r with
  | nil =>
    have h' : (Nat.beq a.toNat k && Nat.beq n 2 && false) = true := h
    rw [Bool.and_false] at h'
    cases h'
  | cons b r =>
    have h' : (Nat.beq a.toNat k && Nat.beq n 2 && Nat.beq b.toNat i) = true := h
    rw [Bool.and_eq_true, Bool.and_eq_true] at h'
    have h1 : a.toNat = k := Nat.eq_of_beq_eq_true h'.1.1
    have h2 : n = 2 := Nat.eq_of_beq_eq_true h'.1.2
    have h3 : b.toNat = i := Nat.eq_of_beq_eq_true h'.2
    have w := (dl_u1 d1).1
    rw [e, h1, hk]
    show Except.bind (Except.bind ((Reader.u1 : Decoder Nat) c (pc + 1)) (fun p => Except.ok (f p.1, p.2))) (fun x => Except.ok (x.1, x.2 - pc)) = _
    rw [w, h3]
    show Except.ok (f i, pc + 2 - pc) = _
    rw [Nat.add_sub_cancel_left, h2]
theorem dk_1s {k : Nat} {i : Int} {f : Int → Instr} (e : decode c pc = Except.bind (K a.toNat c (pc + 1)) (fun x => .ok (x.1, x.2 - pc))) (hk : K k = (do let x ← Reader.s1; Pure.pure (f x))) (d1 : c.data.toList.drop (pc + 1) = r) (h : dk_s1 a r n k i = true) : decode c pc = .ok (f i, n) := by
  unfold dk_s1 at h
  cases r with
  | nil =>
    have h' : (Nat.beq a.toNat k && Nat.beq n 2 && false) = true := h
    rw [Bool.and_false] at h'
    cases h'
  | cons b r =>
    have h' : (Nat.beq a.toNat k && Nat.beq n 2 && decide (Reader.signed 8 b.toNat = i)) = true := h
    rw [Bool.and_eq_true, Bool.and_eq_true] at h'
    have h1 : a.toNat = k := Nat.eq_of_beq_eq_true h'.1.1
    have h2 : n = 2 := Nat.eq_of_beq_eq_true h'.1.2
    have h3 : Reader.signed 8 b.toNat = i := of_decide_eq_true h'.2
    have w := dl_s1 d1
    rw [e, h1, hk]
    show Except.bind (Except.bind ((Reader.s1 : Decoder Int) c (pc + 1)) (fun p => Except.ok (f p.1, p.2))) (fun x => Except.ok (x.1, x.2 - pc)) = _
    rw [w, h3]
    show Except.ok (f i, pc + 2 - pc) = _
    rw [Nat.add_sub_cancel_left, h2]
theorem dk_2 {k : Nat} {i : Nat} {f : Nat → Instr} (e : decode c pc = Except.bind (K a.toNat c (pc + 1)) (fun x => .ok (x.1, x.2 - pc))) (hk : K k = (do let x ← Reader.u2; Pure.pure (f x))) (d1 : c.data.toList.drop (pc + 1) = r) (h : dk_c2 a r n k i = true) : decode c pc = .ok (f i, n) := by
  unfold dk_c2 at h
  cases r with
  | nil =>
    have h' : (Nat.beq a.toNat k && Nat.beq n 3 && false) = true := h
    rw [Bool.and_false] at h'
    cases h'
  | cons b r =>
    cases r with
    | nil =>
      have h' : (Nat.beq a.toNat k && Nat.beq n 3 && false) = true := h
      rw [Bool.and_false] at h'
      cases h'
    | cons d r =>
      have h' : (Nat.beq a.toNat k && Nat.beq n 3 && Nat.beq (b.toNat * 256 + d.toNat) i) = true := h
      rw [Bool.and_eq_true, Bool.and_eq_true] at h'
      have h1 : a.toNat = k := Nat.eq_of_beq_eq_true h'.1.1
      have h2 : n = 3 := Nat.eq_of_beq_eq_true h'.1.2
      have h3 : b.toNat * 256 + d.toNat = i := Nat.eq_of_beq_eq_true h'.2
      have w := dl_u2 d1
      rw [e, h1, hk]
      show Except.bind (Except.bind ((Reader.u2 : Decoder Nat) c (pc + 1)) (fun p => Except.ok (f p.1, p.2))) (fun x => Except.ok (x.1, x.2 - pc)) = _
      rw [w, h3]
      show Except.ok (f i, pc + 3 - pc) = _
      rw [Nat.add_sub_cancel_left, h2]
theorem dk_2s {k : Nat} {i : Int} {f : Int → Instr} (e : decode c pc = Except.bind (K a.toNat c (pc + 1)) (fun x => .ok (x.1, x.2 - pc))) (hk : K k = (do let x ← Reader.s2; Pure.pure (f x))) (d1 : c.data.toList.drop (pc + 1) = r) (h : dk_s2 a r n k i = true) : decode c pc = .ok (f i, n) := by
  unfold dk_s2 at h
  cases r with
  | nil =>
    have h' : (Nat.beq a.toNat k && Nat.beq n 3 && false) = true := h
    rw [Bool.and_false] at h'
    cases h'
  | cons b r =>
    cases r with
    | nil =>
      have h' : (Nat.beq a.toNat k && Nat.beq n 3 && false) = true := h
      rw [Bool.and_false] at h'
      cases h'
    | cons d r =>
      have h' : (Nat.beq a.toNat k && Nat.beq n 3 && decide (Reader.signed 16 (b.toNat * 256 + d.toNat) = i)) = true := h
      rw [Bool.and_eq_true, Bool.and_eq_true] at h'
      have h1 : a.toNat = k := Nat.eq_of_beq_eq_true h'.1.1
      have h2 : n = 3 := Nat.eq_of_beq_eq_true h'.1.2
      have h3 : Reader.signed 16 (b.toNat * 256 + d.toNat) = i := of_decide_eq_true h'.2
      have w := dl_s2 d1
      rw [e, h1, hk]
      show Except.bind (Except.bind ((Reader.s2 : Decoder Int) c (pc + 1)) (fun p => Except.ok (f p.1, p.2))) (fun x => Except.ok (x.1, x.2 - pc)) = _
      rw [w, h3]
      show Except.ok (f i, pc + 3 - pc) = _
      rw [Nat.add_sub_cancel_left, h2]
theorem dk_u {k i : Nat} {j : Int} (e : decode c pc = Except.bind (K a.toNat c (pc + 1)) (fun x => .ok (x.1, x.2 - pc))) (hk : K k = (do let x ← Reader.u1; let y ← Reader.s1; Pure.pure (Instr.iinc x y))) (d1 : c.data.toList.drop (pc + 1) = r) (h : dk_us a r n k i j = true) : decode c pc = .ok (Instr.iinc i j, n) := by
  unfold dk_us at h
  cases r with
  | nil =>
    have h' : (Nat.beq a.toNat k && Nat.beq n 3 && false) = true := h
    rw [Bool.and_false] at h'
    cases h'
  | cons b r =>
    cases r with
    | nil =>
      have h' : (Nat.beq a.toNat k && Nat.beq n 3 && false) = true := h
      rw [Bool.and_false] at h'
      cases h'
    | cons d r =>
      have h' : (Nat.beq a.toNat k && Nat.beq n 3 && (Nat.beq b.toNat i && decide (Reader.signed 8 d.toNat = j))) = true := h
      rw [Bool.and_eq_true, Bool.and_eq_true, Bool.and_eq_true] at h'
      have h1 : a.toNat = k := Nat.eq_of_beq_eq_true h'.1.1
      have h2 : n = 3 := Nat.eq_of_beq_eq_true h'.1.2
      have h3 : b.toNat = i := Nat.eq_of_beq_eq_true h'.2.1
      have h4 : Reader.signed 8 d.toNat = j := of_decide_eq_true h'.2.2
      obtain ⟨w1, d2⟩ := dl_u1 d1
      have w2 := dl_s1 d2
      rw [e, h1, hk]
      show Except.bind (Except.bind ((Reader.u1 : Decoder Nat) c (pc + 1)) (fun p => Except.bind ((Reader.s1 : Decoder Int) c p.2) (fun q => Except.ok (Instr.iinc p.1 q.1, q.2)))) (fun x => Except.ok (x.1, x.2 - pc)) = _
      rw [w1]
      show Except.bind (Except.bind ((Reader.s1 : Decoder Int) c (pc + 1 + 1)) (fun q => Except.ok (Instr.iinc b.toNat q.1, q.2))) (fun x => Except.ok (x.1, x.2 - pc)) = _
      rw [w2, h3, h4]
      show Except.ok (Instr.iinc i j, pc + 3 - pc) = _
      rw [Nat.add_sub_cancel_left, h2]
end
def dk (I : Instr) (n : Nat) (a : UInt8) (r : List UInt8) : Bool :=
  match I with
  | .aload_n k => dk_c0 a n (42 + k.val)
  | .iload_n k => dk_c0 a n (26 + k.val)
  | .lload_n k => dk_c0 a n (30 + k.val)
  | .istore_n k => dk_c0 a n (59 + k.val)
  | .lstore_n k => dk_c0 a n (63 + k.val)
  | .astore_n k => dk_c0 a n (75 + k.val)
  | .lconst k => dk_c0 a n (9 + k.val)
  | .iconst i => dk_ic a n i
  | .aconst_null => dk_c0 a n 1
  | .iaload => dk_c0 a n 46
  | .laload => dk_c0 a n 47
  | .aaload => dk_c0 a n 50
  | .baload => dk_c0 a n 51
  | .iastore => dk_c0 a n 79
  | .lastore => dk_c0 a n 80
  | .aastore => dk_c0 a n 83
  | .bastore => dk_c0 a n 84
  | .pop => dk_c0 a n 87
  | .pop2 => dk_c0 a n 88
  | .dup => dk_c0 a n 89
  | .dup2 => dk_c0 a n 92
  | .iadd => dk_c0 a n 96
  | .ladd => dk_c0 a n 97
  | .isub => dk_c0 a n 100
  | .lsub => dk_c0 a n 101
  | .imul => dk_c0 a n 104
  | .lmul => dk_c0 a n 105
  | .idiv => dk_c0 a n 108
  | .ldiv => dk_c0 a n 109
  | .irem => dk_c0 a n 112
  | .lrem => dk_c0 a n 113
  | .ineg => dk_c0 a n 116
  | .lneg => dk_c0 a n 117
  | .ishl => dk_c0 a n 120
  | .lshl => dk_c0 a n 121
  | .ishr => dk_c0 a n 122
  | .iand => dk_c0 a n 126
  | .land => dk_c0 a n 127
  | .ior => dk_c0 a n 128
  | .lor => dk_c0 a n 129
  | .ixor => dk_c0 a n 130
  | .i2l => dk_c0 a n 133
  | .l2i => dk_c0 a n 136
  | .i2b => dk_c0 a n 145
  | .i2c => dk_c0 a n 146
  | .i2s => dk_c0 a n 147
  | .lcmp => dk_c0 a n 148
  | .ireturn => dk_c0 a n 172
  | .lreturn => dk_c0 a n 173
  | .areturn => dk_c0 a n 176
  | .return_ => dk_c0 a n 177
  | .arraylength => dk_c0 a n 190
  | .athrow => dk_c0 a n 191
  | .ldc i => dk_c1 a r n 18 i
  | .iload i => dk_c1 a r n 21 i
  | .lload i => dk_c1 a r n 22 i
  | .aload i => dk_c1 a r n 25 i
  | .istore i => dk_c1 a r n 54 i
  | .lstore i => dk_c1 a r n 55 i
  | .astore i => dk_c1 a r n 58 i
  | .bipush i => dk_s1 a r n 16 i
  | .ldc_w i => dk_c2 a r n 19 i
  | .ldc2_w i => dk_c2 a r n 20 i
  | .getstatic i => dk_c2 a r n 178 i
  | .getfield i => dk_c2 a r n 180 i
  | .putfield i => dk_c2 a r n 181 i
  | .invokevirtual i => dk_c2 a r n 182 i
  | .invokespecial i => dk_c2 a r n 183 i
  | .invokestatic i => dk_c2 a r n 184 i
  | .new i => dk_c2 a r n 187 i
  | .anewarray i => dk_c2 a r n 189 i
  | .sipush i => dk_s2 a r n 17 i
  | .goto i => dk_s2 a r n 167 i
  | .ifnull i => dk_s2 a r n 198 i
  | .ifnonnull i => dk_s2 a r n 199 i
  | .ifCond d i => dk_s2 a r n (153 + dk_co d) i
  | .if_icmp d i => dk_s2 a r n (159 + dk_co d) i
  | .iinc i j => dk_us a r n 132 i j
  | _ => false
def dks (I : Instr) (n : Nat) : List UInt8 → Bool
  | [] => false
  | a :: r => dk I n a r
theorem dks_ok {c : ByteArray} {pc n : Nat} {I : Instr} (h : dks I n (c.data.toList.drop pc) = true) : decode c pc = .ok (I, n) := by
  revert h
  cases hD : c.data.toList.drop pc with
  | nil => intro h; exact absurd h Bool.false_ne_true
  | cons a r =>
    intro h
    obtain ⟨u, d1⟩ := dl_u1 hD
    obtain ⟨K, e, k1, k2, k3, k4, k5, k6, k7, k8, k9, k10, k26, k27, k28, k29, k30, k31, k32, k33, k42, k43, k44, k45, k46, k47, k50, k51, k59, k60, k61, k62, k63, k64, k65, k66, k75, k76, k77, k78, k79, k80, k83, k84, k87, k88, k89, k92, k96, k97, k100, k101, k104, k105, k108, k109, k112, k113, k116, k117, k120, k121, k122, k126, k127, k128, k129, k130, k133, k136, k145, k146, k147, k148, k172, k173, k176, k177, k190, k191, k18, k21, k22, k25, k54, k55, k58, k16, k19, k20, k178, k180, k181, k182, k183, k184, k187, k189, k17, k167, k198, k199, k153, k159, k154, k160, k155, k161, k156, k162, k157, k163, k158, k164, k132⟩ := dl_op u
    have f42 : ∀ k : Fin 4, K (42 + k.val) = Pure.pure (Instr.aload_n k) := fun k => by
      match k with
      | 0 => exact k42
      | 1 => exact k43
      | 2 => exact k44
      | 3 => exact k45
    have f26 : ∀ k : Fin 4, K (26 + k.val) = Pure.pure (Instr.iload_n k) := fun k => by
      match k with
      | 0 => exact k26
      | 1 => exact k27
      | 2 => exact k28
      | 3 => exact k29
    have f30 : ∀ k : Fin 4, K (30 + k.val) = Pure.pure (Instr.lload_n k) := fun k => by
      match k with
      | 0 => exact k30
      | 1 => exact k31
      | 2 => exact k32
      | 3 => exact k33
    have f59 : ∀ k : Fin 4, K (59 + k.val) = Pure.pure (Instr.istore_n k) := fun k => by
      match k with
      | 0 => exact k59
      | 1 => exact k60
      | 2 => exact k61
      | 3 => exact k62
    have f63 : ∀ k : Fin 4, K (63 + k.val) = Pure.pure (Instr.lstore_n k) := fun k => by
      match k with
      | 0 => exact k63
      | 1 => exact k64
      | 2 => exact k65
      | 3 => exact k66
    have f75 : ∀ k : Fin 4, K (75 + k.val) = Pure.pure (Instr.astore_n k) := fun k => by
      match k with
      | 0 => exact k75
      | 1 => exact k76
      | 2 => exact k77
      | 3 => exact k78
    have f9 : ∀ k : Fin 2, K (9 + k.val) = Pure.pure (Instr.lconst k) := fun k => by
      match k with
      | 0 => exact k9
      | 1 => exact k10
    have fc : ∀ d : Jvm.ClassFile.Cond, K (153 + dk_co d) = (do let x ← Reader.s2; Pure.pure (Instr.ifCond d x)) := fun d => by
      cases d with
      | eq => exact k153
      | ne => exact k154
      | lt => exact k155
      | ge => exact k156
      | gt => exact k157
      | le => exact k158
    have fi : ∀ d : Jvm.ClassFile.Cond, K (159 + dk_co d) = (do let x ← Reader.s2; Pure.pure (Instr.if_icmp d x)) := fun d => by
      cases d with
      | eq => exact k159
      | ne => exact k160
      | lt => exact k161
      | ge => exact k162
      | gt => exact k163
      | le => exact k164
    cases I with
    | aload_n k => exact dk_0 e (f42 k) h
    | iload_n k => exact dk_0 e (f26 k) h
    | lload_n k => exact dk_0 e (f30 k) h
    | istore_n k => exact dk_0 e (f59 k) h
    | lstore_n k => exact dk_0 e (f63 k) h
    | astore_n k => exact dk_0 e (f75 k) h
    | lconst k => exact dk_0 e (f9 k) h
    | iconst i =>
      have h' : (decide (((a.toNat : Nat) : Int) = i + 3) && decide (2 ≤ a.toNat) && decide (a.toNat ≤ 8) && Nat.beq n 1) = true := h
      rw [Bool.and_eq_true, Bool.and_eq_true, Bool.and_eq_true, decide_eq_true_eq, decide_eq_true_eq, decide_eq_true_eq] at h'
      obtain ⟨⟨⟨h1, h2⟩, h3⟩, h4⟩ := h'
      have h5 : dk_c0 a n a.toNat = true := by
        unfold dk_c0
        rw [h4, Nat.beq_refl]
        rfl
      rcases (by omega : a.toNat = 2 ∨ a.toNat = 3 ∨ a.toNat = 4 ∨ a.toNat = 5 ∨ a.toNat = 6 ∨ a.toNat = 7 ∨ a.toNat = 8) with q | q | q | q | q | q | q
      · rw [q] at h1 h5
        have e9 : i = -1 := by omega
        subst e9
        exact dk_0 e k2 h5
      · rw [q] at h1 h5
        have e9 : i = 0 := by omega
        subst e9
        exact dk_0 e k3 h5
      · rw [q] at h1 h5
        have e9 : i = 1 := by omega
        subst e9
        exact dk_0 e k4 h5
      · rw [q] at h1 h5
        have e9 : i = 2 := by omega
        subst e9
        exact dk_0 e k5 h5
      · rw [q] at h1 h5
        have e9 : i = 3 := by omega
        subst e9
        exact dk_0 e k6 h5
      · rw [q] at h1 h5
        have e9 : i = 4 := by omega
        subst e9
        exact dk_0 e k7 h5
      · rw [q] at h1 h5
        have e9 : i = 5 := by omega
        subst e9
        exact dk_0 e k8 h5
    | aconst_null => exact dk_0 e k1 h
    | iaload => exact dk_0 e k46 h
    | laload => exact dk_0 e k47 h
    | aaload => exact dk_0 e k50 h
    | baload => exact dk_0 e k51 h
    | iastore => exact dk_0 e k79 h
    | lastore => exact dk_0 e k80 h
    | aastore => exact dk_0 e k83 h
    | bastore => exact dk_0 e k84 h
    | pop => exact dk_0 e k87 h
    | pop2 => exact dk_0 e k88 h
    | dup => exact dk_0 e k89 h
    | dup2 => exact dk_0 e k92 h
    | iadd => exact dk_0 e k96 h
    | ladd => exact dk_0 e k97 h
    | isub => exact dk_0 e k100 h
    | lsub => exact dk_0 e k101 h
    | imul => exact dk_0 e k104 h
    | lmul => exact dk_0 e k105 h
    | idiv => exact dk_0 e k108 h
    | ldiv => exact dk_0 e k109 h
    | irem => exact dk_0 e k112 h
    | lrem => exact dk_0 e k113 h
    | ineg => exact dk_0 e k116 h
    | lneg => exact dk_0 e k117 h
    | ishl => exact dk_0 e k120 h
    | lshl => exact dk_0 e k121 h
    | ishr => exact dk_0 e k122 h
    | iand => exact dk_0 e k126 h
    | land => exact dk_0 e k127 h
    | ior => exact dk_0 e k128 h
    | lor => exact dk_0 e k129 h
    | ixor => exact dk_0 e k130 h
    | i2l => exact dk_0 e k133 h
    | l2i => exact dk_0 e k136 h
    | i2b => exact dk_0 e k145 h
    | i2c => exact dk_0 e k146 h
    | i2s => exact dk_0 e k147 h
    | lcmp => exact dk_0 e k148 h
    | ireturn => exact dk_0 e k172 h
    | lreturn => exact dk_0 e k173 h
    | areturn => exact dk_0 e k176 h
    | return_ => exact dk_0 e k177 h
    | arraylength => exact dk_0 e k190 h
    | athrow => exact dk_0 e k191 h
    | ldc i => exact dk_1 (f := Instr.ldc) e k18 d1 h
    | iload i => exact dk_1 (f := Instr.iload) e k21 d1 h
    | lload i => exact dk_1 (f := Instr.lload) e k22 d1 h
    | aload i => exact dk_1 (f := Instr.aload) e k25 d1 h
    | istore i => exact dk_1 (f := Instr.istore) e k54 d1 h
    | lstore i => exact dk_1 (f := Instr.lstore) e k55 d1 h
    | astore i => exact dk_1 (f := Instr.astore) e k58 d1 h
    | bipush i => exact dk_1s (f := Instr.bipush) e k16 d1 h
    | ldc_w i => exact dk_2 (f := Instr.ldc_w) e k19 d1 h
    | ldc2_w i => exact dk_2 (f := Instr.ldc2_w) e k20 d1 h
    | getstatic i => exact dk_2 (f := Instr.getstatic) e k178 d1 h
    | getfield i => exact dk_2 (f := Instr.getfield) e k180 d1 h
    | putfield i => exact dk_2 (f := Instr.putfield) e k181 d1 h
    | invokevirtual i => exact dk_2 (f := Instr.invokevirtual) e k182 d1 h
    | invokespecial i => exact dk_2 (f := Instr.invokespecial) e k183 d1 h
    | invokestatic i => exact dk_2 (f := Instr.invokestatic) e k184 d1 h
    | new i => exact dk_2 (f := Instr.new) e k187 d1 h
    | anewarray i => exact dk_2 (f := Instr.anewarray) e k189 d1 h
    | sipush i => exact dk_2s (f := Instr.sipush) e k17 d1 h
    | goto i => exact dk_2s (f := Instr.goto) e k167 d1 h
    | ifnull i => exact dk_2s (f := Instr.ifnull) e k198 d1 h
    | ifnonnull i => exact dk_2s (f := Instr.ifnonnull) e k199 d1 h
    | ifCond d i => exact dk_2s (f := Instr.ifCond d) e (fc d) d1 h
    | if_icmp d i => exact dk_2s (f := Instr.if_icmp d) e (fi d) d1 h
    | iinc i j => exact dk_u e k132 d1 h
    | _ => exact absurd h Bool.false_ne_true
/-- some rows, one behind the other -/
def dkl : List UInt8 → List (Instr × Nat) → Bool
  | _, [] => true
  | L, e :: r => dks e.1 e.2 L && dkl (L.drop e.2) r
def dP (c : ByteArray) : Nat → List (Instr × Nat) → Prop
  | _, [] => True
  | pc, e :: r => decode c pc = .ok (e.1, e.2) ∧ dP c (pc + e.2) r
theorem dkl_ok {c : ByteArray} (l : List (Instr × Nat)) : ∀ pc : Nat, dkl (c.data.toList.drop pc) l = true → dP c pc l := by
  induction l with
  | nil => intro _ _; exact True.intro
  | cons e r ih =>
    intro pc h
    have h' : (dks e.1 e.2 (c.data.toList.drop pc) && dkl ((c.data.toList.drop pc).drop e.2) r) = true := h
    have q : (c.data.toList.drop pc).drop e.2 = c.data.toList.drop (pc + e.2) := by first | rw [List.drop_drop] | rw [List.drop_drop, Nat.add_comm]
    rw [Bool.and_eq_true, q] at h'
    exact ⟨dks_ok h'.1, ih (pc + e.2) h'.2⟩
