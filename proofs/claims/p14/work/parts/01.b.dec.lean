/-! DECODING, cheaply: a Bool for a row; the law's own long code by its bytes -/
def dq (x : Except DecodeError (Instr × Nat)) (I : Instr) (n : Nat) : Bool := match x with | .ok (i, m) => decide (i = I) && decide (m = n) | .error _ => false
theorem d_of {c : ByteArray} {pc n : Nat} {I : Instr} (h : dq (decode c pc) I n = true) : decode c pc = .ok (I, n) := by
  revert h
  cases decode c pc with
  | error e => intro h; exact Bool.noConfusion h
  | ok p =>
    obtain ⟨i, m⟩ := p
    intro h
    have h' : (decide (i = I) && decide (m = n)) = true := h
    rw [Bool.and_eq_true, decide_eq_true_eq, decide_eq_true_eq] at h'
    rw [h'.1, h'.2]
theorem dl_u1 {c : ByteArray} {pc : Nat} {a : UInt8} {r : List UInt8} (h : c.data.toList.drop pc = a :: r) : (Reader.u1 : Decoder Nat) c pc = .ok (a.toNat, pc + 1) ∧ c.data.toList.drop (pc + 1) = r := by
  have hl : pc < c.data.toList.length := by
    by_cases q : pc < c.data.toList.length
    · exact q
    · rw [List.drop_eq_nil_of_le (by omega)] at h
      cases h
  have e := List.drop_eq_getElem_cons hl
  rw [h] at e
  obtain ⟨e1, e2⟩ := List.cons.inj e
  refine ⟨?_, e2.symm⟩
  have hl' : pc < c.size := hl
  show (if h : pc < c.size then (do set (pc + 1); Pure.pure c[pc].toNat : Decoder Nat) else throw (HasTruncated.truncated pc)) c pc = _
  rw [dif_pos hl', e1]
  rfl
/-- behind the first byte -/
theorem dl_op {c : ByteArray} {pc op : Nat} (hu : (Reader.u1 : Decoder Nat) c pc = .ok (op, pc + 1)) : ∃ K : Nat → Decoder Instr, decode c pc = Except.bind (K op c (pc + 1)) (fun x => .ok (x.1, x.2 - pc)) ∧ K 42 = Pure.pure (Instr.aload_n 0) ∧ K 43 = Pure.pure (Instr.aload_n 1) ∧ K 44 = Pure.pure (Instr.aload_n 2) ∧ K 29 = Pure.pure (Instr.iload_n 3) ∧ K 46 = Pure.pure Instr.iaload ∧ K 96 = Pure.pure Instr.iadd ∧ K 87 = Pure.pure Instr.pop ∧ K 2 = Pure.pure (Instr.iconst (-1)) ∧ K 3 = Pure.pure (Instr.iconst 0) ∧ K 4 = Pure.pure (Instr.iconst 1) ∧ K 5 = Pure.pure (Instr.iconst 2) ∧ K 6 = Pure.pure (Instr.iconst 3) ∧ K 7 = Pure.pure (Instr.iconst 4) ∧ K 8 = Pure.pure (Instr.iconst 5) ∧ K 182 = (do let x ← Reader.u2; Pure.pure (Instr.invokevirtual x)) ∧ K 167 = (do let x ← Reader.s2; Pure.pure (Instr.goto x)) := by
  have key : ∀ L : Nat → Decoder Instr, Decoder.instr pc = (Reader.u1 >>= L) → decode c pc = Except.bind (L op c (pc + 1)) (fun x => .ok (x.1, x.2 - pc)) := fun L hL => by
    show Except.bind (Decoder.instr pc c pc) (fun x => Except.ok (x.1, x.2 - pc)) = _
    rw [hL]
    show Except.bind (Except.bind ((Reader.u1 : Decoder Nat) c pc) (fun p => L p.1 c p.2)) (fun x => Except.ok (x.1, x.2 - pc)) = _
    rw [hu]
    rfl
  refine ⟨_, key _ (by unfold Decoder.instr; rfl), ?_⟩
  exact ⟨rfl, rfl, rfl, rfl, rfl, rfl, rfl, rfl, rfl, rfl, rfl, rfl, rfl, rfl, rfl, rfl⟩
def dls : List UInt8 → Option (Instr × Nat)
  | [] => none
  | a :: r =>
    if a = 42 then some (.aload_n 0, 1) else if a = 43 then some (.aload_n 1, 1) else if a = 44 then some (.aload_n 2, 1) else if a = 29 then some (.iload_n 3, 1)
    else if a = 46 then some (.iaload, 1) else if a = 96 then some (.iadd, 1) else if a = 87 then some (.pop, 1)
    else if a = 2 then some (.iconst (-1), 1) else if a = 3 then some (.iconst 0, 1) else if a = 4 then some (.iconst 1, 1) else if a = 5 then some (.iconst 2, 1) else if a = 6 then some (.iconst 3, 1) else if a = 7 then some (.iconst 4, 1) else if a = 8 then some (.iconst 5, 1)
    else match r with
      | b :: d :: _ => if a = 182 then some (.invokevirtual (b.toNat * 256 + d.toNat), 3) else if a = 167 then some (.goto (Reader.signed 16 (b.toNat * 256 + d.toNat)), 3) else none
      | _ => none
theorem dl_u2 {c : ByteArray} {pc : Nat} {a b : UInt8} {r : List UInt8} (h : c.data.toList.drop pc = a :: b :: r) : (Reader.u2 : Decoder Nat) c pc = .ok (a.toNat * 256 + b.toNat, pc + 2) := by
  obtain ⟨u, d1⟩ := dl_u1 h
  obtain ⟨v, d2⟩ := dl_u1 d1
  show Except.bind ((Reader.u1 : Decoder Nat) c pc) (fun x => Except.bind ((Reader.u1 : Decoder Nat) c x.2) (fun y => Except.ok (x.1 * 256 + y.1, y.2))) = _
  rw [u]
  show Except.bind ((Reader.u1 : Decoder Nat) c (pc + 1)) (fun y => Except.ok (a.toNat * 256 + y.1, y.2)) = _
  rw [v]
  rfl
theorem dl_s2 {c : ByteArray} {pc : Nat} {a b : UInt8} {r : List UInt8} (h : c.data.toList.drop pc = a :: b :: r) : (Reader.s2 : Decoder Int) c pc = .ok (Reader.signed 16 (a.toNat * 256 + b.toNat), pc + 2) := by
  show Except.bind ((Reader.u2 : Decoder Nat) c pc) (fun x => Except.ok (Reader.signed 16 x.1, x.2)) = _
  rw [dl_u2 h]
  rfl
theorem dl_one {pc : Nat} {I : Instr} {c : ByteArray} {K : Decoder Instr} (e : decode c pc = Except.bind (K c (pc + 1)) (fun x => .ok (x.1, x.2 - pc))) (k : K = Pure.pure I) : decode c pc = .ok (I, 1) := by
  rw [e, k]
  show Except.ok (I, pc + 1 - pc) = _
  rw [Nat.add_sub_cancel_left]
theorem dls_ok {c : ByteArray} {pc n : Nat} {I : Instr} (h : dls (c.data.toList.drop pc) = some (I, n)) : decode c pc = .ok (I, n) := by
  revert h
  cases hD : c.data.toList.drop pc with
  | nil => intro h; cases h
  | cons a r =>
    intro h
    obtain ⟨u, d1⟩ := dl_u1 hD
    obtain ⟨K, e, k0, k1, k2, k3, k4, k5, k6, k7, k8, k9, k10, k11, k12, k13, k14, k15⟩ := dl_op u
    simp only [dls] at h
    by_cases q0 : a = 42
    · rw [if_pos q0] at h; cases h; subst q0; exact dl_one e k0
    rw [if_neg q0] at h
    by_cases q1 : a = 43
    · rw [if_pos q1] at h; cases h; subst q1; exact dl_one e k1
    rw [if_neg q1] at h
    by_cases q2 : a = 44
    · rw [if_pos q2] at h; cases h; subst q2; exact dl_one e k2
    rw [if_neg q2] at h
    by_cases q3 : a = 29
    · rw [if_pos q3] at h; cases h; subst q3; exact dl_one e k3
    rw [if_neg q3] at h
    by_cases q4 : a = 46
    · rw [if_pos q4] at h; cases h; subst q4; exact dl_one e k4
    rw [if_neg q4] at h
    by_cases q5 : a = 96
    · rw [if_pos q5] at h; cases h; subst q5; exact dl_one e k5
    rw [if_neg q5] at h
    by_cases q6 : a = 87
    · rw [if_pos q6] at h; cases h; subst q6; exact dl_one e k6
    rw [if_neg q6] at h
    by_cases q7 : a = 2
    · rw [if_pos q7] at h; cases h; subst q7; exact dl_one e k7
    rw [if_neg q7] at h
    by_cases q8 : a = 3
    · rw [if_pos q8] at h; cases h; subst q8; exact dl_one e k8
    rw [if_neg q8] at h
    by_cases q9 : a = 4
    · rw [if_pos q9] at h; cases h; subst q9; exact dl_one e k9
    rw [if_neg q9] at h
    by_cases q10 : a = 5
    · rw [if_pos q10] at h; cases h; subst q10; exact dl_one e k10
    rw [if_neg q10] at h
    by_cases q11 : a = 6
    · rw [if_pos q11] at h; cases h; subst q11; exact dl_one e k11
    rw [if_neg q11] at h
    by_cases q12 : a = 7
    · rw [if_pos q12] at h; cases h; subst q12; exact dl_one e k12
    rw [if_neg q12] at h
    by_cases q13 : a = 8
    · rw [if_pos q13] at h; cases h; subst q13; exact dl_one e k13
    rw [if_neg q13] at h
    cases r with
    | nil => cases h
    | cons b r =>
      cases r with
      | nil => cases h
      | cons d r =>
        have w := dl_u2 d1
        by_cases q14 : a = 182
        · have h2 : some (Instr.invokevirtual (b.toNat * 256 + d.toNat), 3) = some (I, n) := by
            have z := h
            simp only [] at z
            rw [if_pos q14] at z
            exact z
          cases h2
          subst q14
          rw [e]
          show Except.bind (K 182 c (pc + 1)) (fun x => Except.ok (x.1, x.2 - pc)) = _
          rw [k14]
          show Except.bind (Except.bind ((Reader.u2 : Decoder Nat) c (pc + 1)) (fun p => Except.ok (Instr.invokevirtual p.1, p.2))) (fun x => Except.ok (x.1, x.2 - pc)) = _
          rw [w]
          show Except.ok (Instr.invokevirtual (b.toNat * 256 + d.toNat), pc + 3 - pc) = _
          rw [Nat.add_sub_cancel_left]
        · have h3 : (if a = 167 then some (Instr.goto (Reader.signed 16 (b.toNat * 256 + d.toNat)), 3) else none) = some (I, n) := by
            have z := h
            simp only [] at z
            rw [if_neg q14] at z
            exact z
          by_cases q15 : a = 167
          · rw [if_pos q15] at h3
            cases h3
            subst q15
            rw [e]
            show Except.bind (K 167 c (pc + 1)) (fun x => Except.ok (x.1, x.2 - pc)) = _
            rw [k15]
            show Except.bind (Except.bind ((Reader.s2 : Decoder Int) c (pc + 1)) (fun p => Except.ok (Instr.goto p.1, p.2))) (fun x => Except.ok (x.1, x.2 - pc)) = _
            rw [dl_s2 d1]
            show Except.ok (Instr.goto (Reader.signed 16 (b.toNat * 256 + d.toNat)), pc + 3 - pc) = _
            rw [Nat.add_sub_cancel_left]
          · rw [if_neg q15] at h3
            cases h3
