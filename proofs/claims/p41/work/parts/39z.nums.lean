/-! numbers of the game: quotients, rests, products -/
theorem m_mulI {a b A B : Int} (h0 : 0 ≤ a) (h1 : a ≤ A) (h2 : 0 ≤ b) (h3 : b ≤ B) : 0 ≤ a * b ∧ a * b ≤ A * B ∧ a * b ≤ A * b ∧ a * b ≤ a * B :=
  ⟨Int.mul_nonneg h0 h2, Int.mul_le_mul h1 h3 h2 (by omega), Int.mul_le_mul_of_nonneg_right h1 h2, Int.mul_le_mul_of_nonneg_left h3 h0⟩
theorem m_div {x y z : Int32} (e : z = x / y) (hx : 0 ≤ x.toInt) (hy : 0 < y.toInt) : 0 ≤ z.toInt ∧ z.toInt ≤ x.toInt ∧ z.toInt = x.toInt / y.toInt := by
  have hr := q_rng x
  have h : z.toInt = x.toInt / y.toInt := by
    rw [e, Int32.toInt_div, Int.tdiv_eq_ediv_of_nonneg hx]
    have h1 := Int.ediv_nonneg hx (by omega : 0 ≤ y.toInt)
    have h2 := Int.ediv_le_self y.toInt hx
    exact Int.bmod_eq_of_le (by omega) (by omega)
  rw [h]
  exact ⟨Int.ediv_nonneg hx (by omega), Int.ediv_le_self _ hx, rfl⟩
theorem m_rem {x y z : Int32} (e : z = x - x / y * y) (hx : 0 ≤ x.toInt) (hy : 0 < y.toInt) : 0 ≤ z.toInt ∧ z.toInt < y.toInt ∧ z.toInt ≤ x.toInt ∧ (x.toInt < y.toInt → z.toInt = x.toInt) ∧ (x.toInt = y.toInt → z.toInt = 0) := by
  have hr := q_rng x
  have hd := m_div (x := x) (y := y) rfl hx hy
  have k1 := Int.emod_nonneg x.toInt (by omega : y.toInt ≠ 0)
  have k2 := Int.emod_lt_of_pos x.toInt hy
  have k3 : x.toInt / y.toInt * y.toInt = x.toInt - x.toInt % y.toInt := by
    have := Int.mul_ediv_add_emod x.toInt y.toInt
    rw [Int.mul_comm] at this
    omega
  have k4 : x.toInt % y.toInt ≤ x.toInt := by
    by_cases q : x.toInt < y.toInt
    · rw [Int.emod_eq_of_lt hx q]; exact Int.le_refl _
    · omega
  have hm : (x / y * y).toInt = x.toInt - x.toInt % y.toInt := by
    rw [Int32.toInt_mul, hd.2.2, k3]
    exact Int.bmod_eq_of_le (by omega) (by omega)
  have h : z.toInt = x.toInt % y.toInt := by
    rw [e, Int32.toInt_sub, hm]
    have w : x.toInt - (x.toInt - x.toInt % y.toInt) = x.toInt % y.toInt := by omega
    rw [w]
    exact Int.bmod_eq_of_le (by omega) (by omega)
  rw [h]
  exact ⟨k1, k2, k4, fun q => Int.emod_eq_of_lt hx q, fun q => by rw [q, Int.emod_self]⟩
/-- a step of the ways to choose -/
theorem m_chs {x y z : Int64} {a b i : Int} (e : z = x / y) (hx : x.toInt = a * b) (hy : y.toInt = i) (ha : 1 ≤ a) (hi : 1 ≤ i) (hib : i ≤ b) (hb : b ≤ 800) (hs : a ≤ 512000000) : a ≤ z.toInt ∧ z.toInt ≤ 800 * a := by
  have hm := m_mulI (a := a) (A := 512000000) (b := b) (B := 800) (by omega) hs (by omega) hb
  have hd0 : 0 ≤ a * b / i := Int.ediv_nonneg hm.1 (by omega)
  have hd1 : a * b / i ≤ a * b := Int.ediv_le_self _ hm.1
  have h : z.toInt = a * b / i := by
    rw [e, Int64.toInt_div, hx, hy, Int.tdiv_eq_ediv_of_nonneg hm.1]
    exact Int.bmod_eq_of_le (by omega) (by omega)
  rw [h]
  refine ⟨?_, by omega⟩
  rw [Int.le_ediv_iff_mul_le (by omega)]
  exact Int.mul_le_mul_of_nonneg_left hib (by omega)
theorem m_remabs {x y z : Int64} (e : z = x - x / y * y) (hy : y.toInt ≠ 0) : z.toInt.natAbs < y.toInt.natAbs := by
  have hl := Int64.le_toInt y
  have hu := Int64.toInt_lt y
  have h0 : (x.toInt.tmod y.toInt).natAbs < y.toInt.natAbs := by
    rw [Int.natAbs_tmod]
    exact Nat.mod_lt _ (by omega)
  have h : z.toInt = x.toInt.tmod y.toInt := by
    rw [e, Int64.toInt_sub, Int64.toInt_mul, Int64.toInt_div]
    rw [Int.sub_bmod_bmod, ← Int.sub_bmod_bmod, Int.bmod_mul_bmod, Int.sub_bmod_bmod]
    have w : x.toInt - x.toInt.tdiv y.toInt * y.toInt = x.toInt.tmod y.toInt := by
      have := Int.mul_tdiv_add_tmod x.toInt y.toInt
      rw [Int.mul_comm] at this
      omega
    rw [w]
    exact Int.bmod_eq_of_le (by omega) (by omega)
  rw [h]
  exact h0
theorem m_neg0 {x z : Int64} (e : z = -x) (h : z.toInt = 0) : x.toInt = 0 := by
  have h1 : z = 0 := Int64.toInt_inj.mp (by rw [h]; rfl)
  rw [h1] at e
  have h2 : x = 0 := by
    have := congrArg (fun w => -w) e
    simpa using this.symm
  rw [h2]
  rfl
theorem m_ll {σ σ' : ST} {a f : Nat} {v : Int64} (e : σ' = q_sl σ a f v) : σ'.2.1 a f = v := by
  rw [e]
  show (if a = a ∧ f = f then v else _) = v
  rw [if_pos ⟨rfl, rfl⟩]
theorem m_lln {σ σ' : ST} {a b f g : Nat} {v : Int64} (e : σ' = q_sl σ a f v) (h : b ≠ a ∨ g ≠ f) : σ'.2.1 b g = σ.2.1 b g := by
  rw [e]
  show (if b = a ∧ g = f then v else σ.2.1 b g) = _
  rw [if_neg]
  rintro ⟨h1, h2⟩
  rcases h with h | h
  · exact h h1
  · exact h h2
theorem m_lsi {σ σ' : ST} {a b f g : Nat} {v : Int32} (e : σ' = q_si σ a f v) : σ'.2.1 b g = σ.2.1 b g := by rw [e]; rfl
/-! what a game's method keeps beside: what was kept, and how many steps were done (field d) -/
def m_KD (d : Nat) (X : XW) (σ σ' : ST) : Prop := ∀ b g, (q_kd X b = 35 ∨ (q_kd X b = 12 ∧ g = d)) → σ'.1 b g = σ.1 b g
theorem m_KD.rf {d : Nat} {X : XW} {σ : ST} : m_KD d X σ σ := fun _ _ _ => rfl
theorem m_KD.tr {d : Nat} {X : XW} {σ σ' σ'' : ST} (h : m_KD d X σ σ') (h2 : m_KD d X σ' σ'') : m_KD d X σ σ'' := fun b g q => (h2 b g q).trans (h b g q)
theorem m_KD.si {d : Nat} {X : XW} {σ τ τ' : ST} {a f k : Nat} {v : Int32} (h : m_KD d X σ τ) (e : τ' = q_si τ a f v) (ha : q_kd X a = k) (hk : ¬ (k = 35 ∨ (k = 12 ∧ f = d))) : m_KD d X σ τ' := by
  intro b g q
  rw [q_rdn e, h b g q]
  by_cases w : b = a
  · subst w
    refine Or.inr (fun w2 => hk ?_)
    rw [ha, w2] at q
    exact q
  · exact Or.inl w
theorem m_KD.ar {d : Nat} {X : XW} {σ τ τ' : ST} {a f k : Nat} {v : Int32} (h : m_KD d X σ τ) (e : τ' = q_si τ a f v) (ha : q_kd X a = k) (h1 : k ≠ 35) (h2 : k ≠ 12) : m_KD d X σ τ' := h.si e ha (by rintro (q | q) <;> omega)
theorem m_KD.sl {d : Nat} {X : XW} {σ τ τ' : ST} {a f : Nat} {v : Int64} (h : m_KD d X σ τ) (e : τ' = q_sl τ a f v) : m_KD d X σ τ' := fun b g q => (q_rdl e).trans (h b g q)
theorem m_KD.no {d : Nat} {X : XW} {σ σ' : ST} (h : m_KD d X σ σ') (d' : Nat) (hd : ∀ b, q_kd X b = 12 → σ'.1 b d' = σ.1 b d') : m_KD d' X σ σ' := fun b g q => by
  rcases q with q | q
  · exact h b g (Or.inl q)
  · rw [q.2]; exact hd b q.1
theorem m_mulS {a b A B : Int} (h0 : -A ≤ a) (h1 : a ≤ A) (h2 : 0 ≤ b) (h3 : b ≤ B) : -(A * B) ≤ a * b ∧ a * b ≤ A * B ∧ (a = 0 → a * b = 0) ∧ (1 ≤ a → 1 ≤ b → 1 ≤ a * b) := by
  have hA : 0 ≤ A := by omega
  have e1 : A * b ≤ A * B := Int.mul_le_mul_of_nonneg_left h3 hA
  have e2 : a * b ≤ A * b := Int.mul_le_mul_of_nonneg_right h1 h2
  have e3 : (-A) * b ≤ a * b := Int.mul_le_mul_of_nonneg_right h0 h2
  have e4 : (-A) * b = -(A * b) := Int.neg_mul _ _
  refine ⟨by omega, by omega, fun q => by rw [q, Int.zero_mul], fun p q => ?_⟩
  have z : 1 * 1 ≤ a * b := Int.mul_le_mul p q (by decide) (by omega)
  omega
