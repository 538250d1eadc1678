theorem q_addI {x y z : Int32} {A B : Int} (e : z = x + y) (ea : x.toInt = A) (eb : y.toInt = B) (h1 : -2147483648 ≤ A + B) (h2 : A + B ≤ 2147483647) : z.toInt = A + B := by
  subst ea; subst eb; exact q_add e h1 h2
theorem q_subI {x y z : Int32} {A B : Int} (e : z = x - y) (ea : x.toInt = A) (eb : y.toInt = B) (h1 : -2147483648 ≤ A - B) (h2 : A - B ≤ 2147483647) : z.toInt = A - B := by
  subst ea; subst eb; exact q_sub e h1 h2
theorem q_mulI {x y z : Int32} {A B : Int} (e : z = x * y) (ea : x.toInt = A) (eb : y.toInt = B) (h1 : -2147483648 ≤ A * B) (h2 : A * B ≤ 2147483647) : z.toInt = A * B := by
  subst ea; subst eb; exact q_mul e h1 h2
theorem q_addJ {x y z : Int64} {A B : Int} (e : z = x + y) (ea : x.toInt = A) (eb : y.toInt = B) (h1 : -9223372036854775808 ≤ A + B) (h2 : A + B ≤ 9223372036854775807) : z.toInt = A + B := by
  subst ea; subst eb
  rw [e, Int64.toInt_add]
  exact Int.bmod_eq_of_le (by omega) (by omega)
theorem q_subJ {x y z : Int64} {A B : Int} (e : z = x - y) (ea : x.toInt = A) (eb : y.toInt = B) (h1 : -9223372036854775808 ≤ A - B) (h2 : A - B ≤ 9223372036854775807) : z.toInt = A - B := by
  subst ea; subst eb
  rw [e, Int64.toInt_sub]
  exact Int.bmod_eq_of_le (by omega) (by omega)
theorem q_mulJ {x y z : Int64} {A B : Int} (e : z = x * y) (ea : x.toInt = A) (eb : y.toInt = B) (h1 : -9223372036854775808 ≤ A * B) (h2 : A * B ≤ 9223372036854775807) : z.toInt = A * B := by
  subst ea; subst eb
  rw [e, Int64.toInt_mul]
  exact Int.bmod_eq_of_le (by omega) (by omega)
/-- the model's table -/
def m_c (X : XW) (σ : ST) (a : Nat) (j : Int) : Int := (σ.1 (q_rf X a 20) j.toNat).toInt
/-- a byte of the model's tape -/
def m_look (X : XW) (σ : ST) (a : Nat) (p : Int) : Int := if p < (σ.1 a 9).toInt then ((σ.1 (q_rf X a 7) p.toNat) &&& 255).toInt else 0
theorem m_k30 {n : Nat} {X : XW} {σ σ' : ST} {a : Nat} (h : q_K n X σ σ') (hT : q_T X) (ha : q_kd X a = 12) (hn : 1 ≤ n) (j : Nat) : (σ'.1 (q_rf X a 4) j).toInt = (σ.1 (q_rf X a 4) j).toInt := by
  have hk : q_kd X (q_rf X a 4) = 30 := (hT.1 a 4 (by rw [ha]; decide)).trans (by rw [ha]; rfl)
  exact congrArg Int32.toInt (h _ j (by rw [hk]; exact hn))
theorem m_k31 {n : Nat} {X : XW} {σ σ' : ST} {a : Nat} (h : q_K n X σ σ') (hT : q_T X) (ha : q_kd X a = 12) (hn : 1 ≤ n) (j : Nat) : (σ'.1 (q_rf X a 5) j).toInt = (σ.1 (q_rf X a 5) j).toInt := by
  have hk : q_kd X (q_rf X a 5) = 31 := (hT.1 a 5 (by rw [ha]; decide)).trans (by rw [ha]; rfl)
  exact congrArg Int32.toInt (h _ j (by rw [hk]; exact hn))
theorem m_cK {n : Nat} {X : XW} {σ σ' : ST} {a : Nat} (h : q_K n X σ σ') (hT : q_T X) (ha : q_kd X a = 12) (hn : 2 ≤ n) (j : Int) : m_c X σ' a j = m_c X σ a j := by
  have hk : q_kd X (q_rf X a 20) = 34 := (hT.1 a 20 (by rw [ha]; decide)).trans (by rw [ha]; rfl)
  exact congrArg Int32.toInt (h _ _ (by rw [hk]; exact hn))
theorem m_ne {X : XW} {a b k k' : Nat} (ha : q_kd X a = k) (hb : q_kd X b = k') (h : k ≠ k') : a ≠ b := by
  rintro rfl
  exact h (ha.symm.trans hb)
theorem q_cl9 (k f : Nat) : q_cl k f ≤ 9 := by
  unfold q_cl
  split
  all_goals first | (split <;> decide) | decide
theorem m_lookK {X : XW} {σ σ' : ST} {a : Nat} {S : Nat → Nat → Prop} (h : q_KS S 9 X σ σ') (hT : q_T X) (ha : q_kd X a = 12) (hS : ∀ b g, S b g → b = a ∧ g ≠ 9) (p : Int) : m_look X σ' a p = m_look X σ a p := by
  have hk : q_kd X (q_rf X a 7) = 33 := (hT.1 a 7 (by rw [ha]; decide)).trans (by rw [ha]; rfl)
  unfold m_look
  rw [h a 9 (q_cl9 _ _) (fun z => (hS _ _ z).2 rfl), h (q_rf X a 7) p.toNat (q_cl9 _ _) (fun z => m_ne hk ha (by decide) (hS _ _ z).1)]
theorem q_KS.to {S : Nat → Nat → Prop} {n n' : Nat} {X : XW} {σ σ' : ST} (h : q_KS S n X σ σ') (hn : n' ≤ n) : q_KS S n' X σ σ' := fun b g q hs => h b g (Nat.le_trans q hn) hs
theorem m_and255 (x : Int32) : 0 ≤ (x &&& 255).toInt ∧ (x &&& 255).toInt ≤ 255 := by
  have h : (x &&& 255) = (x.toUInt32 &&& 255).toInt32 := rfl
  have h2 : (x.toUInt32 &&& 255).toNat ≤ 255 := by
    rw [UInt32.toNat_and]
    exact Nat.and_le_right
  have h3 : ((x.toUInt32 &&& 255).toInt32).toInt = ((x.toUInt32 &&& 255).toNat : Int) := by
    show ((x.toUInt32 &&& 255).toBitVec).toInt = _
    rw [BitVec.toInt_eq_toNat_of_lt (by show 2 * (x.toUInt32 &&& 255).toNat < _; omega)]
    rfl
  rw [h, h3]
  omega
