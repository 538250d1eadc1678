theorem m_rd {X : XW} {σ : ST} {a : Nat} {i z : Int32} {A : Int} (e : z = σ.1 (q_rf X a 20) i.toNatClampNeg) (h : i.toInt = A) : z.toInt = m_c X σ a A := by
  subst h
  exact congrArg Int32.toInt e
theorem m_wr {X : XW} {σ σ' : ST} {a : Nat} {i v : Int32} {A : Int} (e : σ' = q_si σ (q_rf X a 20) i.toNatClampNeg v) (h : i.toInt = A) (h0 : 0 ≤ A) : ∀ j : Int, 0 ≤ j → m_c X σ' a j = if j = A then v.toInt else m_c X σ a j := by
  subst h
  intro j hj
  unfold m_c
  by_cases q : j = i.toInt
  · subst q
    rw [if_pos rfl]
    exact congrArg Int32.toInt (q_rd e)
  · rw [if_neg q]
    refine congrArg Int32.toInt (q_rdn e (Or.inr ?_))
    show j.toNat ≠ i.toInt.toNat
    omega
theorem m_wo {X : XW} {σ σ' : ST} {a b f : Nat} {v : Int32} (e : σ' = q_si σ b f v) (h : b ≠ q_rf X a 20) (j : Int) : m_c X σ' a j = m_c X σ a j := congrArg Int32.toInt (q_rdn e (Or.inl (Ne.symm h)))
theorem m_wl {X : XW} {σ σ' : ST} {b f : Nat} {v : Int64} (e : σ' = q_sl σ b f v) (a : Nat) (j : Int) : m_c X σ' a j = m_c X σ a j := congrArg Int32.toInt (q_rdl e)
