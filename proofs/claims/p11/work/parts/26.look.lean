theorem m_look_lt {X : XW} {σ : ST} {a : Nat} {p : Int} (h : m_look X σ a p ≠ 0) : p < (σ.1 a 9).toInt := by
  unfold m_look at h
  split at h
  · assumption
  · exact absurd rfl h
