/-! OBSERVERS: what a player holds, has said, cannot know; who has most; fractions told -/
section QA
variable {X : XW} {lb : Nat → Nat} {C a : Nat} {σ τ : ST} {n : Int}
theorem an_k (K : al_C X lb C a) (A : al_R X C a σ τ) (M : m_M (m_c X τ a) (τ.1 a 24).toInt n) {τ2 : ST} (m2 : m_c X τ2 a = m_c X τ a) (v : Int32) : (F_X11_isKind X σ C v).toInt = (if 0 ≤ v.toInt ∧ v.toInt < m_c X τ a 0 then 1 else 0) ∧ (F_X12_isKindAt X τ2 a v).toInt = if 0 ≤ v.toInt ∧ v.toInt < m_c X τ a 0 then 1 else 0 := by
  have w : y_W X lb (q_rf X C 8) 1 σ σ (y_v X (q_rf X C 8) σ) := y_W.rf
  have p1 := lk_kind w v
  have hP : y_v X (q_rf X C 8) σ 1 0 = m_c X τ a 0 := A.1.1.1.1
  rw [hP] at p1
  exact ⟨p1, lk_kindAt m2 M.1.1.1.1 v⟩
end QA
