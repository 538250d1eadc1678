/-! FROM 49zf.look2.lean.txt -/
/-! OBSERVERS: both answer the same -/
def ob_O (X : XW) (C a : Nat) (P Q : Int32 × ST) : Prop := P.1.toInt = Q.1.toInt ∧ (P.2.1 C 0).toInt = (Q.2.1 a 0).toInt ∧ al_R X C a P.2 Q.2
theorem ob_pe (A : Int32 × ST) : q_bi A (fun r s => (r, s)) = A := by
  obtain ⟨r, s⟩ := A
  rw [q_biP r s]
section OB
variable {X : XW} {lb : Nat → Nat} {C a : Nat} {σ τ : ST} {n : Int}
theorem al_st (K : al_C X lb C a) (A : al_R X C a σ τ) (M : m_M (m_c X τ a) (τ.1 a 24).toInt n) (k : Int32) : al_R X C a (q_si σ C 0 k) (q_si (q_si τ a 1 0) a 0 0) ∧ ∀ k' : Int32, al_R X C a (q_si σ C 0 k) (q_si (q_si (q_si τ a 1 0) a 0 0) a 0 k') := by
  obtain ⟨kC, ka, S, lC, G8, G9, GM⟩ := id K
  obtain ⟨A1, A2, A3, A4⟩ := id A
  obtain ⟨m2, s2, t2⟩ := mv_beg S.1 ka (rfl : m_c X τ a = m_c X τ a)
  refine ⟨A.mv K M (mv_mk S G8 (by omega) y_W.rf A1.1 (fun _ _ _ => rfl) (fun _ _ _ => rfl) k m2 t2), fun k' => A.mv K M ?_⟩
  exact mv_mk S G8 (by omega) y_W.rf A1.1 (fun _ _ _ => rfl) (fun _ _ _ => rfl) k ((mv_cell S.1 ka 0 k').trans m2) (t2.si _ (Or.inr (Or.inl ⟨rfl, Or.inl rfl⟩)))
theorem ob_good (K : al_C X lb C a) (A : al_R X C a σ τ) (M : m_M (m_c X τ a) (τ.1 a 24).toInt n) {z z' : Int32} (h : z.toInt = z'.toInt) : ob_O X C a (q_bi (F_X11_good X σ C z) (fun r s => (r, s))) (z', q_si (q_si τ a 1 0) a 0 0) := by
  rw [ob_pe, mv_good]
  refine ⟨h, ?_, (al_st K A M 0).1⟩
  show ((q_si σ C 0 0).1 C 0).toInt = ((q_si (q_si τ a 1 0) a 0 0).1 a 0).toInt
  rw [si_eq, si_eq]
theorem ob_none (K : al_C X lb C a) (A : al_R X C a σ τ) (M : m_M (m_c X τ a) (τ.1 a 24).toInt n) (k : Int32) : ob_O X C a (q_bi (F_X11_none X σ C k) (fun r s => (r, s))) (q_bi (F_X12_refuse X (q_si (q_si τ a 1 0) a 0 0) a k) (fun r s => (r, s))) := by
  rw [ob_pe, ob_pe, mv_none, mv_refuse]
  refine ⟨rfl, ?_, (al_st K A M k).2 k⟩
  show ((q_si σ C 0 k).1 C 0).toInt = ((q_si (q_si (q_si τ a 1 0) a 0 0) a 0 k).1 a 0).toInt
  rw [si_eq, si_eq]
end OB
