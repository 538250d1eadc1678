/-! FROM 49zf.look2.lean.txt -/
/-! OBSERVERS: both answer the same -/
def ob_O (X : XW) (C a : Nat) (P Q : Int32 × ST) : Prop := P.1.toInt = Q.1.toInt ∧ (P.2.1 C 0).toInt = (Q.2.1 a 0).toInt ∧ al_R X C a P.2 Q.2
theorem ob_pe (A : Int32 × ST) : q_bi A (fun r s => (r, s)) = A := by
  obtain ⟨r, s⟩ := A
  rw [q_biP r s]
section OB
variable {X : XW} {lb : Nat → Nat} {C a : Nat} {σ τ : ST} {n : Int}
theorem al_st (K : al_C X lb C a) (A : al_R X C a σ τ) (M : m_M (m_c X τ a) (τ.1 a 24).toInt n) (k : Int32) : al_R X C a (q_si σ C 0 k) (q_si (q_si τ a 1 0) a 0 0) ∧ ∀ k' : Int32, al_R X C a (q_si σ C 0 k) (q_si (q_si (q_si τ a 1 0) a 0 0) a 0 k') := by
  obtain ⟨kC, ka, S, lC, G8, G9, GM⟩ := id K
  obtain ⟨A1, A2, A3, A4⟩ := id A
  obtain ⟨m2, s2, t2⟩ := mv_beg S.1 ka (rfl : m_c X τ a = m_c X τ a)
  refine ⟨A.mv K M (mv_mk S G8 (by omega) y_W.rf A1.1 (fun _ _ _ => rfl) (fun _ _ _ => rfl) k m2 t2), fun k' => A.mv K M ?_⟩
  exact mv_mk S G8 (by omega) y_W.rf A1.1 (fun _ _ _ => rfl) (fun _ _ _ => rfl) k ((mv_cell S.1 ka 0 k').trans m2) (t2.si _ (Or.inr (Or.inl ⟨rfl, Or.inl rfl⟩)))
theorem ob_good (K : al_C X lb C a) (A : al_R X C a σ τ) (M : m_M (m_c X τ a) (τ.1 a 24).toInt n) {z z' : Int32} (h : z.toInt = z'.toInt) : ob_O X C a (q_bi (F_X11_good X σ C z) (fun r s => (r, s))) (z', q_si (q_si τ a 1 0) a 0 0) := by
  rw [ob_pe, mv_good]
  refine ⟨h, ?_, (al_st K A M 0).1⟩
  show ((q_si σ C 0 0).1 C 0).toInt = ((q_si (q_si τ a 1 0) a 0 0).1 a 0).toInt
  rw [si_eq, si_eq]
theorem ob_none (K : al_C X lb C a) (A : al_R X C a σ τ) (M : m_M (m_c X τ a) (τ.1 a 24).toInt n) (k : Int32) : ob_O X C a (q_bi (F_X11_none X σ C k) (fun r s => (r, s))) (q_bi (F_X12_refuse X (q_si (q_si τ a 1 0) a 0 0) a k) (fun r s => (r, s))) := by
  rw [ob_pe, ob_pe, mv_none, mv_refuse]
  refine ⟨rfl, ?_, (al_st K A M k).2 k⟩
  show ((q_si σ C 0 k).1 C 0).toInt = ((q_si (q_si (q_si τ a 1 0) a 0 0) a 0 k).1 a 0).toInt
  rw [si_eq, si_eq]
/-- laying -/
theorem ob_laying (K : al_C X lb C a) (A : al_R X C a σ τ) (M : m_M (m_c X τ a) (τ.1 a 24).toInt n) (v1 v2 : Int32) : ob_O X C a (F_X11_laying X σ C v1 v2) (F_X12_laying X τ a v1 v2) := by
  obtain ⟨kC, ka, S, lC, G8, G9, GM⟩ := id K
  obtain ⟨A1, A2, A3, A4⟩ := id A
  obtain ⟨m2, s2, t2⟩ := mv_beg S.1 ka (rfl : m_c X τ a = m_c X τ a)
  have G := M.1.1
  have w : y_W X lb (q_rf X C 8) 1 σ σ (y_v X (q_rf X C 8) σ) := y_W.rf
  have b9 := G.1.2.2.2.2.2.2.1
  have one : (1 : Int32).toInt = 1 := rfl
  have l0 : (0 : Int64).toInt = 0 := rfl
  have l3 : (3 : Int64).toInt = 3 := rfl
  have l := A1.1.2.2.2.2.1
  have n80 : ∀ k, k = 14 ∨ k = 15 ∨ k = 16 → ((y_gn k : Nat) : Int) = 80 := fun k h => by rcases h with e | e | e <;> subst e <;> rfl
  have cnt : (σ.1 (q_rf X (q_rf X C 8) 2) 0).toInt = m_c X τ a 9 := (w.rd (id := 2) (by decide) 0 rfl).trans l.1
  unfold F_X11_laying F_X12_laying
  rw [q_letE (q_si τ a 1 0), q_letE (q_si (q_si τ a 1 0) a 0 0), q_letE v2.toInt64, q_letE (F_X12_isIn X (q_si (q_si τ a 1 0) a 0 0) v2.toInt64 (0 : Int64) (3 : Int64))]
  obtain ⟨τ2, e2⟩ : ∃ t, t = q_si (q_si τ a 1 0) a 0 0 := ⟨_, rfl⟩
  have gd := fun {z z' : Int32} (h : z.toInt = z'.toInt) => ob_good K A M h
  have nn := fun k => ob_none K A M k
  rw [← e2] at m2 gd nn ⊢
  have r9 : (τ2.1 (q_rf X a 20) (9 : Int32).toNatClampNeg).toInt = m_c X τ a 9 := gm_cell (A := 9) m2 rfl
  have i1 : (F_X12_isIn X τ2 v2.toInt64 (0 : Int64) (3 : Int64)).toInt = if 0 ≤ v2.toInt ∧ v2.toInt ≤ 3 then 1 else 0 := by rw [tm_isIn, ar_i2l, l0, l3]
  by_cases q1 : 0 ≤ v2.toInt ∧ v2.toInt ≤ 3
  · rw [if_pos q1] at i1
    rw [i1, if_neg (by omega : ¬ v2.toInt < 0), if_neg (by omega : ¬ 3 < v2.toInt), if_neg (by decide : ¬ (1 : Int) = 0), q_letE v1.toInt64, q_letE (τ2.1 (q_rf X a 20) (9 : Int32).toNatClampNeg)]
    obtain ⟨u, hu⟩ : ∃ u, u = τ2.1 (q_rf X a 20) (9 : Int32).toNatClampNeg - 1 := ⟨_, rfl⟩
    have uv : u.toInt = m_c X τ a 9 - 1 := by rw [hu, ar_sub, r9, one, ar_wr (by omega) (by omega)]
    rw [← hu, q_letE u, q_letE u.toInt64, q_letE (F_X12_isIn X τ2 v1.toInt64 (0 : Int64) u.toInt64)]
    have i2 : (F_X12_isIn X τ2 v1.toInt64 (0 : Int64) u.toInt64).toInt = if 0 ≤ v1.toInt ∧ v1.toInt ≤ m_c X τ a 9 - 1 then 1 else 0 := by rw [tm_isIn, ar_i2l, ar_i2l, l0, uv]
    by_cases q2 : 0 ≤ v1.toInt ∧ v1.toInt ≤ m_c X τ a 9 - 1
    · rw [if_pos q2] at i2
      obtain ⟨y1, y2, y3, y5, y6⟩ := l.2.2 v1.toInt q2.1 (by omega)
      rw [i2, if_neg (by decide : ¬ (1 : Int) = 0), if_neg (by omega : ¬ v1.toInt < 0), q_letE (σ.1 (q_rf X (q_rf X C 8) 2) 0), cnt, if_pos (by omega : v1.toInt < m_c X τ a 9)]
      have lv : (F_X12_laid X τ2 v1).toInt = 94 + 7 * v1.toInt := gm_laid rfl ⟨q2.1, by omega⟩
      have sum : (F_X12_laid X τ2 v1 + v2).toInt = 94 + 7 * v1.toInt + v2.toInt := by rw [ar_add, lv, ar_wr (by omega) (by omega)]
      have cell := gm_cell (A := 94 + 7 * v1.toInt + v2.toInt) m2 sum
      by_cases z3 : v2.toInt = 3
      · rw [if_neg (by omega : ¬ v2.toInt = 0), if_neg (by omega : ¬ v2.toInt = 1), if_neg (by omega : ¬ v2.toInt = 2), if_pos z3, q_letE (F_X2_truth X σ (q_rf X (q_rf X C 8) 2) v1), q_letE (F_X12_sortOf X τ2 a v1)]
        exact gd (rg.sort S G8 w A1.1 G m2 rfl rfl ⟨q2.1, by omega⟩).1
      · rw [if_neg z3, q_letE (F_X12_laid X τ2 v1), q_letE (F_X12_laid X τ2 v1 + v2), q_letE (τ2.1 (q_rf X a 20) (F_X12_laid X τ2 v1 + v2).toNatClampNeg)]
        by_cases z0 : v2.toInt = 0
        · rw [if_pos z0, q_letE]
          refine gd ?_
          rw [cell, y_getI S G8 w (id := 14) (r := q_rf X (q_rf X (q_rf X C 8) 2) 2) ⟨by decide, by decide⟩ rfl rfl q2.1 (by rw [n80 14 (by decide)]; omega), y1]
          congr 1
          omega
        · rw [if_neg z0]
          by_cases z1 : v2.toInt = 1
          · rw [if_pos z1, q_letE]
            refine gd ?_
            rw [cell, y_getI S G8 w (id := 15) (r := q_rf X (q_rf X (q_rf X C 8) 2) 3) ⟨by decide, by decide⟩ rfl rfl q2.1 (by rw [n80 15 (by decide)]; omega), y2]
            congr 1
            omega
          · rw [if_neg z1, if_pos (by omega : v2.toInt = 2), q_letE]
            refine gd ?_
            rw [cell, y_getI S G8 w (id := 16) (r := q_rf X (q_rf X (q_rf X C 8) 2) 4) ⟨by decide, by decide⟩ rfl rfl q2.1 (by rw [n80 16 (by decide)]; omega), y3]
            congr 1
            omega
    · rw [if_neg q2] at i2
      rw [i2, if_pos rfl]
      by_cases q3 : v1.toInt < 0
      · rw [if_pos q3]
        exact nn 8
      · rw [if_neg q3, q_letE (σ.1 (q_rf X (q_rf X C 8) 2) 0), cnt, if_neg (by omega)]
        exact nn 8
  · rw [if_neg q1] at i1
    rw [i1, if_pos (rfl : (0 : Int) = 0)]
    by_cases q3 : v2.toInt < 0
    · rw [if_pos q3]
      exact nn 5
    · rw [if_neg q3, if_pos (by omega)]
      exact nn 5
end OB
