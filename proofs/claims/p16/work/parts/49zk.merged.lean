/-! FROM 49zk.card.lean.txt -/
/-! OBSERVERS: cardOf -/
section OC
variable {X : XW} {lb : Nat → Nat} {C a : Nat} {σ τ : ST} {n : Int}
/-- cardOf -/
theorem ob_cardOf (K : al_C X lb C a) (A : al_R X C a σ τ) (M : m_M (m_c X τ a) (τ.1 a 24).toInt n) (v1 v2 : Int32) : ob_O X C a (F_X11_cardOf X σ C v1 v2) (F_X12_cardOf X τ a v1 v2) := by
  obtain ⟨kC, ka, S, lC, G8, G9, GM⟩ := id K
  obtain ⟨A1, A2, A3, A4⟩ := id A
  obtain ⟨m2, s2, t2⟩ := mv_beg S.1 ka (rfl : m_c X τ a = m_c X τ a)
  have G := M.1.1
  have w : y_W X lb (q_rf X C 8) 1 σ σ (y_v X (q_rf X C 8) σ) := y_W.rf
  have b9 := G.1.2.2.2.2.2.2.1
  have one : (1 : Int32).toInt = 1 := rfl
  have e2' : (2 : Int32).toInt = 2 := rfl
  have e3 : (3 : Int32).toInt = 3 := rfl
  have e4 : (4 : Int32).toInt = 4 := rfl
  have l0 : (0 : Int64).toInt = 0 := rfl
  have l := A1.1.2.2.2.2.1
  have n16 : ((y_gn 16 : Nat) : Int) = 80 := rfl
  have n17 : ((y_gn 17 : Nat) : Int) = 320 := rfl
  have cnt : (σ.1 (q_rf X (q_rf X C 8) 2) 0).toInt = m_c X τ a 9 := (w.rd (id := 2) (by decide) 0 rfl).trans l.1
  unfold F_X11_cardOf F_X12_cardOf
  rw [q_letE (q_si τ a 1 0), q_letE (q_si (q_si τ a 1 0) a 0 0), q_letE v1.toInt64]
  obtain ⟨τ2, e2⟩ : ∃ t, t = q_si (q_si τ a 1 0) a 0 0 := ⟨_, rfl⟩
  have gd := fun {z z' : Int32} (h : z.toInt = z'.toInt) => ob_good K A M h
  have nn := fun k => ob_none K A M k
  rw [← e2] at m2 gd nn ⊢
  have r9 : (τ2.1 (q_rf X a 20) (9 : Int32).toNatClampNeg).toInt = m_c X τ a 9 := gm_cell (A := 9) m2 rfl
  obtain ⟨u, hu⟩ : ∃ u, u = τ2.1 (q_rf X a 20) (9 : Int32).toNatClampNeg - 1 := ⟨_, rfl⟩
  have uv : u.toInt = m_c X τ a 9 - 1 := by rw [hu, ar_sub, r9, one, ar_wr (by omega) (by omega)]
  rw [q_letE (τ2.1 (q_rf X a 20) (9 : Int32).toNatClampNeg), ← hu, q_letE u, q_letE u.toInt64, q_letE (F_X12_isIn X τ2 v1.toInt64 (0 : Int64) u.toInt64)]
  have i2 : (F_X12_isIn X τ2 v1.toInt64 (0 : Int64) u.toInt64).toInt = if 0 ≤ v1.toInt ∧ v1.toInt ≤ m_c X τ a 9 - 1 then 1 else 0 := by rw [tm_isIn, ar_i2l, ar_i2l, l0, uv]
  by_cases q2 : 0 ≤ v1.toInt ∧ v1.toInt ≤ m_c X τ a 9 - 1
  · rw [if_pos q2] at i2
    obtain ⟨y1, y2, y3, y5, y6⟩ := l.2.2 v1.toInt q2.1 (by omega)
    have sz := (G.2.2.1 v1.toInt q2.1 (by omega)).1
    have lv : (F_X12_laid X τ2 v1).toInt = 94 + 7 * v1.toInt := gm_laid rfl ⟨q2.1, by omega⟩
    have j2 : (F_X12_laid X τ2 v1 + 2).toInt = 94 + 7 * v1.toInt + 2 := by rw [ar_add, lv, e2', ar_wr (by omega) (by omega)]
    have c2 := gm_cell (A := 94 + 7 * v1.toInt + 2) m2 j2
    have s16 : (F_X5_get X σ (q_rf X (q_rf X (q_rf X C 8) 2) 4) v1).toInt = m_c X τ a (94 + 7 * v1.toInt + 2) := by
      rw [y_getI S G8 w (id := 16) (r := q_rf X (q_rf X (q_rf X C 8) 2) 4) ⟨by decide, by decide⟩ rfl rfl q2.1 (by rw [n16]; omega), y3]
    rw [i2, if_neg (by decide : ¬ (1 : Int) = 0), if_neg (by omega : ¬ v1.toInt < 0), q_letE (σ.1 (q_rf X (q_rf X C 8) 2) 0), cnt, if_pos (by omega : v1.toInt < m_c X τ a 9), q_letE v2.toInt64, q_letE (F_X12_laid X τ2 v1), q_letE (F_X12_laid X τ2 v1 + 2), q_letE (τ2.1 (q_rf X a 20) (F_X12_laid X τ2 v1 + 2).toNatClampNeg)]
    obtain ⟨t, ht⟩ : ∃ t, t = τ2.1 (q_rf X a 20) (F_X12_laid X τ2 v1 + 2).toNatClampNeg - 1 := ⟨_, rfl⟩
    have tv : t.toInt = m_c X τ a (94 + 7 * v1.toInt + 2) - 1 := by rw [ht, ar_sub, c2, one, ar_wr (by omega) (by omega)]
    rw [← ht, q_letE t, q_letE t.toInt64, q_letE (F_X12_isIn X τ2 v2.toInt64 (0 : Int64) t.toInt64)]
    have i3 : (F_X12_isIn X τ2 v2.toInt64 (0 : Int64) t.toInt64).toInt = if 0 ≤ v2.toInt ∧ v2.toInt ≤ m_c X τ a (94 + 7 * v1.toInt + 2) - 1 then 1 else 0 := by rw [tm_isIn, ar_i2l, ar_i2l, l0, tv]
    by_cases q3 : 0 ≤ v2.toInt ∧ v2.toInt ≤ m_c X τ a (94 + 7 * v1.toInt + 2) - 1
    · rw [if_pos q3] at i3
      have j3 : (F_X12_laid X τ2 v1 + 3).toInt = 94 + 7 * v1.toInt + 3 := by rw [ar_add, lv, e3, ar_wr (by omega) (by omega)]
      have j4 : (F_X12_laid X τ2 v1 + 3 + v2).toInt = 94 + 7 * v1.toInt + 3 + v2.toInt := by rw [ar_add, j3, ar_wr (by omega) (by omega)]
      have c4 := gm_cell (A := 94 + 7 * v1.toInt + 3 + v2.toInt) m2 j4
      have ix : (v1 * (4 : Int32) + v2).toInt = 4 * v1.toInt + v2.toInt := by
        rw [ar_add, ar_mul, e4, ar_wr (n := v1.toInt * 4) (by omega) (by omega), ar_wr (by omega) (by omega)]
        omega
      rw [i3, if_neg (by decide : ¬ (1 : Int) = 0), if_neg (by omega : ¬ v2.toInt < 0), q_letE (F_X5_get X σ (q_rf X (q_rf X (q_rf X C 8) 2) 4) v1), s16, if_pos (by omega : v2.toInt < m_c X τ a (94 + 7 * v1.toInt + 2)), q_letE (F_X2_kindOf X σ (q_rf X (q_rf X C 8) 2) v1 v2), q_letE (F_X12_laid X τ2 v1), q_letE (F_X12_laid X τ2 v1 + 3), q_letE (F_X12_laid X τ2 v1 + 3 + v2), q_letE (τ2.1 (q_rf X a 20) (F_X12_laid X τ2 v1 + 3 + v2).toNatClampNeg)]
      refine gd ?_
      rw [c4]
      unfold F_X2_kindOf
      rw [q_letE (v1 * (4 : Int32)), q_letE (v1 * (4 : Int32) + v2), q_letE, y_getI S G8 w (id := 17) (r := q_rf X (q_rf X (q_rf X C 8) 2) 5) ⟨by decide, by decide⟩ rfl ix (by omega) (by rw [n17]; omega)]
      exact y6 v2.toInt q3.1 (by omega)
    · rw [if_neg q3] at i3
      rw [i3, if_pos (rfl : (0 : Int) = 0)]
      by_cases q4 : v2.toInt < 0
      · rw [if_pos q4]
        exact nn 8
      · rw [if_neg q4, q_letE (F_X5_get X σ (q_rf X (q_rf X (q_rf X C 8) 2) 4) v1), s16, if_neg (by omega)]
        exact nn 8
  · rw [if_neg q2] at i2
    rw [i2, if_pos (rfl : (0 : Int) = 0)]
    by_cases q4 : v1.toInt < 0
    · rw [if_pos q4]
      exact nn 8
    · rw [if_neg q4, q_letE (σ.1 (q_rf X (q_rf X C 8) 2) 0), cnt, if_neg (by omega)]
      exact nn 8
end OC
