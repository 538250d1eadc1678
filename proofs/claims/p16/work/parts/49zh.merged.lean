/-! FROM 49zh.many.lean.txt -/
/-! OBSERVERS: many, player -/
section OM
variable {X : XW} {lb : Nat → Nat} {C a : Nat} {σ τ : ST} {n : Int}
/-- many -/
theorem ob_many (K : al_C X lb C a) (A : al_R X C a σ τ) (M : m_M (m_c X τ a) (τ.1 a 24).toInt n) (v : Int32) : ob_O X C a (F_X11_many X σ C v) (F_X12_many X τ a v) := by
  obtain ⟨kC, ka, S, lC, G8, G9, GM⟩ := id K
  obtain ⟨A1, A2, A3, A4⟩ := id A
  obtain ⟨m2, s2, t2⟩ := mv_beg S.1 ka (rfl : m_c X τ a = m_c X τ a)
  have G := M.1.1
  have w : y_W X lb (q_rf X C 8) 1 σ σ (y_v X (q_rf X C 8) σ) := y_W.rf
  have gT := A1.1.1
  have gS := A1.1.2.1
  have gL := A1.1.2.2.2.2.1
  have H := G.1
  have l0 : (0 : Int64).toInt = 0 := rfl
  have l10 : (10 : Int64).toInt = 10 := rfl
  have c1 : ∀ f : Nat, (σ.1 (q_rf X (q_rf X C 8) 0) f).toInt = y_v X (q_rf X C 8) σ 1 (f : Int) := fun f => w.rd (id := 1) (by decide) f rfl
  have c0 : ∀ f : Nat, (σ.1 (q_rf X C 8) f).toInt = y_v X (q_rf X C 8) σ 0 (f : Int) := fun f => w.rd (id := 0) (by decide) f rfl
  have c2 : ∀ f : Nat, (σ.1 (q_rf X (q_rf X C 8) 2) f).toInt = y_v X (q_rf X C 8) σ 2 (f : Int) := fun f => w.rd (id := 2) (by decide) f rfl
  unfold F_X11_many F_X12_many
  rw [q_letE (q_si τ a 1 0), q_letE (q_si (q_si τ a 1 0) a 0 0), q_letE v.toInt64, q_letE (F_X12_isIn X (q_si (q_si τ a 1 0) a 0 0) v.toInt64 (0 : Int64) (10 : Int64))]
  obtain ⟨τ2, e2⟩ : ∃ t, t = q_si (q_si τ a 1 0) a 0 0 := ⟨_, rfl⟩
  have gd := fun {z z' : Int32} (h : z.toInt = z'.toInt) => ob_good K A M h
  have nn := fun k => ob_none K A M k
  rw [← e2] at m2 gd nn ⊢
  have cell : ∀ (i : Int32) (j : Int), i.toInt = j → (τ2.1 (q_rf X a 20) i.toNatClampNeg).toInt = m_c X τ a j := fun i j h => gm_cell (A := j) m2 h
  have i1 : (F_X12_isIn X τ2 v.toInt64 (0 : Int64) (10 : Int64)).toInt = if 0 ≤ v.toInt ∧ v.toInt ≤ 10 then 1 else 0 := by rw [tm_isIn, ar_i2l, l0, l10]
  by_cases q : 0 ≤ v.toInt ∧ v.toInt ≤ 10
  · rw [if_pos q] at i1
    rw [i1, if_neg (by decide : ¬ (1 : Int) = 0)]
    by_cases q0 : v.toInt = 0
    · rw [if_pos q0, if_neg (by omega), if_neg (by omega), if_neg (by omega), if_neg (by omega), if_neg (by omega), q_letE, q_letE (τ2.1 (q_rf X a 20) v.toNatClampNeg)]
      exact gd (by rw [c1 0, cell v 0 q0]; exact gT.1)
    rw [if_neg q0]
    by_cases q1 : v.toInt = 1
    · rw [if_pos q1, if_neg (by omega), if_neg (by omega), if_neg (by omega), if_neg (by omega), if_neg (by omega), q_letE, q_letE (τ2.1 (q_rf X a 20) v.toNatClampNeg)]
      exact gd (by rw [c1 1, cell v 1 q1]; exact gT.2.1)
    rw [if_neg q1]
    by_cases q2 : v.toInt = 2
    · rw [if_pos q2, if_neg (by omega), if_neg (by omega), if_neg (by omega), if_neg (by omega), if_neg (by omega), q_letE, q_letE (τ2.1 (q_rf X a 20) v.toNatClampNeg)]
      exact gd (by rw [c1 4, cell v 2 q2]; exact gT.2.2.2.2.1)
    rw [if_neg q2]
    by_cases q3 : v.toInt = 3
    · rw [if_pos q3, if_neg (by omega), if_neg (by omega), if_neg (by omega), if_neg (by omega), if_neg (by omega), q_letE, q_letE (τ2.1 (q_rf X a 20) v.toNatClampNeg)]
      exact gd (by rw [c1 2, cell v 3 q3]; exact gT.2.2.1)
    rw [if_neg q3]
    by_cases q4 : v.toInt = 4
    · rw [if_pos q4, if_neg (by omega), if_neg (by omega), if_neg (by omega), if_neg (by omega), if_neg (by omega), q_letE, q_letE (τ2.1 (q_rf X a 20) v.toNatClampNeg)]
      exact gd (by rw [c1 3, cell v 4 q4]; exact gT.2.2.2.1)
    rw [if_neg q4]
    by_cases q5 : v.toInt = 5
    · rw [if_pos q5, if_neg (by omega), if_neg (by omega), if_neg (by omega), if_neg (by omega), if_neg (by omega), q_letE, q_letE (τ2.1 (q_rf X a 20) v.toNatClampNeg)]
      exact gd (by rw [c0 4, cell v 5 q5]; exact gS.1)
    rw [if_neg q5]
    by_cases q6 : v.toInt = 6
    · have k6 := cell (6 : Int32) 6 rfl
      have hh := H.2.2.2.2.1
      have v5 := gS.2.1
      rw [if_pos q6, if_pos q6, q_letE, q_letE (τ2.1 (q_rf X a 20) (6 : Int32).toNatClampNeg), k6]
      have k4 : (σ.1 (q_rf X (q_rf X C 8) 0) 4).toInt = m_c X τ a 2 := (c1 4).trans gT.2.2.2.2.1
      rw [k4]
      by_cases z : m_c X τ a 2 = 0
      · rw [if_pos z, if_pos (by omega)]
        exact nn 8
      · rw [if_neg z, if_neg (by omega), q_letE, q_letE (τ2.1 (q_rf X a 20) (6 : Int32).toNatClampNeg)]
        rw [if_neg z] at v5
        exact gd (by rw [c0 5, k6]; exact v5)
    rw [if_neg q6, if_neg q6]
    by_cases q7 : v.toInt = 7
    · rw [if_pos q7, if_pos q7, q_letE, q_letE (F_X12_heapMany X τ2 a)]
      exact gd (by rw [c2 1, lk_heap m2 G]; exact gL.2.1)
    rw [if_neg q7, if_neg q7]
    by_cases q8 : v.toInt = 8
    · have k7 := cell (7 : Int32) 7 rfl
      have hh := H.2.2.2.2.2.1
      have k07 : (σ.1 (q_rf X C 8) 7).toInt = m_c X τ a 7 := (c0 7).trans gS.2.2.2
      have z0 : (0 : Int32).toInt = 0 := rfl
      have z1 : (1 : Int32).toInt = 1 := rfl
      rw [if_pos q8, if_pos q8, q_letE, q_letE (τ2.1 (q_rf X a 20) (7 : Int32).toNatClampNeg), k07]
      by_cases z : m_c X τ a 7 = 0
      · rw [if_pos z]
        exact gd (by rw [k7, z, z0])
      · rw [if_neg z]
        exact gd (by rw [k7, z1]; omega)
    rw [if_neg q8, if_neg q8]
    by_cases q9 : v.toInt = 9
    · have k8 := cell (8 : Int32) 8 rfl
      have k06 : (σ.1 (q_rf X C 8) 6).toInt = m_c X τ a 8 := (c0 6).trans gS.2.2.1.1
      have lw := gS.2.2.1.2
      rw [if_pos q9, if_pos q9, q_letE, q_letE (τ2.1 (q_rf X a 20) (8 : Int32).toNatClampNeg), k06, k8]
      by_cases z : m_c X τ a 8 = -1
      · rw [if_pos z, if_pos (by omega)]
        exact nn 8
      · rw [if_neg z, if_neg (by omega), q_letE, q_letE (τ2.1 (q_rf X a 20) (8 : Int32).toNatClampNeg)]
        exact gd (by rw [k06, k8])
    rw [if_neg q9, if_neg q9, if_pos (by omega : v.toInt = 10), if_pos (by omega : v.toInt = 10), q_letE, q_letE (τ2.1 (q_rf X a 20) (9 : Int32).toNatClampNeg)]
    exact gd (by rw [c2 0, cell (9 : Int32) 9 rfl]; exact gL.1)
  · rw [if_neg q] at i1
    rw [i1, if_pos (rfl : (0 : Int) = 0), if_neg (by omega), if_neg (by omega), if_neg (by omega), if_neg (by omega), if_neg (by omega), if_neg (by omega), if_neg (by omega), if_neg (by omega), if_neg (by omega), if_neg (by omega), if_neg (by omega)]
    exact nn 5
end OM
