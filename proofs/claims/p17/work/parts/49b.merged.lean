/-! FROM 49b.leave.lean.txt -/
/-! A LAYING LEFT, A PLAYER BENT -/
/-- the kind behind k, where no one doubted -/
def gm_nk (c : Int → Int) (k : Int) : Int := if c 3 = 2 then k else if c 3 = 0 then (k + 1) % c 0 else (k - 1) % c 0
section GB
variable {X : XW} {lb : Nat → Nat} {g o a : Nat} {σ τ σ0 τ0 : ST} {V : Nat → Int → Int} {c : Int → Int}
theorem gm_back {k K : Int} : (k + K - 1) % K = (k - 1) % K := by
  have e : k + K - 1 = (k - 1) + K * 1 := by omega
  rw [e, Int.add_mul_emod_self_left]
theorem gm_cell (hc : m_c X τ a = c) {i : Int32} {A : Int} (h : i.toInt = A) : (τ.1 (q_rf X a 20) i.toNatClampNeg).toInt = c A := by
  have z := m_rd (X := X) (σ := τ) (a := a) rfl h
  rw [hc] at z
  exact z
/-- the class: the kind that follows -/
theorem gm_kindAfter (w : y_W X lb g o σ0 σ V) (t : rg_t V c) (h : m_H c) {x : Int32} {k : Int} (hx : x.toInt = k) (hk : 0 ≤ k ∧ k < c 0) : (F_X6_kindAfter X σ (q_rf X g 0) x 1).toInt = gm_nk c k := by
  obtain ⟨t1, t2, t3, t4, t5, t6⟩ := t
  have one : (1 : Int32).toInt = 1 := rfl
  have e2 : (σ.1 (q_rf X g 0) 2).toInt = c 3 := (w.rd (id := 1) (by decide) 2 rfl).trans t3
  have e0 : (σ.1 (q_rf X g 0) 0).toInt = c 0 := (w.rd (id := 1) (by decide) 0 rfl).trans t1
  have h0 := h.1
  unfold F_X6_kindAfter gm_nk
  rw [q_letE (σ.1 (q_rf X g 0) 2), e2]
  by_cases q : c 3 = 2
  · rw [if_pos q, if_pos q]
    exact hx
  · rw [if_neg q, if_neg q, q_letE (σ.1 (q_rf X g 0) 0), e0, if_pos (by omega), q_letE (σ.1 (q_rf X g 0) 2), e2]
    by_cases q0 : c 3 = 0
    · rw [if_pos q0, if_pos q0, q_letE, q_letE, q_letE]
      exact gm_fm (by rw [ar_add, hx, one, ar_wr (by omega) (by omega)]) e0 ⟨by omega, by omega⟩ ⟨by omega, by omega⟩
    · rw [if_neg q0, if_neg q0, q_letE, q_letE, q_letE]
      exact gm_fm (by rw [ar_sub, hx, one, ar_wr (by omega) (by omega)]) e0 ⟨by omega, by omega⟩ ⟨by omega, by omega⟩
/-- the reference's -/
theorem gm_nextKind (hc : m_c X τ a = c) (h0 : 2 ≤ c 0 ∧ c 0 ≤ 10) (h5 : 0 ≤ c 5 ∧ c 5 < c 0) (h3 : 0 ≤ c 3 ∧ c 3 ≤ 2) : (F_X12_nextKind X τ a 1).toInt = gm_nk c (c 5) := by
  have one : (1 : Int32).toInt = 1 := rfl
  have r0 : (τ.1 (q_rf X a 20) (0 : Int32).toNatClampNeg).toInt = c 0 := gm_cell hc rfl
  have r3 : (τ.1 (q_rf X a 20) (3 : Int32).toNatClampNeg).toInt = c 3 := gm_cell hc rfl
  have r5 : (τ.1 (q_rf X a 20) (5 : Int32).toNatClampNeg).toInt = c 5 := gm_cell hc rfl
  have rm : ∀ (x : Int32) (k : Int), x.toInt = k → 0 ≤ k → (x % τ.1 (q_rf X a 20) (0 : Int32).toNatClampNeg).toInt = k % c 0 := by
    intro x k hx h0'
    rw [Int32.toInt_mod, hx, r0, Int.tmod_eq_emod_of_nonneg h0']
  unfold F_X12_nextKind gm_nk
  rw [q_letE (τ.1 (q_rf X a 20) (0 : Int32).toNatClampNeg), q_letE (τ.1 (q_rf X a 20) (3 : Int32).toNatClampNeg), r3]
  by_cases q0 : c 3 = 0
  · rw [if_pos q0, if_neg (by omega), if_pos q0, q_letE, q_letE, q_letE]
    exact rm _ _ (by rw [ar_add, r5, one, ar_wr (by omega) (by omega)]) (by omega)
  · rw [if_neg q0, q_letE (τ.1 (q_rf X a 20) (3 : Int32).toNatClampNeg), r3]
    by_cases q1 : c 3 = 1
    · rw [if_pos q1, q_letE (τ.1 (q_rf X a 20) (3 : Int32).toNatClampNeg), r3, if_pos q1, if_neg (by omega), if_neg q0, q_letE, q_letE, q_letE, q_letE]
      rw [rm _ (c 5 + c 0 - 1) (by rw [ar_sub, ar_add, r5, r0, one, ar_wr (n := c 5 + c 0) (by omega) (by omega), ar_wr (by omega) (by omega)]) (by omega)]
      exact gm_back
    · rw [if_neg q1, one, if_neg (by decide), q_letE (τ.1 (q_rf X a 20) (3 : Int32).toNatClampNeg), r3, if_neg q1, if_pos (by omega), q_letE]
      exact r5
/-- who follows -/
theorem gm_playerAfter (w : y_W X lb g o σ0 σ V) (t : rg_t V c) (h : m_H c) {x : Int32} {p : Int} (hx : x.toInt = p) (hp : 0 ≤ p ∧ p < c 2) : (F_X6_playerAfter X σ (q_rf X g 0) x 1).toInt = (p + 1) % c 2 := by
  have one : (1 : Int32).toInt = 1 := rfl
  have h2 := h.2.1
  have e4 : (σ.1 (q_rf X g 0) 4).toInt = c 2 := (w.rd (id := 1) (by decide) 4 rfl).trans t.2.2.2.2.1
  unfold F_X6_playerAfter
  rw [q_letE (σ.1 (q_rf X g 0) 4), e4, if_pos (by omega), q_letE, q_letE, q_letE]
  exact gm_fm (by rw [ar_add, hx, one, ar_wr (by omega) (by omega)]) e4 ⟨by omega, by omega⟩ ⟨by omega, by omega⟩
theorem gm_behindOf (hc : m_c X τ a = c) (h2 : 0 ≤ c 2 ∧ c 2 ≤ 6) {x : Int32} {p : Int} (hx : x.toInt = p) (hp : 0 ≤ p ∧ p < c 2) : (F_X12_behindOf X τ a x).toInt = (p + 1) % c 2 := by
  have one : (1 : Int32).toInt = 1 := rfl
  have r2 : (τ.1 (q_rf X a 20) (2 : Int32).toNatClampNeg).toInt = c 2 := gm_cell hc rfl
  unfold F_X12_behindOf
  rw [q_letE, q_letE, q_letE, Int32.toInt_mod, ar_add, hx, one, ar_wr (by omega) (by omega), r2, Int.tmod_eq_emod_of_nonneg (by omega)]
/-- the reference's cards of a player -/
theorem gm_handOf (hc : m_c X τ a = c) {x y : Int32} {p k : Int} (hx : x.toInt = p) (hy : y.toInt = k) (hp : 0 ≤ p ∧ p < 6) (hk : 0 ≤ k ∧ k < 10) : (F_X12_handOf X τ a x y).toInt = c (34 + 10 * p + k) := by
  have e10 : (10 : Int32).toInt = 10 := rfl
  have e34 : (34 : Int32).toInt = 34 := rfl
  unfold F_X12_handOf
  rw [q_letE, q_letE, q_letE, q_letE]
  exact gm_cell hc (by rw [ar_add, ar_add, ar_mul, e34, e10, hx, hy, ar_wr (n := 10 * p) (by omega) (by omega), ar_wr (n := 34 + 10 * p) (by omega) (by omega), ar_wr (by omega) (by omega)])
theorem gm_cardsL (hc : m_c X τ a = c) (hb : ∀ p k : Int, 0 ≤ p → p < 6 → 0 ≤ k → k < 10 → 0 ≤ c (34 + 10 * p + k) ∧ c (34 + 10 * p + k) ≤ 80) {v : Int32} {p : Int} (hv : v.toInt = p) (hp : 0 ≤ p ∧ p < 6) (k : Nat) : ∀ x y : Int32, (2147483647 - y.toInt).toNat < k → 0 ≤ y.toInt → y.toInt ≤ 10 → x.toInt = m_S c (34 + 10 * p) y.toInt.toNat → 0 ≤ x.toInt → x.toInt ≤ 80 * y.toInt → (F_X12_cardsOf_L4_1 X τ a v k x y).toInt = m_S c (34 + 10 * p) 10 := by
  induction k with
  | zero => intro x y hm; exact absurd hm (Nat.not_lt_zero _)
  | succ k ih =>
    intro x y hm y0 y1 hx x0 x1
    rw [F_X12_cardsOf_L4_1_s]
    unfold F_X12_cardsOf_B4_1
    by_cases q : y.toInt < 10
    · have hh := gm_handOf hc hv (y := y) rfl hp ⟨y0, q⟩
      have bb := hb p y.toInt hp.1 hp.2 y0 q
      have e1 : (y + 1).toInt = y.toInt + 1 := y_inc (by omega)
      have ex : (x + F_X12_handOf X τ a v y).toInt = x.toInt + c (34 + 10 * p + y.toInt) := by rw [ar_add, hh, ar_wr (by omega) (by omega)]
      rw [if_pos q, q_letE, q_letE, q_letE]
      refine ih _ _ (by omega) (by omega) (by omega) ?_ (by omega) (by omega)
      rw [ex, e1, hx]
      have et : (y.toInt + 1).toNat = y.toInt.toNat + 1 := by omega
      rw [et]
      show _ = m_S c (34 + 10 * p) y.toInt.toNat + c (34 + 10 * p + (y.toInt.toNat : Int))
      have ec : (y.toInt.toNat : Int) = y.toInt := by omega
      rw [ec]
    · have ey : y.toInt = 10 := by omega
      rw [if_neg q, hx, ey]
      rfl
theorem gm_cardsOf (hc : m_c X τ a = c) (hG : m_G c) {v : Int32} {p : Int} (hv : v.toInt = p) (hp : 0 ≤ p ∧ p < 6) : (F_X12_cardsOf X τ a v).toInt = m_S c (34 + 10 * p) 10 := by
  unfold F_X12_cardsOf
  have z0 : (0 : Int32).toInt = 0 := rfl
  exact gm_cardsL hc (fun p k a1 a2 a3 a4 => hG.h80 a1 a2 a3 a4) hv hp _ 0 0 (by decide) (by decide) (by decide) (by rw [z0]; rfl) (by decide) (by decide)
end GB
