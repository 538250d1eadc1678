/-! FROM 49zg.laid.lean.txt -/
/-! OBSERVERS: what was laid, what is in the game -/
section OL
variable {X : XW} {lb : Nat → Nat} {C a : Nat} {σ τ : ST} {n : Int} {c : Int → Int}
theorem gm_laidI (hc : m_c X τ a = c) {r v2 : Int32} {w k m s0 : Int} (hr : r.toInt = w) (hw : 0 ≤ w ∧ w ≤ 700) (hk : v2.toInt = k) (hs : c (w + 2) = m) (hm : 0 ≤ m ∧ m ≤ 4) (h0 : 0 ≤ s0 ∧ s0 ≤ 1000) (x2 : Int32) (B5 : Int32 → Int32 → Int32) (fu : Nat) : ∀ x y : Int32, (2147483647 - y.toInt).toNat < fu → 0 ≤ y.toInt → y.toInt ≤ m → x.toInt = s0 + m_K c w k y.toInt.toNat → ∃ x' : Int32, x'.toInt = s0 + m_K c w k m.toNat ∧ F_X12_laidOf_L45_4 X r τ a v2 x2 B5 fu x y = B5 x' (x2 + 1) := by
  have e2 : (2 : Int32).toInt = 2 := rfl
  have e3 : (3 : Int32).toInt = 3 := rfl
  have one : (1 : Int32).toInt = 1 := rfl
  have z0 : (0 : Int32).toInt = 0 := rfl
  have i2 : (r + 2).toInt = w + 2 := by rw [ar_add, hr, e2, ar_wr (by omega) (by omega)]
  have i3 : (r + 3).toInt = w + 3 := by rw [ar_add, hr, e3, ar_wr (by omega) (by omega)]
  have c2 : (τ.1 (q_rf X a 20) (r + 2).toNatClampNeg).toInt = m := (gm_cell (A := w + 2) hc i2).trans hs
  induction fu with
  | zero => intro x y h; exact absurd h (Nat.not_lt_zero _)
  | succ fu ih =>
    intro x y hf y0 y1 hx
    have bd := m_K_bd c w k y.toInt.toNat
    rw [F_X12_laidOf_L45_4_s]
    unfold F_X12_laidOf_B45_4
    rw [q_letE (r + 2), q_letE (τ.1 (q_rf X a 20) (r + 2).toNatClampNeg), c2]
    by_cases q : y.toInt < m
    · have e1 : (y + 1).toInt = y.toInt + 1 := y_inc (by omega)
      have ks := m_K_succ c w k y.toInt y0
      have ex : ∀ d : Int32, d.toInt = 0 ∨ d.toInt = 1 → (x + d).toInt = x.toInt + d.toInt := fun d hd => by rw [ar_add, ar_wr (by omega) (by omega)]
      rw [if_pos q, hk]
      by_cases qk : k < 0
      · rw [if_pos qk, q_letE (x + 1), q_letE (y + 1)]
        rw [if_pos (Or.inl qk)] at ks
        exact ih _ _ (by omega) (by omega) (by omega) (by rw [ex 1 (Or.inr rfl), one, hx, e1, ks]; omega)
      · have i4 : (r + 3 + y).toInt = w + 3 + y.toInt := by rw [ar_add, i3, ar_wr (by omega) (by omega)]
        have c4 : (τ.1 (q_rf X a 20) (r + 3 + y).toNatClampNeg).toInt = c (w + 3 + y.toInt) := gm_cell (A := w + 3 + y.toInt) hc i4
        rw [if_neg qk, q_letE (r + 3), q_letE (r + 3 + y), q_letE (τ.1 (q_rf X a 20) (r + 3 + y).toNatClampNeg), c4]
        by_cases qe : c (w + 3 + y.toInt) = k
        · rw [if_pos qe, q_letE (x + 1), q_letE (y + 1)]
          rw [if_pos (Or.inr qe)] at ks
          exact ih _ _ (by omega) (by omega) (by omega) (by rw [ex 1 (Or.inr rfl), one, hx, e1, ks]; omega)
        · rw [if_neg qe, q_letE (x + 0), q_letE (y + 1)]
          rw [if_neg (by omega)] at ks
          exact ih _ _ (by omega) (by omega) (by omega) (by rw [ex 0 (Or.inl rfl), z0, hx, e1, ks]; omega)
    · have ey : y.toInt = m := by omega
      rw [if_neg q]
      unfold F_X12_laidOf_E93_5
      rw [q_letE]
      exact ⟨x, by rw [hx, ey], rfl⟩
theorem gm_laidL (hc : m_c X τ a = c) (hG : m_G c) {v1 v2 : Int32} {p k : Int} (hp : v1.toInt = p) (hk : v2.toInt = k) (fu : Nat) : ∀ x y : Int32, (2147483647 - y.toInt).toNat < fu → 0 ≤ y.toInt → y.toInt ≤ c 9 → x.toInt = m_A c p k y.toInt.toNat → (F_X12_laidOf_L5_1 X τ a v1 v2 fu x y).toInt = m_A c p k (c 9).toNat := by
  have b9 := hG.1.2.2.2.2.2.2.1
  have z0 : (0 : Int32).toInt = 0 := rfl
  have r9 : (τ.1 (q_rf X a 20) (9 : Int32).toNatClampNeg).toInt = c 9 := gm_cell (A := 9) hc rfl
  induction fu with
  | zero => intro x y h; exact absurd h (Nat.not_lt_zero _)
  | succ fu ih =>
    intro x y hf y0 y1 hx
    rw [F_X12_laidOf_L5_1_s]
    unfold F_X12_laidOf_B5_1
    rw [q_letE (τ.1 (q_rf X a 20) (9 : Int32).toNatClampNeg), r9]
    by_cases q : y.toInt < c 9
    · have e1 : (y + 1).toInt = y.toInt + 1 := y_inc (by omega)
      have lv : (F_X12_laid X τ y).toInt = 94 + 7 * y.toInt := gm_laid rfl ⟨y0, by omega⟩
      have sz := (hG.2.2.1 y.toInt y0 q).1
      have as := m_A_succ c p k y.toInt y0
      have ab := hG.A_bd p k y.toInt.toNat (by omega)
      have l80 := hG.L80 y0 (by omega : y.toInt ≤ c 9)
      have cp : (τ.1 (q_rf X a 20) (F_X12_laid X τ y).toNatClampNeg).toInt = c (94 + 7 * y.toInt) := gm_cell (A := 94 + 7 * y.toInt) hc lv
      rw [if_pos q, q_letE (F_X12_laid X τ y), hp]
      have cnt : (if 0 ≤ p ∧ c (94 + 7 * y.toInt) ≠ p then (0 : Int) else m_K c (94 + 7 * y.toInt) k (c (94 + 7 * y.toInt + 2)).toNat) = m_K c (94 + 7 * y.toInt) k (c (94 + 7 * y.toInt + 2)).toNat → (F_X12_laidOf_J42_3 X (F_X12_laid X τ y) τ a v2 y (F_X12_laidOf_L5_1 X τ a v1 v2 fu) x).toInt = m_A c p k (c 9).toNat := by
        intro h
        obtain ⟨x', h1, h2⟩ := gm_laidI (X := X) (τ := τ) (a := a) hc (k := k) (s0 := m_A c p k y.toInt.toNat) lv ⟨by omega, by omega⟩ hk rfl ⟨by omega, by omega⟩ ⟨by omega, by omega⟩ y (F_X12_laidOf_L5_1 X τ a v1 v2 fu) ((2147483647 - (0 : Int32).toInt).toNat + 1) x 0 (by omega) (by decide) (by rw [z0]; omega) (by rw [hx, z0]; show _ = m_A c p k y.toInt.toNat + 0; omega)
        unfold F_X12_laidOf_J42_3
        rw [h2]
        exact ih _ _ (by omega) (by omega) (by omega) (by rw [h1, e1, as, h])
      by_cases qp : p < 0
      · rw [if_pos qp]
        exact cnt (if_neg (by omega))
      · rw [if_neg qp, q_letE (τ.1 (q_rf X a 20) (F_X12_laid X τ y).toNatClampNeg), cp]
        by_cases qe : c (94 + 7 * y.toInt) = p
        · rw [if_pos qe]
          exact cnt (if_neg (by omega))
        · rw [if_neg qe, q_letE (y + 1)]
          rw [if_pos ⟨by omega, qe⟩] at as
          exact ih _ _ (by omega) (by omega) (by omega) (by rw [hx, e1, as]; omega)
    · have ey : y.toInt = c 9 := by omega
      rw [if_neg q, hx, ey]
/-- what a player laid -/
theorem gm_laidOf (hc : m_c X τ a = c) (hG : m_G c) {v1 v2 : Int32} {p k : Int} (hp : v1.toInt = p) (hk : v2.toInt = k) : (F_X12_laidOf X τ a v1 v2).toInt = m_A c p k (c 9).toNat := by
  have b9 := hG.1.2.2.2.2.2.2.1
  have z0 : (0 : Int32).toInt = 0 := rfl
  unfold F_X12_laidOf
  exact gm_laidL hc hG hp hk _ 0 0 (by decide) (by decide) (by rw [z0]; omega) (by rw [z0]; rfl)
theorem gm_inL (hc : m_c X τ a = c) (hG : m_G c) {v : Int32} {k : Int} (hk : v.toInt = k) (hk10 : 0 ≤ k ∧ k < 10) {s0 : Int} (h0 : 0 ≤ s0 ∧ s0 ≤ 1000) (fu : Nat) : ∀ x y : Int32, (2147483647 - y.toInt).toNat < fu → 0 ≤ y.toInt → y.toInt ≤ c 2 → x.toInt = s0 + m_P c k y.toInt.toNat → (0 ≤ x.toInt ∧ x.toInt ≤ s0 + 80 * y.toInt) → (F_X12_inGameOf_L9_1 X τ a v fu x y).toInt = s0 + m_P c k (c 2).toNat := by
  have h2 : 0 ≤ c 2 ∧ c 2 ≤ 6 := hG.1.2.1
  have r2 : (τ.1 (q_rf X a 20) (2 : Int32).toNatClampNeg).toInt = c 2 := gm_cell (A := 2) hc rfl
  induction fu with
  | zero => intro x y h; exact absurd h (Nat.not_lt_zero _)
  | succ fu ih =>
    intro x y hf y0 y1 hx xb
    rw [F_X12_inGameOf_L9_1_s]
    unfold F_X12_inGameOf_B9_1
    rw [q_letE (τ.1 (q_rf X a 20) (2 : Int32).toNatClampNeg), r2]
    by_cases q : y.toInt < c 2
    · have e1 : (y + 1).toInt = y.toInt + 1 := y_inc (by omega)
      have hh := gm_handOf hc (x := y) (y := v) rfl hk ⟨y0, by omega⟩ hk10
      have bb := hG.h80 y0 (by omega : y.toInt < 6) hk10.1 hk10.2
      have ex : (x + F_X12_handOf X τ a y v).toInt = x.toInt + c (34 + 10 * y.toInt + k) := by rw [ar_add, hh, ar_wr (by omega) (by omega)]
      rw [if_pos q, q_letE (F_X12_handOf X τ a y v), q_letE (x + F_X12_handOf X τ a y v), q_letE (y + 1)]
      refine ih _ _ (by omega) (by omega) (by omega) ?_ ⟨by omega, by omega⟩
      rw [ex, e1, hx, m_P_succ c k y.toInt y0]
      omega
    · have ey : y.toInt = c 2 := by omega
      rw [if_neg q, hx, ey]
/-- how many of a kind are in the game -/
theorem gm_inGameOf (hc : m_c X τ a = c) (hG : m_G c) {v : Int32} {k : Int} (hk : v.toInt = k) (hk10 : 0 ≤ k ∧ k < 10) : (F_X12_inGameOf X τ a v).toInt = m_I c k := by
  have h2 : 0 ≤ c 2 ∧ c 2 ≤ 6 := hG.1.2.1
  have b9 := hG.1.2.2.2.2.2.2.1
  have z0 : (0 : Int32).toInt = 0 := rfl
  have m1 : ((-1) : Int32).toInt = -1 := rfl
  have lo := gm_laidOf (X := X) (τ := τ) (a := a) hc hG (v1 := -1) (v2 := v) m1 hk
  have ab := hG.A_bd (-1) k (c 9).toNat (by omega)
  have l80 := hG.L80 b9.1 (Int.le_refl (c 9))
  unfold F_X12_inGameOf
  rw [q_letE (F_X12_laidOf X τ a (-1) v)]
  exact gm_inL hc hG hk hk10 ⟨ab.1, by omega⟩ _ _ 0 (by decide) (by decide) (by rw [z0]; exact h2.1) (by rw [lo, z0]; show _ = m_A c (-1) k (c 9).toNat + 0; omega) ⟨by omega, by rw [lo, z0]; omega⟩
end OL
