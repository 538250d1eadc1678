/-! FROM 49zl.other.lean.txt -/
/-! A ROUND PLAYED: both draw alike, both find the same other kind -/
section PA
variable {X : XW} {lb : Nat → Nat} {g o a R : Nat} {σ τ σ0 : ST} {V : Nat → Int → Int} {c : Int → Int}
theorem pl_draw (h : σ.1 R 6 = τ.1 a 39) : ∃ (z s : Int32), F_X7_draw X σ R = (z, q_si σ R 6 s) ∧ F_X12_draw X τ a = (z, q_si τ a 39 s) := by
  obtain ⟨w, hw⟩ : ∃ w, w = (σ.1 R 6 * (2861 : Int32) + (10259 : Int32)) % (65536 : Int32) := ⟨_, rfl⟩
  refine ⟨w / 8 % 16, w, ?_, ?_⟩
  · unfold F_X7_draw
    rw [q_letE (σ.1 R 6), q_letE (σ.1 R 6 * (2861 : Int32)), q_letE (σ.1 R 6 * (2861 : Int32) + (10259 : Int32)), q_letE ((σ.1 R 6 * (2861 : Int32) + (10259 : Int32)) % (65536 : Int32)), ← hw, q_letE (q_si σ R 6 w), q_letE ((q_si σ R 6 w).1 R 6), si_eq, q_letE (w / (8 : Int32)), q_letE (w / (8 : Int32) % (16 : Int32))]
  · unfold F_X12_draw
    rw [← h, q_letE (σ.1 R 6), q_letE (σ.1 R 6 * (2861 : Int32)), q_letE (σ.1 R 6 * (2861 : Int32) + (10259 : Int32)), q_letE ((σ.1 R 6 * (2861 : Int32) + (10259 : Int32)) % (65536 : Int32)), ← hw, q_letE (q_si τ a 39 w), q_letE ((q_si τ a 39 w).1 a 39), si_eq, q_letE (w / (8 : Int32)), q_letE (w / (8 : Int32) % (16 : Int32))]
theorem gm_min (x y : Int32) : (F_J9_min_7cf53 X σ x y).toInt = if y.toInt < x.toInt then y.toInt else x.toInt := by
  unfold F_J9_min_7cf53
  split <;> rfl
theorem gm_held (Y : y_S X lb) (G : y_G X lb g o) (w : y_W X lb g o σ0 σ V) {x y : Int32} {p k : Int} (hx : x.toInt = p) (hy : y.toInt = k) (hp : 0 ≤ p ∧ p < 6) (hk : 0 ≤ k ∧ k < 10) : (F_X1_heldBy X σ (q_rf X g 1) x y).toInt = V 7 (10 * p + k) := by
  have e10 : (10 : Int32).toInt = 10 := rfl
  have n7 : ((y_gn 7 : Nat) : Int) = 60 := rfl
  have ix : (x * (10 : Int32) + y).toInt = 10 * p + k := by
    rw [ar_add, ar_mul, e10, hx, hy, ar_wr (n := p * 10) (by omega) (by omega), ar_wr (by omega) (by omega)]
    omega
  unfold F_X1_heldBy
  rw [q_letE (x * (10 : Int32)), q_letE (x * (10 : Int32) + y), q_letE]
  exact y_getI Y G w (id := 7) (r := q_rf X (q_rf X g 1) 0) ⟨by decide, by decide⟩ rfl ix (by omega) (by rw [n7]; omega)
theorem pl_otherL (Y : y_S X lb) (G : y_G X lb g o) (w : y_W X lb g o σ0 σ V) (Rg : rg V c) (hG : m_G c) (hc : m_c X τ a = c) {p : Int} (h6 : V 0 5 = p) (hp : 0 ≤ p ∧ p < 6) {v1 : Int32} (hv : v1.toInt = p) (fu : Nat) : ∀ x m y : Int32, (2147483647 - y.toInt).toNat < fu → 0 ≤ y.toInt → y.toInt ≤ c 0 →
    ((x.toInt = -1 ∧ m.toInt = 0 ∧ ∀ k : Int, 0 ≤ k → k < y.toInt → k ≠ c 5 → c (34 + 10 * p + k) ≤ 0) ∨ ((0 ≤ x.toInt ∧ x.toInt < c 0) ∧ x.toInt ≠ c 5 ∧ m.toInt = c (34 + 10 * p + x.toInt) ∧ 0 < m.toInt)) →
    ∃ z : Int32, F_X7_fullestOther_L6_1 X σ g fu x m y = z ∧ F_X12_otherKind_L4_1 X τ a v1 fu x y = z ∧ ((z.toInt = -1 ∧ ∀ k : Int, 0 ≤ k → k < c 0 → k ≠ c 5 → c (34 + 10 * p + k) ≤ 0) ∨ ((0 ≤ z.toInt ∧ z.toInt < c 0) ∧ z.toInt ≠ c 5 ∧ 0 < c (34 + 10 * p + z.toInt))) := by
  obtain ⟨b0, b2, b4, b5, b6, b7, b9, b79⟩ := hG.1
  have f0 : (σ.1 (q_rf X g 0) 0).toInt = c 0 := (w.rd (id := 1) (by decide) 0 rfl).trans Rg.1.1
  have f5 : (σ.1 g 5).toInt = p := (w.rd (id := 0) (by decide) 5 rfl).trans h6
  have f4 : (σ.1 g 4).toInt = c 5 := (w.rd (id := 0) (by decide) 4 rfl).trans Rg.2.1.1
  have t0 : (τ.1 (q_rf X a 20) (0 : Int32).toNatClampNeg).toInt = c 0 := gm_cell (A := 0) hc rfl
  have t5 : (τ.1 (q_rf X a 20) (5 : Int32).toNatClampNeg).toInt = c 5 := gm_cell (A := 5) hc rfl
  induction fu with
  | zero => intro x m y h; exact absurd h (Nat.not_lt_zero _)
  | succ fu ih =>
    intro x m y hf y0 y1 inv
    rw [F_X7_fullestOther_L6_1_s, F_X12_otherKind_L4_1_s]
    unfold F_X7_fullestOther_B6_1 F_X12_otherKind_B4_1
    rw [q_letE (σ.1 (q_rf X g 0) 0), f0, q_letE (τ.1 (q_rf X a 20) (0 : Int32).toNatClampNeg), t0]
    by_cases q : y.toInt < c 0
    · have e1 : (y + 1).toInt = y.toInt + 1 := y_inc (by omega)
      obtain ⟨hh, ehh⟩ : ∃ h, h = c (34 + 10 * p + y.toInt) := ⟨_, rfl⟩
      have e34 : (34 : Int) + (10 * p + y.toInt) = 34 + 10 * p + y.toInt := by omega
      have hl : (F_X1_heldBy X σ (q_rf X g 1) (σ.1 g 5) y).toInt = hh := by
        rw [gm_held Y G w f5 rfl hp ⟨y0, by omega⟩, Rg.2.2.2.1.1 _ (by omega) (by omega), e34, ehh]
      have ho : (F_X12_handOf X τ a v1 y).toInt = hh := (gm_handOf hc hv rfl hp ⟨y0, by omega⟩).trans ehh.symm
      rw [if_pos q, if_pos q, q_letE (σ.1 g 5), q_letE (F_X1_heldBy X σ (q_rf X g 1) (σ.1 g 5) y), q_letE (σ.1 g 4), f4, q_letE (τ.1 (q_rf X a 20) (5 : Int32).toNatClampNeg), t5, hl]
      by_cases q5 : y.toInt = c 5
      · rw [if_pos q5, if_pos q5, q_letE (y + 1), q_letE (y + 1)]
        refine ih x m (y + 1) (by omega) (by omega) (by omega) ?_
        rcases inv with ⟨i1, i2, i3⟩ | i
        · refine Or.inl ⟨i1, i2, fun k k0 k1 k5 => i3 k k0 ?_ k5⟩
          rw [e1] at k1
          rw [← q5] at k5
          omega
        · exact Or.inr i
      · rw [if_neg q5, if_neg q5, q_letE (F_X12_handOf X τ a v1 y), ho]
        rcases inv with ⟨i1, i2, i3⟩ | ⟨i1, i2, i3, i4⟩
        · rw [i2]
          by_cases q0 : 0 < hh
          · rw [if_pos q0, if_pos q0, if_pos (by omega : x.toInt < 0), q_letE (y + 1), q_letE (y + 1)]
            exact ih y _ (y + 1) (by omega) (by omega) (by omega) (Or.inr ⟨⟨y0, q⟩, q5, hl.trans ehh, by rw [hl]; exact q0⟩)
          · rw [if_neg q0, if_neg q0, q_letE (y + 1), q_letE (y + 1)]
            refine ih x m (y + 1) (by omega) (by omega) (by omega) (Or.inl ⟨i1, i2, fun k k0 k1 k5 => ?_⟩)
            rw [e1] at k1
            by_cases e : k = y.toInt
            · rw [e, ← ehh]; omega
            · exact i3 k k0 (by omega) k5
        · have hx : (F_X12_handOf X τ a v1 x).toInt = m.toInt := (gm_handOf hc hv rfl hp ⟨i1.1, by omega⟩).trans i3.symm
          by_cases q0 : m.toInt < hh
          · rw [if_pos q0, if_pos (by omega : 0 < hh), if_neg (by omega : ¬ x.toInt < 0), q_letE (F_X12_handOf X τ a v1 y), q_letE (F_X12_handOf X τ a v1 x), ho, hx, if_pos q0, q_letE (y + 1), q_letE (y + 1)]
            exact ih y _ (y + 1) (by omega) (by omega) (by omega) (Or.inr ⟨⟨y0, q⟩, q5, hl.trans ehh, by rw [hl]; omega⟩)
          · rw [if_neg q0, q_letE (y + 1)]
            have nx := ih x m (y + 1) (by omega) (by omega) (by omega) (Or.inr ⟨i1, i2, i3, i4⟩)
            by_cases q1 : 0 < hh
            · rw [if_pos q1, if_neg (by omega : ¬ x.toInt < 0), q_letE (F_X12_handOf X τ a v1 y), q_letE (F_X12_handOf X τ a v1 x), ho, hx, if_neg q0, q_letE (y + 1)]
              exact nx
            · rw [if_neg q1, q_letE (y + 1)]
              exact nx
    · have ey : y.toInt = c 0 := by omega
      rw [if_neg q, if_neg q]
      refine ⟨x, rfl, rfl, ?_⟩
      rcases inv with ⟨i1, i2, i3⟩ | ⟨i1, i2, i3, i4⟩
      · rw [ey] at i3
        exact Or.inl ⟨i1, i3⟩
      · rw [i3] at i4
        exact Or.inr ⟨i1, i2, i4⟩
/-- the fullest other kind -/
theorem pl_other (Y : y_S X lb) (G : y_G X lb g o) (w : y_W X lb g o σ0 σ V) (Rg : rg V c) (hG : m_G c) (hc : m_c X τ a = c) {p : Int} (h6 : V 0 5 = p) (hp : 0 ≤ p ∧ p < 6) {v1 : Int32} (hv : v1.toInt = p) :
    ∃ z : Int32, F_X7_fullestOther X σ g = z ∧ F_X12_otherKind X τ a v1 = z ∧ ((z.toInt = -1 ∧ ∀ k : Int, 0 ≤ k → k < c 0 → k ≠ c 5 → c (34 + 10 * p + k) ≤ 0) ∨ ((0 ≤ z.toInt ∧ z.toInt < c 0) ∧ z.toInt ≠ c 5 ∧ 0 < c (34 + 10 * p + z.toInt))) := by
  have z0 : (0 : Int32).toInt = 0 := rfl
  unfold F_X7_fullestOther F_X12_otherKind
  exact pl_otherL Y G w Rg hG hc h6 hp hv _ (-1) 0 0 (by decide) (by decide) (by rw [z0]; have := hG.1.1; omega) (Or.inl ⟨rfl, rfl, fun k k0 k1 => by rw [z0] at k1; omega⟩)
end PA
