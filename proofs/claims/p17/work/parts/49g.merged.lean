/-! FROM 49g.truth.lean.txt -/
/-! TRUE, MIXED, FALSE -/
def g_ct (f : Int → Int) (b : Int) : Nat → Int
  | 0 => 0
  | n + 1 => g_ct f b n + (if f (n : Int) = b then 1 else 0)
def g_tr (f : Int → Int) (b n : Int) : Int := if g_ct f b n.toNat = n then 0 else if g_ct f b n.toNat = 0 then 2 else 1
theorem g_ct_s (f : Int → Int) (b : Int) {x : Int} (h : 0 ≤ x) : g_ct f b (x + 1).toNat = g_ct f b x.toNat + (if f x = b then 1 else 0) := by
  have e : (x + 1).toNat = x.toNat + 1 := by omega
  have e2 : (x.toNat : Int) = x := by omega
  rw [e]
  show g_ct f b x.toNat + (if f (x.toNat : Int) = b then 1 else 0) = _
  rw [e2]
theorem g_ct_b (f : Int → Int) (b : Int) (n : Nat) : 0 ≤ g_ct f b n ∧ g_ct f b n ≤ (n : Int) := by
  induction n with
  | zero => exact ⟨Int.le_refl _, Int.le_refl _⟩
  | succ n ih =>
    have e : g_ct f b (n + 1) = g_ct f b n + (if f (n : Int) = b then 1 else 0) := rfl
    rw [e]
    split <;> omega
theorem g_ct_x {f f' : Int → Int} {b : Int} {n : Nat} (h : ∀ i : Int, 0 ≤ i → i < (n : Int) → f i = f' i) : g_ct f b n = g_ct f' b n := by
  induction n with
  | zero => rfl
  | succ n ih =>
    show g_ct f b n + (if f (n : Int) = b then 1 else 0) = g_ct f' b n + (if f' (n : Int) = b then 1 else 0)
    rw [ih (fun i a c => h i a (by omega)), h (n : Int) (by omega) (by omega)]
theorem g_tr_x {f f' : Int → Int} {b n : Int} (h : ∀ i : Int, 0 ≤ i → i < n → f i = f' i) : g_tr f b n = g_tr f' b n := by
  unfold g_tr
  rw [g_ct_x (f := f) (f' := f') (n := n.toNat) (fun i a c => h i a (by omega))]
section GF
variable {X : XW} {lb : Nat → Nat} {g o a : Nat} {σ τ σ0 τ0 : ST} {V : Nat → Int → Int} {c : Int → Int}
theorem gm_truthL (Y : y_S X lb) (G : y_G X lb g o) (w : y_W X lb g o σ0 σ V) {v1 : Int32} {k n : Int} (hv : v1.toInt = k) (hk : 0 ≤ k ∧ k < 80) (hs : V 16 k = n) (hn : 0 ≤ n ∧ n ≤ 4) (fu : Nat) : ∀ x1 x2 : Int32, (2147483647 - x2.toInt).toNat < fu → 0 ≤ x2.toInt → x2.toInt ≤ n → x1.toInt = g_ct (fun i => V 17 (4 * k + i)) (V 15 k) x2.toInt.toNat → (F_X2_truth_L4_1 X σ (q_rf X g 2) v1 fu x1 x2).toInt = g_tr (fun i => V 17 (4 * k + i)) (V 15 k) n := by
  have gn15 : ((y_gn 15 : Nat) : Int) = 80 := rfl
  have gn16 : ((y_gn 16 : Nat) : Int) = 80 := rfl
  have gn17 : ((y_gn 17 : Nat) : Int) = 320 := rfl
  have e4 : (4 : Int32).toInt = 4 := rfl
  have r4 : (F_X5_get X σ (q_rf X (q_rf X g 2) 4) v1).toInt = n := (y_getI Y G w (id := 16) ⟨by decide, by decide⟩ rfl hv hk.1 (by rw [gn16]; exact hk.2)).trans hs
  have r15 : (F_X5_get X σ (q_rf X (q_rf X g 2) 3) v1).toInt = V 15 k := y_getI Y G w (id := 15) ⟨by decide, by decide⟩ rfl hv hk.1 (by rw [gn15]; exact hk.2)
  induction fu with
  | zero => intro x1 x2 h; exact absurd h (Nat.not_lt_zero _)
  | succ fu ih =>
    intro x1 x2 hf y0 y1 hx
    have cb := g_ct_b (fun i => V 17 (4 * k + i)) (V 15 k) x2.toInt.toNat
    rw [F_X2_truth_L4_1_s]
    unfold F_X2_truth_B4_1
    rw [q_letE (F_X5_get X σ (q_rf X (q_rf X g 2) 4) v1), r4]
    by_cases q : x2.toInt < n
    · have ei : (v1 * 4 + x2).toInt = 4 * k + x2.toInt := by
        rw [ar_add, ar_mul, hv, e4, ar_wr (n := k * 4) (by omega) (by omega), ar_wr (by omega) (by omega)]
        omega
      have r13 : (F_X5_get X σ (q_rf X (q_rf X g 2) 5) (v1 * 4 + x2)).toInt = V 17 (4 * k + x2.toInt) := y_getI Y G w (id := 17) ⟨by decide, by decide⟩ rfl ei (by omega) (by rw [gn17]; omega)
      have ex1 : (x1 + 1).toInt = x1.toInt + 1 := y_inc (by omega)
      have ex2 : (x2 + 1).toInt = x2.toInt + 1 := y_inc (by omega)
      have cs := g_ct_s (fun i => V 17 (4 * k + i)) (V 15 k) y0
      rw [if_pos q, q_letE (v1 * 4), q_letE (v1 * 4 + x2), q_letE (F_X5_get X σ (q_rf X (q_rf X g 2) 5) (v1 * 4 + x2)), q_letE (F_X5_get X σ (q_rf X (q_rf X g 2) 3) v1), r13, r15]
      by_cases q2 : V 17 (4 * k + x2.toInt) = V 15 k
      · rw [if_pos q2, q_letE (x1 + 1), q_letE (x2 + 1)]
        rw [if_pos q2] at cs
        exact ih _ _ (by omega) (by omega) (by omega) (by rw [ex1, ex2, cs, hx])
      · rw [if_neg q2, q_letE (x2 + 1)]
        rw [if_neg q2] at cs
        exact ih _ _ (by omega) (by omega) (by omega) (by rw [ex2, cs, hx]; omega)
    · have ey : x2.toInt = n := by omega
      rw [ey] at hx
      rw [if_neg q]
      unfold F_X2_truth_E48_2
      rw [q_letE, r4, hx]
      unfold g_tr
      by_cases q2 : g_ct (fun i => V 17 (4 * k + i)) (V 15 k) n.toNat = n
      · rw [if_pos q2, if_pos q2]; rfl
      · rw [if_neg q2, if_neg q2]
        by_cases q3 : g_ct (fun i => V 17 (4 * k + i)) (V 15 k) n.toNat = 0
        · rw [if_pos q3, if_pos q3]; rfl
        · rw [if_neg q3, if_neg q3]; rfl
theorem gm_truth (Y : y_S X lb) (G : y_G X lb g o) (w : y_W X lb g o σ0 σ V) {v1 : Int32} {k n : Int} (hv : v1.toInt = k) (hk : 0 ≤ k ∧ k < 80) (hs : V 16 k = n) (hn : 0 ≤ n ∧ n ≤ 4) : (F_X2_truth X σ (q_rf X g 2) v1).toInt = g_tr (fun i => V 17 (4 * k + i)) (V 15 k) n := by
  have z0 : (0 : Int32).toInt = 0 := rfl
  unfold F_X2_truth
  exact gm_truthL Y G w hv hk hs hn _ 0 0 (by decide) (by decide) (by rw [z0]; exact hn.1) (by rw [z0]; rfl)
theorem gm_laid {v : Int32} {k : Int} (hv : v.toInt = k) (hk : 0 ≤ k ∧ k ≤ 80) : (F_X12_laid X τ v).toInt = 94 + 7 * k := by
  have e7 : (7 : Int32).toInt = 7 := rfl
  have e94 : (94 : Int32).toInt = 94 := rfl
  unfold F_X12_laid
  rw [q_letE, q_letE, ar_add, ar_mul, e94, e7, hv, ar_wr (n := 7 * k) (by omega) (by omega), ar_wr (by omega) (by omega)]
theorem gm_sortL (hc : m_c X τ a = c) {rr : Int32} {k n : Int} (hr : rr.toInt = 94 + 7 * k) (hk : 0 ≤ k ∧ k < 80) (hs : c (94 + 7 * k + 2) = n) (hn : 0 ≤ n ∧ n ≤ 4) (fu : Nat) : ∀ x1 x2 : Int32, (2147483647 - x2.toInt).toNat < fu → 0 ≤ x2.toInt → x2.toInt ≤ n → x1.toInt = g_ct (fun i => c (94 + 7 * k + 3 + i)) (c (94 + 7 * k + 1)) x2.toInt.toNat → (F_X12_sortOf_L10_1 X rr τ a fu x1 x2).toInt = g_tr (fun i => c (94 + 7 * k + 3 + i)) (c (94 + 7 * k + 1)) n := by
  have e1 : (1 : Int32).toInt = 1 := rfl
  have e2 : (2 : Int32).toInt = 2 := rfl
  have e3 : (3 : Int32).toInt = 3 := rfl
  have z0 : (0 : Int32).toInt = 0 := rfl
  have i1 : (rr + 1).toInt = 94 + 7 * k + 1 := by rw [ar_add, hr, e1, ar_wr (by omega) (by omega)]
  have i2 : (rr + 2).toInt = 94 + 7 * k + 2 := by rw [ar_add, hr, e2, ar_wr (by omega) (by omega)]
  have i3 : (rr + 3).toInt = 94 + 7 * k + 3 := by rw [ar_add, hr, e3, ar_wr (by omega) (by omega)]
  have r2 : (τ.1 (q_rf X a 20) (rr + 2).toNatClampNeg).toInt = n := (gm_cell hc i2).trans hs
  have r1 : (τ.1 (q_rf X a 20) (rr + 1).toNatClampNeg).toInt = c (94 + 7 * k + 1) := gm_cell hc i1
  induction fu with
  | zero => intro x1 x2 h; exact absurd h (Nat.not_lt_zero _)
  | succ fu ih =>
    intro x1 x2 hf y0 y1 hx
    have cb := g_ct_b (fun i => c (94 + 7 * k + 3 + i)) (c (94 + 7 * k + 1)) x2.toInt.toNat
    rw [F_X12_sortOf_L10_1_s]
    unfold F_X12_sortOf_B10_1
    rw [q_letE (rr + 2), q_letE (τ.1 (q_rf X a 20) (rr + 2).toNatClampNeg), r2]
    by_cases q : x2.toInt < n
    · have ei : (rr + 3 + x2).toInt = 94 + 7 * k + 3 + x2.toInt := by rw [ar_add, i3, ar_wr (by omega) (by omega)]
      have r13 : (τ.1 (q_rf X a 20) (rr + 3 + x2).toNatClampNeg).toInt = c (94 + 7 * k + 3 + x2.toInt) := gm_cell hc ei
      have ex1 : (x1 + 1).toInt = x1.toInt + 1 := y_inc (by omega)
      have ex0 : (x1 + 0).toInt = x1.toInt := by rw [ar_add, z0, ar_wr (by omega) (by omega)]; omega
      have ex2 : (x2 + 1).toInt = x2.toInt + 1 := y_inc (by omega)
      have cs := g_ct_s (fun i => c (94 + 7 * k + 3 + i)) (c (94 + 7 * k + 1)) y0
      rw [if_pos q, q_letE (rr + 3), q_letE (rr + 3 + x2), q_letE (τ.1 (q_rf X a 20) (rr + 3 + x2).toNatClampNeg), q_letE (rr + 1), q_letE (τ.1 (q_rf X a 20) (rr + 1).toNatClampNeg), r13, r1]
      by_cases q2 : c (94 + 7 * k + 3 + x2.toInt) = c (94 + 7 * k + 1)
      · rw [if_pos q2, q_letE (x1 + 1), q_letE (x2 + 1)]
        rw [if_pos q2] at cs
        exact ih _ _ (by omega) (by omega) (by omega) (by rw [ex1, ex2, cs, hx])
      · rw [if_neg q2, q_letE (x1 + 0), q_letE (x2 + 1)]
        rw [if_neg q2] at cs
        exact ih _ _ (by omega) (by omega) (by omega) (by rw [ex0, ex2, cs, hx]; omega)
    · have ey : x2.toInt = n := by omega
      rw [ey] at hx
      rw [if_neg q]
      unfold F_X12_sortOf_E59_2
      rw [q_letE, q_letE, r2, hx]
      unfold g_tr
      by_cases q2 : g_ct (fun i => c (94 + 7 * k + 3 + i)) (c (94 + 7 * k + 1)) n.toNat = n
      · rw [if_pos q2, if_pos q2]; rfl
      · rw [if_neg q2, if_neg q2]
        by_cases q3 : g_ct (fun i => c (94 + 7 * k + 3 + i)) (c (94 + 7 * k + 1)) n.toNat = 0
        · rw [if_pos q3, if_pos q3]; rfl
        · rw [if_neg q3, if_neg q3]; rfl
theorem gm_sortOf (hc : m_c X τ a = c) {v1 : Int32} {k n : Int} (hv : v1.toInt = k) (hk : 0 ≤ k ∧ k < 80) (hs : c (94 + 7 * k + 2) = n) (hn : 0 ≤ n ∧ n ≤ 4) : (F_X12_sortOf X τ a v1).toInt = g_tr (fun i => c (94 + 7 * k + 3 + i)) (c (94 + 7 * k + 1)) n := by
  have z0 : (0 : Int32).toInt = 0 := rfl
  unfold F_X12_sortOf
  rw [q_letE]
  exact gm_sortL hc (gm_laid hv ⟨hk.1, by omega⟩) hk hs hn _ 0 0 (by decide) (by decide) (by rw [z0]; exact hn.1) (by rw [z0]; rfl)
/-- both find the same sort -/
theorem rg.sort (Y : y_S X lb) (G : y_G X lb g o) (w : y_W X lb g o σ0 σ V) (R : rg V c) (hG : m_G c) (hc : m_c X τ a = c) {v1 v1' : Int32} {k : Int} (hv : v1.toInt = k) (hv' : v1'.toInt = k) (hk : 0 ≤ k ∧ k < c 9) : (F_X2_truth X σ (q_rf X g 2) v1).toInt = (F_X12_sortOf X τ a v1').toInt ∧ 0 ≤ (F_X12_sortOf X τ a v1').toInt ∧ (F_X12_sortOf X τ a v1').toInt ≤ 2 := by
  have b9 := hG.1.2.2.2.2.2.2.1
  have y4 := (hG.2.2.1 k hk.1 hk.2).1
  obtain ⟨y1, y2, y3, y5, y6⟩ := R.2.2.2.2.1.2.2 k hk.1 hk.2
  have a1 := gm_truth Y G w hv ⟨hk.1, by omega⟩ y3 ⟨by omega, by omega⟩
  have a2 := gm_sortOf hc hv' ⟨hk.1, by omega⟩ rfl ⟨by omega, by omega⟩
  rw [a1, a2, y2]
  refine ⟨g_tr_x (fun i i0 i1 => y6 i i0 i1), ?_, ?_⟩
  · unfold g_tr
    split
    · decide
    · split <;> decide
  · unfold g_tr
    split
    · decide
    · split <;> decide
end GF
