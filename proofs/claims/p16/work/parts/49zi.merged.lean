/-! FROM 49zi.player.lean.txt -/
/-! OBSERVERS: player -/
/-- what a player laid, kind by kind -/
def ob_T (c : Int → Int) (p : Int) (n : Nat) : Nat → Int
  | 0 => 0
  | m + 1 => ob_T c p n m + m_A c p (m : Int) n
theorem ob_T_s (c : Int → Int) (p : Int) (n m : Nat) : ob_T c p (n + 1) m = ob_T c p n m + (if 0 ≤ p ∧ c (94 + 7 * (n : Int)) ≠ p then 0 else m_J c (94 + 7 * (n : Int)) (c (94 + 7 * (n : Int) + 2)).toNat m) := by
  induction m with
  | zero =>
    show (0 : Int) = 0 + (if 0 ≤ p ∧ c (94 + 7 * (n : Int)) ≠ p then 0 else 0)
    split <;> rfl
  | succ m ih =>
    show ob_T c p (n + 1) m + (m_A c p (m : Int) n + (if 0 ≤ p ∧ c (94 + 7 * (n : Int)) ≠ p then 0 else m_K c (94 + 7 * (n : Int)) (m : Int) (c (94 + 7 * (n : Int) + 2)).toNat)) = ob_T c p n m + m_A c p (m : Int) n + (if 0 ≤ p ∧ c (94 + 7 * (n : Int)) ≠ p then 0 else m_J c (94 + 7 * (n : Int)) (c (94 + 7 * (n : Int) + 2)).toNat m + m_K c (94 + 7 * (n : Int)) (m : Int) (c (94 + 7 * (n : Int) + 2)).toNat)
    rw [ih]
    split <;> omega
theorem ob_Kall (c : Int → Int) (w : Int) (n : Nat) : m_K c w (-1) n = (n : Int) := by
  induction n with
  | zero => rfl
  | succ n ih =>
    show m_K c w (-1) n + (if (-1 : Int) < 0 ∨ c (w + 3 + (n : Int)) = -1 then 1 else 0) = ((n + 1 : Nat) : Int)
    rw [ih, if_pos (Or.inl (by decide))]
    omega
theorem ob_T_all {c : Int → Int} (h : m_G c) (p : Int) (n : Nat) : (n : Int) ≤ c 9 → ob_T c p n 10 = m_A c p (-1) n := by
  have h0 := h.1.1
  induction n with
  | zero =>
    intro _
    have z : ∀ m : Nat, ob_T c p 0 m = 0 := by
      intro m
      induction m with
      | zero => rfl
      | succ m ih => show ob_T c p 0 m + 0 = 0; omega
    exact z 10
  | succ n ih =>
    intro hn
    obtain ⟨y1, y2⟩ := h.2.2.1 (n : Int) (by omega) (by omega)
    have j := m_J_all (c := c) (w := 94 + 7 * (n : Int)) (m := (c (94 + 7 * (n : Int) + 2)).toNat) (n := 10) (fun t t0 t1 => by
      have := y2 t t0 (by omega)
      omega)
    rw [ob_T_s, ih (by omega), j]
    show _ = m_A c p (-1) n + (if 0 ≤ p ∧ c (94 + 7 * (n : Int)) ≠ p then 0 else m_K c (94 + 7 * (n : Int)) (-1) (c (94 + 7 * (n : Int) + 2)).toNat)
    rw [ob_Kall]
section OP
variable {X : XW} {lb : Nat → Nat} {C a : Nat} {σ τ : ST} {n : Int}
theorem ob_sumL {V : Nat → Int → Int} {c : Int → Int} {g : Nat} (S : y_S X lb) (G8 : y_G X lb g 1) (w : y_W X lb g 1 σ σ V) (G : m_G c) {p : Int} (hp : 0 ≤ p ∧ p < 6) (hV : ∀ k : Int, 0 ≤ k → k < 10 → V 8 (10 * p + k) = m_A c p k (c 9).toNat) {v : Int32} (hv : v.toInt = 10 * p) (fu : Nat) : ∀ x y : Int32, (2147483647 - y.toInt).toNat < fu → 10 * p ≤ y.toInt → y.toInt ≤ 10 * p + 10 → x.toInt = ob_T c p (c 9).toNat (y.toInt - 10 * p).toNat → (0 ≤ x.toInt ∧ x.toInt ≤ 80 * (y.toInt - 10 * p)) → (F_X5_sum_L5_1 X v 10 σ (q_rf X (q_rf X g 1) 1) fu x y).toInt = ob_T c p (c 9).toNat 10 := by
  have b9 := G.1.2.2.2.2.2.2.1
  have e10 : (10 : Int32).toInt = 10 := rfl
  have n8 : ((y_gn 8 : Nat) : Int) = 60 := rfl
  have ve : (v + 10).toInt = 10 * p + 10 := by rw [ar_add, hv, e10, ar_wr (by omega) (by omega)]
  induction fu with
  | zero => intro x y h; exact absurd h (Nat.not_lt_zero _)
  | succ fu ih =>
    intro x y hf y0 y1 hx xb
    rw [F_X5_sum_L5_1_s]
    unfold F_X5_sum_B5_1
    rw [q_letE (v + 10), ve]
    by_cases q : y.toInt < 10 * p + 10
    · have e1 : (y + 1).toInt = y.toInt + 1 := y_inc (by omega)
      have gk : (F_X5_get X σ (q_rf X (q_rf X g 1) 1) y).toInt = m_A c p (y.toInt - 10 * p) (c 9).toNat := by
        rw [y_getI S G8 w (id := 8) (r := q_rf X (q_rf X g 1) 1) ⟨by decide, by decide⟩ rfl rfl (by omega) (by rw [n8]; omega), ← hV _ (by omega) (by omega)]
        congr 1
        omega
      have ab := G.A_bd p (y.toInt - 10 * p) (c 9).toNat (by omega)
      have l80 := G.L80 b9.1 (Int.le_refl (c 9))
      have ex : (x + F_X5_get X σ (q_rf X (q_rf X g 1) 1) y).toInt = x.toInt + m_A c p (y.toInt - 10 * p) (c 9).toNat := by rw [ar_add, gk, ar_wr (by omega) (by omega)]
      rw [if_pos q, q_letE (F_X5_get X σ (q_rf X (q_rf X g 1) 1) y), q_letE (x + F_X5_get X σ (q_rf X (q_rf X g 1) 1) y), q_letE (y + 1)]
      refine ih _ _ (by omega) (by omega) (by omega) ?_ ⟨by omega, by omega⟩
      have et : (y.toInt + 1 - 10 * p).toNat = (y.toInt - 10 * p).toNat + 1 := by omega
      have ec : ((y.toInt - 10 * p).toNat : Int) = y.toInt - 10 * p := by omega
      rw [ex, e1, hx, et]
      show _ = ob_T c p (c 9).toNat (y.toInt - 10 * p).toNat + m_A c p (((y.toInt - 10 * p).toNat : Nat) : Int) (c 9).toNat
      rw [ec]
    · have ey : (y.toInt - 10 * p).toNat = 10 := by omega
      rw [if_neg q, hx, ey]
/-- player -/
theorem ob_player (K : al_C X lb C a) (A : al_R X C a σ τ) (M : m_M (m_c X τ a) (τ.1 a 24).toInt n) (v1 v2 : Int32) : ob_O X C a (F_X11_player X σ C v1 v2) (F_X12_player X τ a v1 v2) := by
  obtain ⟨kC, ka, S, lC, G8, G9, GM⟩ := id K
  obtain ⟨A1, A2, A3, A4⟩ := id A
  obtain ⟨m2, s2, t2⟩ := mv_beg S.1 ka (rfl : m_c X τ a = m_c X τ a)
  have G := M.1.1
  have w : y_W X lb (q_rf X C 8) 1 σ σ (y_v X (q_rf X C 8) σ) := y_W.rf
  have hP : y_v X (q_rf X C 8) σ 1 4 = m_c X τ a 2 := A1.1.1.2.2.2.2.1
  have h2 : 0 ≤ m_c X τ a 2 ∧ m_c X τ a 2 ≤ 6 := G.1.2.1
  have b9 := G.1.2.2.2.2.2.2.1
  have p1 := lk_player w v1
  rw [hP] at p1
  have p2 := lk_playerAt m2 h2 v1
  unfold F_X11_player F_X12_player
  rw [q_letE (F_X11_isPlayer X σ C v1), q_letE (q_si τ a 1 0), q_letE (q_si (q_si τ a 1 0) a 0 0), q_letE (F_X12_isPlayerAt X (q_si (q_si τ a 1 0) a 0 0) a v1)]
  obtain ⟨τ2, e2⟩ : ∃ t, t = q_si (q_si τ a 1 0) a 0 0 := ⟨_, rfl⟩
  have gd := fun {z z' : Int32} (h : z.toInt = z'.toInt) => ob_good K A M h
  have nn := fun k => ob_none K A M k
  rw [← e2] at m2 p2 gd nn ⊢
  by_cases q : 0 ≤ v1.toInt ∧ v1.toInt < m_c X τ a 2
  · rw [if_pos q] at p1 p2
    rw [p1, p2, if_neg (by decide : ¬ (1 : Int) = 0), if_neg (by decide : ¬ (1 : Int) = 0)]
    have gP := A1.1.2.2.1 v1.toInt q.1 (by omega)
    have e10 : (10 : Int32).toInt = 10 := rfl
    have n6 : ∀ k, k = 9 ∨ k = 10 ∨ k = 11 ∨ k = 12 ∨ k = 13 → ((y_gn k : Nat) : Int) = 6 := fun k h => by rcases h with e | e | e | e | e <;> subst e <;> rfl
    have cell : ∀ (k : Int32) (j : Int), k.toInt = j → 0 ≤ j → j ≤ 100 → (τ2.1 (q_rf X a 20) (k + v1).toNatClampNeg).toInt = m_c X τ a (j + v1.toInt) := fun k j h j0 j1 => gm_cell (A := j + v1.toInt) m2 (by rw [ar_add, h, ar_wr (by omega) (by omega)])
    by_cases z0 : v2.toInt = 0
    · rw [if_pos z0, if_pos z0, q_letE, q_letE ((10 : Int32) + v1), q_letE]
      exact gd (by rw [cell 10 10 rfl (by decide) (by decide), y_getI S G8 w (id := 10) (r := q_rf X (q_rf X (q_rf X C 8) 1) 3) ⟨by decide, by decide⟩ rfl rfl q.1 (by rw [n6 10 (by decide)]; omega)]; exact gP.1)
    rw [if_neg z0, if_neg z0]
    by_cases z1 : v2.toInt = 1
    · rw [if_pos z1, if_pos z1, q_letE, q_letE ((16 : Int32) + v1), q_letE]
      exact gd (by rw [cell 16 16 rfl (by decide) (by decide), y_getI S G8 w (id := 11) (r := q_rf X (q_rf X (q_rf X C 8) 1) 4) ⟨by decide, by decide⟩ rfl rfl q.1 (by rw [n6 11 (by decide)]; omega)]; exact gP.2.1)
    rw [if_neg z1, if_neg z1]
    by_cases z2 : v2.toInt = 2
    · rw [if_pos z2, if_pos z2, q_letE, q_letE (F_X12_cardsOf X τ2 a v1)]
      exact gd (by rw [gm_cardsOf m2 G rfl ⟨q.1, by omega⟩, y_getI S G8 w (id := 9) (r := q_rf X (q_rf X (q_rf X C 8) 1) 2) ⟨by decide, by decide⟩ rfl rfl q.1 (by rw [n6 9 (by decide)]; omega)]; exact A1.1.2.2.2.1.2 _ q.1 (by omega))
    rw [if_neg z2, if_neg z2]
    by_cases z3 : v2.toInt = 3
    · rw [if_pos z3, if_pos z3, q_letE, q_letE ((22 : Int32) + v1), q_letE]
      exact gd (by rw [cell 22 22 rfl (by decide) (by decide), y_getI S G8 w (id := 12) (r := q_rf X (q_rf X (q_rf X C 8) 1) 5) ⟨by decide, by decide⟩ rfl rfl q.1 (by rw [n6 12 (by decide)]; omega)]; exact gP.2.2.1)
    rw [if_neg z3, if_neg z3]
    by_cases z4 : v2.toInt = 4
    · rw [if_pos z4, if_pos z4, q_letE, q_letE ((28 : Int32) + v1), q_letE]
      exact gd (by rw [cell 28 28 rfl (by decide) (by decide), y_getI S G8 w (id := 13) (r := q_rf X (q_rf X (q_rf X C 8) 1) 6) ⟨by decide, by decide⟩ rfl rfl q.1 (by rw [n6 13 (by decide)]; omega)]; exact gP.2.2.2)
    rw [if_neg z4, if_neg z4]
    by_cases z5 : v2.toInt = 5
    · have m1 : ((-1) : Int32).toInt = -1 := rfl
      have ix : (v1 * (10 : Int32)).toInt = 10 * v1.toInt := by rw [ar_mul, e10, ar_wr (by omega) (by omega)]; omega
      rw [if_pos z5, if_pos z5, q_letE, q_letE (F_X12_laidOf X τ2 a v1 (-1))]
      refine gd ?_
      rw [gm_laidOf m2 G (p := v1.toInt) (k := -1) rfl m1, ← ob_T_all G v1.toInt _ (by omega)]
      unfold F_X1_allLaidBy F_X5_sum
      rw [q_letE (v1 * (10 : Int32)), q_letE]
      have ez : (10 * v1.toInt - 10 * v1.toInt).toNat = 0 := by omega
      have zz : (0 : Int32).toInt = 0 := rfl
      exact ob_sumL S G8 w G ⟨q.1, by omega⟩ (fun k k0 k1 => A1.1.2.2.2.2.2.1 v1.toInt k q.1 (by omega) k0 k1) ix _ 0 _ (by omega) (by omega) (by omega) (by rw [ix, ez, zz]; rfl) ⟨by decide, by rw [ix, zz]; omega⟩
    · rw [if_neg z5, if_neg z5]
      exact nn 5
  · rw [if_neg q] at p1 p2
    rw [p1, p2, if_pos rfl, if_pos rfl]
    exact nn 2
end OP
