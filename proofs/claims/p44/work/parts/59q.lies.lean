/-! OBSERVERS: the cards of a kind in the heap, by players and by layings (rg_l: each layer is a player) -/
theorem ly_0 {c : Int → Int} {p d : Int} (hp : 0 ≤ p) (n : Nat) (hl : ∀ i : Int, 0 ≤ i → i < (n : Int) → c (94 + 7 * i) ≠ p) : m_A c p d n = 0 := by
  induction n with
  | zero => rfl
  | succ n ih =>
    have h1 := ih (fun i a b => hl i a (by omega))
    show m_A c p d n + (if 0 ≤ p ∧ c (94 + 7 * (n : Int)) ≠ p then 0 else m_K c (94 + 7 * (n : Int)) d (c (94 + 7 * (n : Int) + 2)).toNat) = 0
    rw [h1, if_pos ⟨hp, hl (n : Int) (by omega) (by omega)⟩, Int.add_zero]
theorem ly_gq {f : Int → Int} {d : Int} (n m : Nat) (h : ∀ p : Int, (n : Int) ≤ p → p < ((n + m : Nat) : Int) → f (10 * p + d) = 0) : gq f d (n + m) = gq f d n := by
  induction m with
  | zero => rfl
  | succ m ih =>
    have h1 := ih (fun p a b => h p a (by omega))
    have h2 := h ((n + m : Nat) : Int) (by omega) (by omega)
    show gq f d (n + m) + f (10 * ((n + m : Nat) : Int) + d) = gq f d n
    rw [h1, h2, Int.add_zero]
theorem ly_all {V : Nat → Int → Int} {c : Int → Int} (R : rg V c) (hG : m_G c) {k : Int} (hk : 0 ≤ k ∧ k < 10) : gq (V 8) k (c 2).toNat = m_A c (-1) k (c 9).toNat := by
  have b2 := hG.1.2.1
  have b9 := hG.1.2.2.2.2.2.2.1
  have l3 := R.2.2.2.2.1.2.2
  have a1 := R.2.2.2.2.2.1
  have z := gq_A (c := c) (d := k) (c 9).toNat (fun i i0 i1 => by
    have y := (l3 i i0 (by omega)).2.2.2.1
    exact ⟨y.1, by omega⟩)
  have e := ly_gq (f := V 8) (d := k) (c 2).toNat (6 - (c 2).toNat) (fun p p0 p1 => by
    rw [a1 p k (by omega) (by omega) hk.1 hk.2]
    refine ly_0 (by omega) _ (fun i i0 i1 q => ?_)
    have y := (l3 i i0 (by omega)).2.2.2.1
    omega)
  have e6 : (c 2).toNat + (6 - (c 2).toNat) = 6 := by omega
  rw [e6] at e
  rw [← e]
  have y0 := a1 0 k (by decide) (by decide) hk.1 hk.2
  have y1 := a1 1 k (by decide) (by decide) hk.1 hk.2
  have y2 := a1 2 k (by decide) (by decide) hk.1 hk.2
  have y3 := a1 3 k (by decide) (by decide) hk.1 hk.2
  have y4 := a1 4 k (by decide) (by decide) hk.1 hk.2
  have y5 := a1 5 k (by decide) (by decide) hk.1 hk.2
  show 0 + V 8 (10 * 0 + k) + V 8 (10 * 1 + k) + V 8 (10 * 2 + k) + V 8 (10 * 3 + k) + V 8 (10 * 4 + k) + V 8 (10 * 5 + k) = _
  omega
section QY
variable {X : XW} {lb : Nat → Nat} {C a : Nat} {σ τ : ST} {n : Int}
theorem ly_L (K : al_C X lb C a) (A : al_R X C a σ τ) (M : m_M (m_c X τ a) (τ.1 a 24).toInt n) {v : Int32} {k : Int} (hv : v.toInt = k) (hk : 0 ≤ k ∧ k < 10) (fu : Nat) : ∀ x p : Int32, (2147483647 - p.toInt).toNat < fu → 0 ≤ p.toInt → p.toInt ≤ m_c X τ a 2 → x.toInt = gq (y_v X (q_rf X C 8) σ 8) k p.toInt.toNat → (F_X0_lyingOf_L4_1 X σ (q_rf X C 8) v fu x p).toInt = gq (y_v X (q_rf X C 8) σ 8) k (m_c X τ a 2).toNat := by
  obtain ⟨kC, ka, S, lC, G8, G9, GM⟩ := id K
  have w : y_W X lb (q_rf X C 8) 1 σ σ (y_v X (q_rf X C 8) σ) := y_W.rf
  have b2 := M.1.1.1.2.1
  have b9 := M.1.1.1.2.2.2.2.2.2.1
  have e10 : (10 : Int32).toInt = 10 := rfl
  have n8 : ((y_gn 8 : Nat) : Int) = 60 := rfl
  have l80 := M.1.1.L80 b9.1 (Int.le_refl _)
  have f4 : (σ.1 (q_rf X (q_rf X C 8) 0) 4).toInt = m_c X τ a 2 := (w.rd (id := 1) (by decide) 4 rfl).trans A.1.1.1.2.2.2.2.1
  have cell : ∀ p : Int, 0 ≤ p → p < 6 → 0 ≤ y_v X (q_rf X C 8) σ 8 (10 * p + k) ∧ y_v X (q_rf X C 8) σ 8 (10 * p + k) ≤ 80 := fun p p0 p1 => by
    rw [A.1.1.2.2.2.2.2.1 p k p0 p1 hk.1 hk.2]
    have ab := M.1.1.A_bd p k (m_c X τ a 9).toNat (by omega)
    omega
  induction fu with
  | zero => intro x p h; exact absurd h (Nat.not_lt_zero _)
  | succ fu ih =>
    intro x p hf p0 p1 hx
    rw [F_X0_lyingOf_L4_1_s]
    unfold F_X0_lyingOf_B4_1
    rw [q_letE (σ.1 (q_rf X (q_rf X C 8) 0) 4), f4]
    by_cases q : p.toInt < m_c X τ a 2
    · have ix : (p * (10 : Int32) + v).toInt = 10 * p.toInt + k := by
        rw [ar_add, ar_mul, e10, hv, ar_wr (n := p.toInt * 10) (by omega) (by omega), ar_wr (by omega) (by omega)]
        omega
      have lv : (F_X1_laidBy X σ (q_rf X (q_rf X C 8) 1) p v).toInt = y_v X (q_rf X C 8) σ 8 (10 * p.toInt + k) := by
        unfold F_X1_laidBy
        rw [q_letE (p * (10 : Int32)), q_letE (p * (10 : Int32) + v), q_letE]
        exact y_getI S G8 w (id := 8) (r := q_rf X (q_rf X (q_rf X C 8) 1) 1) ⟨by decide, by decide⟩ rfl ix (by omega) (by rw [n8]; omega)
      have cb := cell p.toInt p0 (by omega)
      have gb := gq_b (f := y_v X (q_rf X C 8) σ 8) (d := k) p.toInt.toNat (fun t t0 t1 => cell t t0 (by omega))
      have e1 : (p + 1).toInt = p.toInt + 1 := y_inc (by omega)
      rw [if_pos q, q_letE (F_X1_laidBy X σ (q_rf X (q_rf X C 8) 1) p v)]
      obtain ⟨r, hr⟩ : ∃ r, r = F_X1_laidBy X σ (q_rf X (q_rf X C 8) 1) p v := ⟨_, rfl⟩
      rw [← hr] at lv ⊢
      rw [q_letE (x + r), q_letE (p + 1)]
      refine ih _ _ (by omega) (by omega) (by omega) ?_
      rw [e1, gq_s _ _ p0, ar_add, hx, lv, ar_wr (by omega) (by omega)]
    · have e : p.toInt = m_c X τ a 2 := by omega
      rw [if_neg q, hx, e]
/-- lies -/
theorem ob_lies (K : al_C X lb C a) (A : al_R X C a σ τ) (M : m_M (m_c X τ a) (τ.1 a 24).toInt n) (v1 : Int32) : ob_O X C a (F_X11_lies X σ C v1) (F_X12_lies X τ a v1) := by
  obtain ⟨kC, ka, S, lC, G8, G9, GM⟩ := id K
  obtain ⟨m2, s2, t2⟩ := mv_beg S.1 ka (rfl : m_c X τ a = m_c X τ a)
  have pp := an_k K A M m2 v1
  unfold F_X11_lies F_X12_lies
  rw [q_letE (F_X11_isKind X σ C v1), pp.1, q_letE (q_si τ a 1 0), q_letE (q_si (q_si τ a 1 0) a 0 0), q_letE (F_X12_isKindAt X (q_si (q_si τ a 1 0) a 0 0) a v1), pp.2]
  by_cases q : 0 ≤ v1.toInt ∧ v1.toInt < m_c X τ a 0
  · have h0 := M.1.1.1.1
    have b2 := M.1.1.1.2.1
    have z0 : (0 : Int32).toInt = 0 := rfl
    have lo := gm_laidOf (X := X) (τ := q_si (q_si τ a 1 0) a 0 0) (a := a) m2 M.1.1 (v1 := -1) (v2 := v1) (p := -1) rfl rfl
    rw [if_pos q, if_neg (by decide : ¬ (1 : Int) = 0), if_neg (by decide : ¬ (1 : Int) = 0), q_letE (F_X0_lyingOf X σ (q_rf X C 8) v1), q_letE (F_X12_laidOf X (q_si (q_si τ a 1 0) a 0 0) a (-1) v1)]
    refine ob_good K A M ?_
    rw [lo, ← ly_all A.1.1 M.1.1 ⟨q.1, by omega⟩]
    unfold F_X0_lyingOf
    exact ly_L K A M rfl ⟨q.1, by omega⟩ _ 0 0 (Nat.lt_succ_self _) (by decide) (by rw [z0]; exact b2.1) rfl
  · rw [if_neg q, if_pos rfl, if_pos rfl]
    exact ob_none K A M 2
end QY
