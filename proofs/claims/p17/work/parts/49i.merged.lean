/-! FROM 49i.doubt.lean.txt -/
/-! A DOUBT: class and reference -/
def gd_nk (c : Int → Int) (k : Int) : Int := if c 3 = 1 then (k - 1) % c 0 else (k + 1) % c 0
/-- what a doubt leaves of the class's game: t takes, P had laid, kd falls, tn is next, W has won, u of P's cards shown were not true -/
def gd_V (V V' : Nat → Int → Int) (t P kd tn W u : Int) : Prop :=
  (∀ (id : Nat) (j : Int), id ≠ 0 → id ≠ 2 → id ≠ 7 → id ≠ 8 → id ≠ 9 → id ≠ 12 → id ≠ 13 → V' id j = V id j) ∧ (V' 0 4 = kd ∧ V' 0 5 = tn ∧ V' 0 6 = W ∧ V' 0 7 = 0) ∧ (V' 2 0 = 0 ∧ V' 2 1 = 0) ∧ (∀ j : Int, ¬ (10 * t ≤ j ∧ j < 10 * t + 10) → V' 7 j = V 7 j) ∧ (∀ d : Int, 0 ≤ d → d < 10 → V' 7 (10 * t + d) = V 7 (10 * t + d) + gq (V 8) d 6) ∧ (∀ j : Int, j ≠ t → V' 9 j = V 9 j) ∧ V' 9 t = m_S (V' 7) (10 * t) 10 ∧ (∀ j : Int, 0 ≤ j → j < 60 → V' 8 j = 0) ∧ ∀ j : Int, V' 12 j = (if j = P then V 12 j + 1 else V 12 j) ∧ V' 13 j = (if j = P then V 13 j + u else V 13 j)
def gd_C (c c' : Int → Int) (t P kd tn W u : Int) : Prop :=
  (∀ j : Int, 0 ≤ j → j ≠ 5 → j ≠ 6 → j ≠ 7 → j ≠ 8 → j ≠ 9 → j ≠ 22 + P → j ≠ 28 + P → ¬ (34 + 10 * t ≤ j ∧ j < 44 + 10 * t) → c' j = c j) ∧ (c' 5 = kd ∧ c' 6 = tn ∧ c' 7 = 0 ∧ c' 8 = W ∧ c' 9 = 0) ∧ c' (22 + P) = c (22 + P) + 1 ∧ c' (28 + P) = c (28 + P) + u ∧ ∀ d : Int, 0 ≤ d → d < 10 → c' (34 + 10 * t + d) = c (34 + 10 * t + d) + m_A c (-1) d (c 9).toNat
theorem rg.doubt {V V' : Nat → Int → Int} {c c' : Int → Int} {t P kd tn W u : Int} (R : rg V c) (hG : m_G c) (hP : 0 ≤ P ∧ P < 6) (ht : 0 ≤ t ∧ t < c 2) (hW : -1 ≤ W) (v : gd_V V V' t P kd tn W u) (r : gd_C c c' t P kd tn W u) : rg V' c' := by
  obtain ⟨b0, b2, b4, b5, b6, b7, b9, b79⟩ := hG.1
  obtain ⟨⟨t1, t2, t3, t4, t5, t6⟩, ⟨s1, s2, s3, s4⟩, hpp, ⟨g1, g2⟩, ⟨l1, l2, l3⟩, ⟨a1, a2⟩⟩ := R
  obtain ⟨P1, ⟨P2, P2b, P2c, P2d⟩, ⟨P3, P3b⟩, P4, P5, P6, P7, P8, P9⟩ := v
  obtain ⟨r1, ⟨r5, r6, r7, r8, r9⟩, r22, r28, rh⟩ := r
  have w : ∀ (id : Nat) (j : Int), id ≠ 0 → id ≠ 2 → id ≠ 7 → id ≠ 8 → id ≠ 9 → id ≠ 12 → id ≠ 13 → V' id j = V id j := P1
  have d : ∀ j : Int, 0 ≤ j → j < 34 → j ≠ 5 → j ≠ 6 → j ≠ 7 → j ≠ 8 → j ≠ 9 → j ≠ 22 + P → j ≠ 28 + P → c' j = c j := fun j j0 j1 j5 j6 j7 j8 j9 j22 j28 => r1 j j0 j5 j6 j7 j8 j9 j22 j28 (by omega)
  have e9 : (c' 9).toNat = 0 := by rw [r9]; rfl
  have qa : ∀ k : Int, 0 ≤ k → k < 10 → gq (V 8) k 6 = m_A c (-1) k (c 9).toNat := by
    intro k k0 k1
    have z := gq_A (c := c) (d := k) (c 9).toNat (fun i i0 i1 => (l3 i i0 (by omega)).2.2.2.1)
    have y0 := a1 0 k (by decide) (by decide) k0 k1
    have y1 := a1 1 k (by decide) (by decide) k0 k1
    have y2 := a1 2 k (by decide) (by decide) k0 k1
    have y3 := a1 3 k (by decide) (by decide) k0 k1
    have y4 := a1 4 k (by decide) (by decide) k0 k1
    have y5 := a1 5 k (by decide) (by decide) k0 k1
    show 0 + V 8 (10 * 0 + k) + V 8 (10 * 1 + k) + V 8 (10 * 2 + k) + V 8 (10 * 3 + k) + V 8 (10 * 4 + k) + V 8 (10 * 5 + k) = _
    omega
  have h7 : ∀ j : Int, 0 ≤ j → j < 60 → V' 7 j = c' (34 + j) := by
    intro j j0 j1
    by_cases e : 10 * t ≤ j ∧ j < 10 * t + 10
    · obtain ⟨q, hq⟩ : ∃ q, q = j - 10 * t := ⟨_, rfl⟩
      have ej : j = 10 * t + q := by omega
      subst ej
      have ec : (34 : Int) + (10 * t + q) = 34 + 10 * t + q := by omega
      have gg := g1 (10 * t + q) j0 j1
      rw [ec] at gg
      rw [ec, P5 q (by omega) (by omega), rh q (by omega) (by omega), gg, qa q (by omega) (by omega)]
    · rw [P4 j e, r1 _ (by omega) (by omega) (by omega) (by omega) (by omega) (by omega) (by omega) (by omega) (by omega)]
      exact g1 j j0 j1
  refine ⟨⟨?_, ?_, ?_, ?_, ?_, ?_⟩, ⟨?_, ?_, ?_, ?_⟩, fun q q0 q1 => ⟨?_, ?_, ?_, ?_⟩, ⟨h7, fun q q0 q1 => ?_⟩, ⟨?_, ?_, fun k k0 k1 => by omega⟩, ⟨fun q k q0 q1 k0 k1 => ?_, fun k k0 k1 => ?_⟩⟩
  · rw [w 1 0 (by decide) (by decide) (by decide) (by decide) (by decide) (by decide) (by decide), d 0 (by decide) (by decide) (by decide) (by decide) (by decide) (by decide) (by decide) (by omega) (by omega)]; exact t1
  · rw [w 1 1 (by decide) (by decide) (by decide) (by decide) (by decide) (by decide) (by decide), d 1 (by decide) (by decide) (by decide) (by decide) (by decide) (by decide) (by decide) (by omega) (by omega)]; exact t2
  · rw [w 1 2 (by decide) (by decide) (by decide) (by decide) (by decide) (by decide) (by decide), d 3 (by decide) (by decide) (by decide) (by decide) (by decide) (by decide) (by decide) (by omega) (by omega)]; exact t3
  · rw [w 1 3 (by decide) (by decide) (by decide) (by decide) (by decide) (by decide) (by decide), d 4 (by decide) (by decide) (by decide) (by decide) (by decide) (by decide) (by decide) (by omega) (by omega)]; exact t4
  · rw [w 1 4 (by decide) (by decide) (by decide) (by decide) (by decide) (by decide) (by decide), d 2 (by decide) (by decide) (by decide) (by decide) (by decide) (by decide) (by decide) (by omega) (by omega)]; exact t5
  · rw [d 3 (by decide) (by decide) (by decide) (by decide) (by decide) (by decide) (by decide) (by omega) (by omega)]; exact t6
  · rw [P2, r5]
  · rw [P2b, r6, d 2 (by decide) (by decide) (by decide) (by decide) (by decide) (by decide) (by decide) (by omega) (by omega), if_neg (by omega)]
  · rw [P2c, r8]; exact ⟨rfl, hW⟩
  · rw [P2d, r7]
  · rw [w 10 q (by decide) (by decide) (by decide) (by decide) (by decide) (by decide) (by decide), d _ (by omega) (by omega) (by omega) (by omega) (by omega) (by omega) (by omega) (by omega) (by omega)]; exact (hpp q q0 q1).1
  · rw [w 11 q (by decide) (by decide) (by decide) (by decide) (by decide) (by decide) (by decide), d _ (by omega) (by omega) (by omega) (by omega) (by omega) (by omega) (by omega) (by omega) (by omega)]; exact (hpp q q0 q1).2.1
  · rw [(P9 q).1]
    by_cases e : q = P
    · rw [if_pos e, e, r22, (hpp P hP.1 hP.2).2.2.1]
    · rw [if_neg e, d _ (by omega) (by omega) (by omega) (by omega) (by omega) (by omega) (by omega) (by omega) (by omega)]; exact (hpp q q0 q1).2.2.1
  · rw [(P9 q).2]
    by_cases e : q = P
    · rw [if_pos e, e, r28, (hpp P hP.1 hP.2).2.2.2]
    · rw [if_neg e, d _ (by omega) (by omega) (by omega) (by omega) (by omega) (by omega) (by omega) (by omega) (by omega)]; exact (hpp q q0 q1).2.2.2
  · by_cases e : q = t
    · rw [e, P7]
      have sh : ∀ n : Nat, n ≤ 10 → m_S (V' 7) (10 * t) n = m_S c' (34 + 10 * t) n := by
        intro n
        induction n with
        | zero => intro _; rfl
        | succ n ih =>
          intro hn
          show m_S (V' 7) (10 * t) n + V' 7 (10 * t + (n : Int)) = m_S c' (34 + 10 * t) n + c' (34 + 10 * t + (n : Int))
          rw [ih (by omega), h7 _ (by omega) (by omega)]
          have ec : (34 : Int) + (10 * t + (n : Int)) = 34 + 10 * t + (n : Int) := by omega
          rw [ec]
      exact sh 10 (Nat.le_refl 10)
    · rw [P6 q e, g2 q q0 q1]
      exact (m_S_ext (fun j x y => r1 j (by omega) (by omega) (by omega) (by omega) (by omega) (by omega) (by omega) (by omega) (by omega))).symm
  · rw [P3, r9]
  · rw [P3b, e9]; rfl
  · rw [P8 _ (by omega) (by omega), e9]; rfl
  · rw [w 4 k (by decide) (by decide) (by decide) (by decide) (by decide) (by decide) (by decide), a2 k k0 k1]
    unfold m_I
    have pp : m_P c' k (c 2).toNat = m_P c k (c 2).toNat - (if t < (((c 2).toNat : Nat) : Int) then -(m_A c (-1) k (c 9).toNat) else 0) := gl_P (l := fun d => -(m_A c (-1) d (c 9).toNat)) ht.1 (by rw [rh k k0 k1]; omega) (fun q q0 q1 q2 => r1 _ (by omega) (by omega) (by omega) (by omega) (by omega) (by omega) (by omega) (by omega) (by omega)) (c 2).toNat (by omega)
    rw [if_pos (by omega)] at pp
    have m0 : m_A c' (-1) k 0 = 0 := rfl
    rw [e9, d 2 (by decide) (by decide) (by decide) (by decide) (by decide) (by decide) (by decide) (by omega) (by omega), pp, m0]
    omega
section GI
variable {X : XW} {lb : Nat → Nat} {g o a : Nat} {σ τ σ0 τ0 : ST} {V V0 : Nat → Int → Int} {c c0 : Int → Int}
theorem gm_kindDoubt (w : y_W X lb g o σ0 σ V) (t0 : V 1 0 = c 0) (t2 : V 1 2 = c 3) (h0 : 2 ≤ c 0 ∧ c 0 ≤ 10) {x : Int32} {k : Int} (hx : x.toInt = k) (hk : 0 ≤ k ∧ k < c 0) : (F_X6_kindAfterDoubt X σ (q_rf X g 0) x).toInt = gd_nk c k := by
  have one : (1 : Int32).toInt = 1 := rfl
  have e2 : (σ.1 (q_rf X g 0) 2).toInt = c 3 := (w.rd (id := 1) (by decide) 2 rfl).trans t2
  have e0 : (σ.1 (q_rf X g 0) 0).toInt = c 0 := (w.rd (id := 1) (by decide) 0 rfl).trans t0
  unfold F_X6_kindAfterDoubt gd_nk
  rw [q_letE (σ.1 (q_rf X g 0) 0), e0, if_pos (by omega : 0 < c 0), q_letE (σ.1 (q_rf X g 0) 2), e2]
  by_cases q : c 3 = 1
  · rw [if_pos q, if_pos q, q_letE, q_letE, q_letE]
    exact gm_fm (by rw [ar_sub, hx, one, ar_wr (by omega) (by omega)]) e0 ⟨by omega, by omega⟩ ⟨by omega, by omega⟩
  · rw [if_neg q, if_neg q, q_letE, q_letE, q_letE]
    exact gm_fm (by rw [ar_add, hx, one, ar_wr (by omega) (by omega)]) e0 ⟨by omega, by omega⟩ ⟨by omega, by omega⟩
theorem gm_nextKind0 (hc : m_c X τ a = c) (h0 : 2 ≤ c 0 ∧ c 0 ≤ 10) (h5 : 0 ≤ c 5 ∧ c 5 < c 0) : (F_X12_nextKind X τ a 0).toInt = gd_nk c (c 5) := by
  have one : (1 : Int32).toInt = 1 := rfl
  have r0 : (τ.1 (q_rf X a 20) (0 : Int32).toNatClampNeg).toInt = c 0 := gm_cell hc rfl
  have r3 : (τ.1 (q_rf X a 20) (3 : Int32).toNatClampNeg).toInt = c 3 := gm_cell hc rfl
  have r5 : (τ.1 (q_rf X a 20) (5 : Int32).toNatClampNeg).toInt = c 5 := gm_cell hc rfl
  have rm : ∀ (x : Int32) (k : Int), x.toInt = k → 0 ≤ k → (x % τ.1 (q_rf X a 20) (0 : Int32).toNatClampNeg).toInt = k % c 0 := by
    intro x k hx h0'
    rw [Int32.toInt_mod, hx, r0, Int.tmod_eq_emod_of_nonneg h0']
  unfold F_X12_nextKind gd_nk
  rw [q_letE (τ.1 (q_rf X a 20) (0 : Int32).toNatClampNeg), q_letE (τ.1 (q_rf X a 20) (3 : Int32).toNatClampNeg), r3]
  by_cases q0 : c 3 = 0
  · rw [if_pos q0, if_neg (by omega), q_letE, q_letE, q_letE]
    exact rm _ _ (by rw [ar_add, r5, one, ar_wr (by omega) (by omega)]) (by omega)
  · rw [if_neg q0, q_letE (τ.1 (q_rf X a 20) (3 : Int32).toNatClampNeg), r3]
    by_cases q1 : c 3 = 1
    · rw [if_pos q1, q_letE (τ.1 (q_rf X a 20) (3 : Int32).toNatClampNeg), r3, if_pos q1, if_pos q1, q_letE, q_letE, q_letE, q_letE]
      rw [rm _ (c 5 + c 0 - 1) (by rw [ar_sub, ar_add, r5, r0, one, ar_wr (n := c 5 + c 0) (by omega) (by omega), ar_wr (by omega) (by omega)]) (by omega)]
      exact gm_back
    · rw [if_neg q1, if_neg q1, if_pos (by decide), q_letE, q_letE, q_letE]
      exact rm _ _ (by rw [ar_add, r5, one, ar_wr (by omega) (by omega)]) (by omega)
/-- behind the cards shown: the class -/
theorem gd_tail (Y : y_S X lb) (G : y_G X lb g o) (w : y_W X lb g o σ0 τ V) {t tn k : Int} (H : gt_p V t) {x4 x5 : Int32} (h4 : x4.toInt = t) (h5 : x5.toInt = tn) (t0 : V 1 0 = c 0) (t2 : V 1 2 = c 3) (h0 : 2 ≤ c 0 ∧ c 0 ≤ 10) (v4 : V 0 4 = k) (hk : 0 ≤ k ∧ k < c 0) :
    ∃ (σ' : ST) (V' VT : Nat → Int → Int), q_let (F_X1_takeHeap X τ (q_rf X g 1) x4 : ST) (fun σ_16 => q_let (F_X2_clear X σ_16 (q_rf X g 2) : ST) (fun σ_18 => q_let (q_si σ_18 g 7 (0 : Int32) : ST) (fun σ_19 => q_let (σ_19.1 g 4 : Int32) (fun f_20 => q_let (F_X6_kindAfterDoubt X σ_19 (q_rf X g 0) f_20 : Int32) (fun r_21 => q_let (q_si σ_19 g 4 r_21 : ST) (fun σ_23 => q_let (q_si σ_23 g 5 x5 : ST) (fun σ_24 => (x4, σ_24)))))))) = (x4, σ') ∧ y_W X lb g o σ0 σ' V' ∧ gt_V V VT t ∧ V' = y_up (y_up (y_up (y_up (y_up VT 2 0 0) 2 1 0) 0 7 0) 0 4 (gd_nk c k)) 0 5 tn := by
  have z0 : (0 : Int32).toInt = 0 := rfl
  obtain ⟨VT, w1, P⟩ := gm_takeHeap Y G w H h4
  rw [q_letE (F_X1_takeHeap X τ (q_rf X g 1) x4)]
  obtain ⟨τ1, e1⟩ : ∃ s, s = F_X1_takeHeap X τ (q_rf X g 1) x4 := ⟨_, rfl⟩
  rw [← e1] at w1 ⊢
  have d2 : F_X2_clear X τ1 (q_rf X g 2) = q_si (q_si τ1 (q_rf X g 2) 0 0) (q_rf X g 2) 1 0 := by
    unfold F_X2_clear
    rw [q_letE, q_letE]
  have w2 : y_W X lb g o σ0 (q_si τ1 (q_rf X g 2) 0 0) (y_up VT 2 0 0) := w1.si Y G (id := 2) (by decide) 0 0
  have w3 : y_W X lb g o σ0 (q_si (q_si τ1 (q_rf X g 2) 0 0) (q_rf X g 2) 1 0) (y_up (y_up VT 2 0 0) 2 1 0) := w2.si Y G (id := 2) (by decide) 1 0
  rw [← d2] at w3
  rw [q_letE (F_X2_clear X τ1 (q_rf X g 2))]
  obtain ⟨τ2, e2⟩ : ∃ s, s = F_X2_clear X τ1 (q_rf X g 2) := ⟨_, rfl⟩
  rw [← e2] at w3 ⊢
  have w4 : y_W X lb g o σ0 (q_si τ2 g 7 0) (y_up (y_up (y_up VT 2 0 0) 2 1 0) 0 7 0) := w3.si Y G (id := 0) (by decide) 7 0
  rw [q_letE (q_si τ2 g 7 0)]
  obtain ⟨τ3, e3⟩ : ∃ s, s = q_si τ2 g 7 0 := ⟨_, rfl⟩
  rw [← e3] at w4 ⊢
  have u : ∀ (id : Nat) (j : Int), id ≠ 2 → (id ≠ 0 ∨ j ≠ 7) → id ≠ 7 → id ≠ 8 → id ≠ 9 → y_up (y_up (y_up VT 2 0 0) 2 1 0) 0 7 0 id j = V id j := fun id j i2 i0 i7 i8 i9 => by
    rw [y_up_ne i0, y_up_ne (Or.inl i2), y_up_ne (Or.inl i2)]
    exact P.1 id j i7 i8 i9
  have f4 : (τ3.1 g 4).toInt = k := (w4.rd (id := 0) (by decide) 4 rfl).trans ((u 0 4 (by decide) (Or.inr (by decide)) (by decide) (by decide) (by decide)).trans v4)
  have kd := gm_kindDoubt (c := c) w4 ((u 1 0 (by decide) (Or.inl (by decide)) (by decide) (by decide) (by decide)).trans t0) ((u 1 2 (by decide) (Or.inl (by decide)) (by decide) (by decide) (by decide)).trans t2) h0 f4 hk
  rw [q_letE (τ3.1 g 4), q_letE (F_X6_kindAfterDoubt X τ3 (q_rf X g 0) (τ3.1 g 4))]
  obtain ⟨r, hr⟩ : ∃ r, r = F_X6_kindAfterDoubt X τ3 (q_rf X g 0) (τ3.1 g 4) := ⟨_, rfl⟩
  rw [← hr] at kd ⊢
  have w5 : y_W X lb g o σ0 (q_si τ3 g 4 r) (y_up (y_up (y_up (y_up VT 2 0 0) 2 1 0) 0 7 0) 0 4 r.toInt) := w4.si Y G (id := 0) (by decide) 4 r
  rw [kd] at w5
  rw [q_letE (q_si τ3 g 4 r)]
  obtain ⟨τ4, e4⟩ : ∃ s, s = q_si τ3 g 4 r := ⟨_, rfl⟩
  rw [← e4] at w5 ⊢
  have w6 : y_W X lb g o σ0 (q_si τ4 g 5 x5) (y_up (y_up (y_up (y_up (y_up VT 2 0 0) 2 1 0) 0 7 0) 0 4 (gd_nk c k)) 0 5 x5.toInt) := w5.si Y G (id := 0) (by decide) 5 x5
  rw [h5] at w6
  rw [q_letE (q_si τ4 g 5 x5)]
  exact ⟨_, _, VT, rfl, w6, P, rfl⟩
/-- a doubt in the class's game -/
theorem gm_challenge (Y : y_S X lb) (G : y_G X lb g o) (w : y_W X lb g o σ0 τ V) (R : rg V c) (hG : m_G c) (h7 : c 7 = 1) (hW : ∀ q : Int, 0 ≤ q → q < 6 → (0 ≤ c (22 + q) ∧ c (22 + q) ≤ 1000000) ∧ 0 ≤ c (28 + q) ∧ c (28 + q) ≤ 1000000) {v1 : Int32} {q : Int} (hv : v1.toInt = q) (hq : 0 ≤ q ∧ q < c 2) {s : Int} (hs : (F_X2_topTruth X τ (q_rf X g 2)).toInt = s) :
    ∃ (z : Int32) (σ' : ST) (V' : Nat → Int → Int), F_X0_challenge X τ g v1 = (z, σ') ∧ z.toInt = (if s = 0 then q else c 6) ∧ y_W X lb g o σ0 σ' V' ∧ gd_V V V' (if s = 0 then q else c 6) (c 6) (gd_nk c (c 5)) (if s = 0 then c 6 else q) (if s = 0 then (if m_S c (34 + 10 * c 6) 10 = 0 then c 6 else c 8) else c 8) (if s = 0 then 0 else 1) := by
  obtain ⟨b0, b2, b4, b5, b6, b7, b9, b79⟩ := hG.1
  have pr : 0 ≤ c 6 ∧ c 6 < c 2 := by omega
  obtain ⟨P, hP⟩ : ∃ P, P = c 6 := ⟨_, rfl⟩
  rw [← hP] at pr ⊢
  have R' := R
  obtain ⟨⟨t1, t2, t3, t4, t5, t6⟩, ⟨s1, s2, s3, s4⟩, hpp, ⟨g1, g2⟩, ⟨l1, l2, l3⟩, ⟨a1, a2⟩⟩ := R'
  have n2 : ¬ c 2 = 0 := by omega
  rw [if_neg n2, ← hP] at s2
  have z0 : (0 : Int32).toInt = 0 := rfl
  have one : (1 : Int32).toInt = 1 := rfl
  have gn12 : ((y_gn 12 : Nat) : Int) = 6 := rfl
  have gn13 : ((y_gn 13 : Nat) : Int) = 6 := rfl
  have hw := hW P pr.1 (by omega)
  have v12 : V 12 P = c (22 + P) := (hpp P pr.1 (by omega)).2.2.1
  have v13 : V 13 P = c (28 + P) := (hpp P pr.1 (by omega)).2.2.2
  -- who takes: bounds of the rows
  have gtp : ∀ (V1 : Nat → Int → Int) (t : Int), 0 ≤ t → t < 6 → (∀ j, V1 7 j = V 7 j) → (∀ j, V1 8 j = V 8 j) → (∀ j, V1 9 j = V 9 j) → gt_p V1 t := by
    intro V1 t h0 h1 e7 e8 e9
    have sh : ∀ n : Nat, n ≤ 10 → m_S (V1 7) (10 * t) n = m_S c (34 + 10 * t) n := by
      intro n
      induction n with
      | zero => intro _; rfl
      | succ n ih =>
        intro hn
        show m_S (V1 7) (10 * t) n + V1 7 (10 * t + (n : Int)) = m_S c (34 + 10 * t) n + c (34 + 10 * t + (n : Int))
        have ec : (34 : Int) + (10 * t + (n : Int)) = 34 + 10 * t + (n : Int) := by omega
        rw [ih (by omega), e7, g1 _ (by omega) (by omega), ec]
    have s80 := hG.S80 (p := t) (k := 10) h0 h1 (by decide) (by decide)
    have z10 : m_S c (34 + 10 * t) (10 : Int).toNat = m_S c (34 + 10 * t) 10 := rfl
    refine ⟨⟨h0, h1⟩, fun j j0 j1 => ⟨?_, ?_⟩, ?_, ?_⟩
    · rw [e7, g1 j j0 j1]
      have hh := hG.h80 (p := j / 10) (k := j % 10) (by omega) (by omega) (by omega) (by omega)
      have ej : 34 + 10 * (j / 10) + j % 10 = 34 + j := by omega
      rw [ej] at hh
      exact hh
    · rw [e8]
      have ej : 10 * (j / 10) + j % 10 = j := by omega
      have y := a1 (j / 10) (j % 10) (by omega) (by omega) (by omega) (by omega)
      rw [ej] at y
      have ab := hG.A_bd (j / 10) (j % 10) (c 9).toNat (by omega)
      have lb := hG.L80 b9.1 (Int.le_refl (c 9))
      rw [y]
      omega
    · rw [e9, g2 t h0 h1]
      exact (sh 10 (Nat.le_refl 10)).symm
    · rw [e9, g2 t h0 h1]
      omega
  -- turn and cards shown
  have f5 : (τ.1 g 5).toInt = P := (w.rd (id := 0) (by decide) 5 rfl).trans s2
  have w1 := w.add Y G (id := 12) (r := q_rf X (q_rf X g 1) 5) ⟨by decide, by decide⟩ rfl (τ.1 g 5) 1 (by omega) (by rw [gn12]; omega)
  rw [f5, one, ar_wr (by omega) (by omega)] at w1
  unfold F_X0_challenge
  rw [q_letE (F_X2_topTruth X τ (q_rf X g 2)), hs]
  by_cases hs0 : s = 0
  · rw [if_pos hs0, if_pos hs0, if_pos hs0, if_pos hs0, if_pos hs0]
    unfold F_X0_challenge_J15_1
    rw [if_neg (by decide : ¬ (1 : Int32).toInt = 0)]
    unfold F_X0_challenge_J28_2
    rw [if_neg (by decide : ¬ (1 : Int32).toInt = 0), q_letE (τ.1 g 5)]
    unfold F_X0_challenge_J41_3
    rw [q_letE (τ.1 g 5), q_letE (F_X5_add X τ (q_rf X (q_rf X g 1) 5) (τ.1 g 5) 1), if_neg (by decide : ¬ (1 : Int32).toInt = 0)]
    obtain ⟨τ1, e1⟩ : ∃ s, s = F_X5_add X τ (q_rf X (q_rf X g 1) 5) (τ.1 g 5) 1 := ⟨_, rfl⟩
    rw [← e1] at w1 ⊢
    have w2 := gm_winIfRid Y G w1 (p := P) ((y_up_ne (Or.inl (by decide))).trans s2) ⟨pr.1, by omega⟩
    have r9 : y_up V 12 P (V 12 P + 1) 9 P = m_S c (34 + 10 * P) 10 := (y_up_ne (Or.inl (by decide))).trans (g2 P pr.1 (by omega))
    have r6 : y_up V 12 P (V 12 P + 1) 0 6 = c 8 := (y_up_ne (Or.inl (by decide))).trans s3.1
    rw [r9, r6] at w2
    obtain ⟨W, hWn⟩ : ∃ W : Int, W = (if m_S c (34 + 10 * P) 10 = 0 then P else c 8) := ⟨_, rfl⟩
    rw [← hWn] at w2 ⊢
    rw [q_letE (F_X0_winIfRid X τ1 g)]
    obtain ⟨τ2, e2⟩ : ∃ s, s = F_X0_winIfRid X τ1 g := ⟨_, rfl⟩
    rw [← e2] at w2 ⊢
    obtain ⟨V1, hV1⟩ : ∃ v, v = y_up (y_up V 12 P (V 12 P + 1)) 0 6 W := ⟨_, rfl⟩
    rw [← hV1] at w2
    have u : ∀ (id : Nat) (j : Int), id ≠ 12 → (id ≠ 0 ∨ j ≠ 6) → V1 id j = V id j := fun id j i12 i0 => by
      rw [hV1, y_up_ne i0, y_up_ne (Or.inl i12)]
    obtain ⟨σ', V', VT, x1, x2, x3, x4⟩ := gd_tail (c := c) Y G w2 (t := q) (tn := P) (gtp V1 q hq.1 (by omega) (fun j => u 7 j (by decide) (Or.inl (by decide))) (fun j => u 8 j (by decide) (Or.inl (by decide))) (fun j => u 9 j (by decide) (Or.inl (by decide)))) (x4 := v1) (x5 := τ.1 g 5) hv f5 ((u 1 0 (by decide) (Or.inl (by decide))).trans t1) ((u 1 2 (by decide) (Or.inl (by decide))).trans t3) b0 ((u 0 4 (by decide) (Or.inr (by decide))).trans s1) b5
    refine ⟨v1, σ', V', x1, hv, x2, ?_⟩
    obtain ⟨y1, y2, y3, y4, y5, y6⟩ := x3
    have k : ∀ (id : Nat) (j : Int), id ≠ 0 → id ≠ 2 → V' id j = VT id j := fun id j i0 i2 => by
      rw [x4, y_up_ne (Or.inl i0), y_up_ne (Or.inl i0), y_up_ne (Or.inl i0), y_up_ne (Or.inl i2), y_up_ne (Or.inl i2)]
    have k7 : V' 7 = VT 7 := funext (fun j => k 7 j (by decide) (by decide))
    have k8 : V1 8 = V 8 := funext (fun j => u 8 j (by decide) (Or.inl (by decide)))
    refine ⟨fun id j i0 i2 i7 i8 i9 i12 i13 => ?_, ⟨?_, ?_, ?_, ?_⟩, ⟨?_, ?_⟩, fun j hj => ?_, fun d d0 d1 => ?_, fun j hj => ?_, ?_, fun j j0 j1 => ?_, fun j => ⟨?_, ?_⟩⟩
    · rw [k id j i0 i2, y1 id j i7 i8 i9]; exact u id j i12 (Or.inl i0)
    · rw [x4, y_up_ne (Or.inr (by decide)), y_up_eq]
    · rw [x4, y_up_eq]
    · rw [x4, y_up_ne (Or.inr (by decide)), y_up_ne (Or.inr (by decide)), y_up_ne (Or.inr (by decide)), y_up_ne (Or.inl (by decide)), y_up_ne (Or.inl (by decide)), y1 0 6 (by decide) (by decide) (by decide), hV1, y_up_eq]
    · rw [x4, y_up_ne (Or.inr (by decide)), y_up_ne (Or.inr (by decide)), y_up_eq]
    · rw [x4, y_up_ne (Or.inl (by decide)), y_up_ne (Or.inl (by decide)), y_up_ne (Or.inl (by decide)), y_up_ne (Or.inr (by decide)), y_up_eq]
    · rw [x4, y_up_ne (Or.inl (by decide)), y_up_ne (Or.inl (by decide)), y_up_ne (Or.inl (by decide)), y_up_eq]
    · rw [k7, y2 j hj]; exact u 7 j (by decide) (Or.inl (by decide))
    · rw [k7, y3 d d0 d1, k8, u 7 _ (by decide) (Or.inl (by decide))]
    · rw [k 9 j (by decide) (by decide), y4 j hj]; exact u 9 j (by decide) (Or.inl (by decide))
    · rw [k 9 q (by decide) (by decide), y5, k7]
    · rw [k 8 j (by decide) (by decide)]; exact y6 j j0 j1
    · rw [k 12 j (by decide) (by decide), y1 12 j (by decide) (by decide) (by decide), hV1, y_up_ne (Or.inl (by decide))]
      by_cases e : j = P
      · rw [if_pos e, e, y_up_eq]
      · rw [if_neg e, y_up_ne (Or.inr e)]
    · rw [k 13 j (by decide) (by decide), y1 13 j (by decide) (by decide) (by decide), u 13 j (by decide) (Or.inl (by decide))]
      split <;> omega
  · rw [if_neg hs0, if_neg hs0, if_neg hs0, if_neg hs0, if_neg hs0]
    unfold F_X0_challenge_J15_1
    rw [if_pos (by decide : (0 : Int32).toInt = 0), q_letE (τ.1 g 5)]
    unfold F_X0_challenge_J28_2
    rw [if_pos (by decide : (0 : Int32).toInt = 0)]
    unfold F_X0_challenge_J41_3
    rw [q_letE (τ.1 g 5), q_letE (F_X5_add X τ (q_rf X (q_rf X g 1) 5) (τ.1 g 5) 1), if_pos (by decide : (0 : Int32).toInt = 0)]
    obtain ⟨τ1, e1⟩ : ∃ s, s = F_X5_add X τ (q_rf X (q_rf X g 1) 5) (τ.1 g 5) 1 := ⟨_, rfl⟩
    rw [← e1] at w1 ⊢
    have f11 : (τ1.1 g 5).toInt = P := (w1.rd (id := 0) (by decide) 5 rfl).trans ((y_up_ne (Or.inl (by decide))).trans s2)
    have w2 := w1.add Y G (id := 13) (r := q_rf X (q_rf X g 1) 6) ⟨by decide, by decide⟩ rfl (τ1.1 g 5) 1 (by omega) (by rw [gn13]; omega)
    rw [f11, one, y_up_ne (Or.inl (by decide)), ar_wr (by omega) (by omega)] at w2
    rw [q_letE (τ1.1 g 5), q_letE (F_X5_add X τ1 (q_rf X (q_rf X g 1) 6) (τ1.1 g 5) 1)]
    obtain ⟨τ2, e2⟩ : ∃ s, s = F_X5_add X τ1 (q_rf X (q_rf X g 1) 6) (τ1.1 g 5) 1 := ⟨_, rfl⟩
    rw [← e2] at w2 ⊢
    obtain ⟨V1, hV1⟩ : ∃ v, v = y_up (y_up V 12 P (V 12 P + 1)) 13 P (V 13 P + 1) := ⟨_, rfl⟩
    rw [← hV1] at w2
    have u : ∀ (id : Nat) (j : Int), id ≠ 12 → id ≠ 13 → V1 id j = V id j := fun id j i12 i13 => by
      rw [hV1, y_up_ne (Or.inl i13), y_up_ne (Or.inl i12)]
    obtain ⟨σ', V', VT, x1, x2, x3, x4⟩ := gd_tail (c := c) Y G w2 (t := P) (tn := q) (gtp V1 P pr.1 (by omega) (fun j => u 7 j (by decide) (by decide)) (fun j => u 8 j (by decide) (by decide)) (fun j => u 9 j (by decide) (by decide))) (x4 := τ.1 g 5) (x5 := v1) f5 hv ((u 1 0 (by decide) (by decide)).trans t1) ((u 1 2 (by decide) (by decide)).trans t3) b0 ((u 0 4 (by decide) (by decide)).trans s1) b5
    refine ⟨τ.1 g 5, σ', V', x1, f5, x2, ?_⟩
    obtain ⟨y1, y2, y3, y4, y5, y6⟩ := x3
    have k : ∀ (id : Nat) (j : Int), id ≠ 0 → id ≠ 2 → V' id j = VT id j := fun id j i0 i2 => by
      rw [x4, y_up_ne (Or.inl i0), y_up_ne (Or.inl i0), y_up_ne (Or.inl i0), y_up_ne (Or.inl i2), y_up_ne (Or.inl i2)]
    have k7 : V' 7 = VT 7 := funext (fun j => k 7 j (by decide) (by decide))
    have k8 : V1 8 = V 8 := funext (fun j => u 8 j (by decide) (by decide))
    refine ⟨fun id j i0 i2 i7 i8 i9 i12 i13 => ?_, ⟨?_, ?_, ?_, ?_⟩, ⟨?_, ?_⟩, fun j hj => ?_, fun d d0 d1 => ?_, fun j hj => ?_, ?_, fun j j0 j1 => ?_, fun j => ⟨?_, ?_⟩⟩
    · rw [k id j i0 i2, y1 id j i7 i8 i9]; exact u id j i12 i13
    · rw [x4, y_up_ne (Or.inr (by decide)), y_up_eq]
    · rw [x4, y_up_eq]
    · rw [x4, y_up_ne (Or.inr (by decide)), y_up_ne (Or.inr (by decide)), y_up_ne (Or.inr (by decide)), y_up_ne (Or.inl (by decide)), y_up_ne (Or.inl (by decide)), y1 0 6 (by decide) (by decide) (by decide), u 0 6 (by decide) (by decide)]
      exact s3.1
    · rw [x4, y_up_ne (Or.inr (by decide)), y_up_ne (Or.inr (by decide)), y_up_eq]
    · rw [x4, y_up_ne (Or.inl (by decide)), y_up_ne (Or.inl (by decide)), y_up_ne (Or.inl (by decide)), y_up_ne (Or.inr (by decide)), y_up_eq]
    · rw [x4, y_up_ne (Or.inl (by decide)), y_up_ne (Or.inl (by decide)), y_up_ne (Or.inl (by decide)), y_up_eq]
    · rw [k7, y2 j hj]; exact u 7 j (by decide) (by decide)
    · rw [k7, y3 d d0 d1, k8, u 7 _ (by decide) (by decide)]
    · rw [k 9 j (by decide) (by decide), y4 j hj]; exact u 9 j (by decide) (by decide)
    · rw [k 9 P (by decide) (by decide), y5, k7]
    · rw [k 8 j (by decide) (by decide)]; exact y6 j j0 j1
    · rw [k 12 j (by decide) (by decide), y1 12 j (by decide) (by decide) (by decide), hV1, y_up_ne (Or.inl (by decide))]
      by_cases e : j = P
      · rw [if_pos e, e, y_up_eq]
      · rw [if_neg e, y_up_ne (Or.inr e)]
    · rw [k 13 j (by decide) (by decide), y1 13 j (by decide) (by decide) (by decide), hV1]
      by_cases e : j = P
      · rw [if_pos e, e, y_up_eq]
      · rw [if_neg e, y_up_ne (Or.inr e), y_up_ne (Or.inl (by decide))]
end GI
