/-! OBSERVERS: who is most ready to doubt -/
section QI
variable {X : XW} {lb : Nat → Nat} {C a : Nat} {σ τ : ST} {n : Int}
/-- good, behind numbers of the reference's own -/
theorem ob_goodS (K : al_C X lb C a) (A : al_R X C a σ τ) (M : m_M (m_c X τ a) (τ.1 a 24).toInt n) {z z' : Int32} (h : z.toInt = z'.toInt) {τ2 : ST} (h1 : τ2.1 = (q_si (q_si τ a 1 0) a 0 0).1) (h2 : ∀ b f, b ≠ a → τ2.2.1 b f = τ.2.1 b f) : ob_O X C a (q_bi (F_X11_good X σ C z) (fun r s => (r, s))) (z', τ2) := by
  obtain ⟨a1, a2, a3⟩ := ob_good K A M h
  refine ⟨a1, ?_, an_same K a3 h1 h2⟩
  show _ = (τ2.1 a 0).toInt
  rw [h1]
  exact a2
theorem lg_gt (x y : Int64) : 0 < (lg_cmp x y).toInt ↔ y.toInt < x.toInt := by
  have h := lg_cmp_gt x y
  rw [Int32.lt_iff_toInt_lt, Int64.lt_iff_toInt_lt] at h
  exact h
/-- worth: heap times what is won less what is lost -/
theorem w_worth (K : al_C X lb C a) (A : al_R X C a σ τ) (M : m_M (m_c X τ a) (τ.1 a 24).toInt n) (h9 : 1 ≤ m_c X τ a 9) {v : Int32} {p : Int} (hv : v.toInt = p) (hp : 0 ≤ p ∧ p < m_c X τ a 2) : (F_X0_worthTop X σ (q_rf X C 8) v).toInt = m_L (m_c X τ a) (m_c X τ a 9).toNat * w_w (m_c X τ a) p := by
  obtain ⟨kC, ka, S, lC, G8, G9, GM⟩ := id K
  have w : y_W X lb (q_rf X C 8) 1 σ σ (y_v X (q_rf X C 8) σ) := y_W.rf
  have two : (2 : Int64).toInt = 2 := rfl
  obtain ⟨c1, c2⟩ := w_class K A M h9 hv hp
  obtain ⟨b1, b2⟩ := w_tl_b M.1.1 h9 hp
  have b9 := M.1.1.1.2.2.2.2.2.2.1
  have l80 := M.1.1.L80 b9.1 (Int.le_refl _)
  have f1 : (σ.1 (q_rf X (q_rf X C 8) 2) 1).toInt = m_L (m_c X τ a) (m_c X τ a 9).toNat := (w.rd (id := 2) (by decide) 1 rfl).trans A.1.1.2.2.2.2.1.2.1
  have l0 := (M.1.1.A_bd (-1) 0 (m_c X τ a 9).toNat (by omega))
  have m := m_mulI (a := m_L (m_c X τ a) (m_c X τ a 9).toNat) (A := 80) (b := w_w (m_c X τ a) p + 4000000) (B := 6000000) (by omega) (by omega) (by unfold w_w; omega) (by unfold w_w; omega)
  have d := Int.mul_add (m_L (m_c X τ a) (m_c X τ a 9).toNat) (w_w (m_c X τ a) p) 4000000
  unfold F_X0_worthTop
  rw [q_letE (σ.1 (q_rf X (q_rf X C 8) 2) 1), q_letE, q_letE (F_X0_allWays X σ (q_rf X C 8) v), q_letE (F_X0_trueWays X σ (q_rf X C 8) v), q_letE, q_letE, q_letE]
  have e7 : ((2 : Int64) * F_X0_trueWays X σ (q_rf X C 8) v).toInt = 2 * w_t (m_c X τ a) p := by rw [ar_mull, two, c1, ar_vr (by omega) (by omega)]
  have e8 : (F_X0_allWays X σ (q_rf X C 8) v - (2 : Int64) * F_X0_trueWays X σ (q_rf X C 8) v).toInt = w_w (m_c X τ a) p := by rw [ar_subl, e7, c2, ar_vr (by omega) (by omega)]; rfl
  rw [ar_mull, ar_i2l, f1, e8, ar_vr (by omega) (by omega)]
theorem an_readyL (K : al_C X lb C a) (A : al_R X C a σ τ) (M : m_M (m_c X τ a) (τ.1 a 24).toInt n) (h7 : m_c X τ a 7 = 1) (h2 : 2 ≤ m_c X τ a 2) {f1 : Int32} (hf1 : f1.toInt = m_c X τ a 2) (fu : Nat) : ∀ (fv : Nat) (x y z : Int32) (w14 w15 : Int64) (τ1 : ST) (k : Int), (2147483647 - y.toInt).toNat < fv → y.toInt = k → 2 ≤ k → k ≤ m_c X τ a 2 → (0 ≤ x.toInt ∧ x.toInt < m_c X τ a 2) → z.toInt = (m_c X τ a 6 + k) % m_c X τ a 2 → pl_mq (m_c X τ a 6) z.toInt < fu → w14.toInt = w_w (m_c X τ a) x.toInt → w15.toInt = w_l (m_c X τ a) x.toInt → τ1.1 = (q_si (q_si τ a 1 0) a 0 0).1 → (∀ b f, b ≠ a → τ1.2.1 b f = τ.2.1 b f) → ob_O X C a (F_X11_ready_L54_1 X f1 σ C fv x y) (F_X12_ready_L57_1 X a fu x w14 w15 z τ1) := by
  obtain ⟨kC, ka, S, lC, G8, G9, GM⟩ := id K
  obtain ⟨m2, s2, t2⟩ := mv_beg S.1 ka (rfl : m_c X τ a = m_c X τ a)
  obtain ⟨b0, b2, b4, b5, b6, b7, b9, b79⟩ := M.1.1.1
  have w : y_W X lb (q_rf X C 8) 1 σ σ (y_v X (q_rf X C 8) σ) := y_W.rf
  have two : (2 : Int64).toInt = 2 := rfl
  have h9 : 1 ≤ m_c X τ a 9 := by omega
  have v5 : y_v X (q_rf X C 8) σ 0 5 = m_c X τ a 6 := by
    have z := A.1.1.2.1.2.1
    rw [if_neg (by omega)] at z
    exact z
  have f5 : (σ.1 (q_rf X C 8) 5).toInt = m_c X τ a 6 := (w.rd (id := 0) (by decide) 5 rfl).trans v5
  have nb := w_n_b M.1.1 h9
  have l80 := M.1.1.L80 b9.1 (Int.le_refl _)
  have lge : w_n (m_c X τ a) ≤ m_L (m_c X τ a) (m_c X τ a 9).toNat := by
    have e := m_L_succ (m_c X τ a) (m_c X τ a 9 - 1) (by omega)
    have e1 : m_c X τ a 9 - 1 + 1 = m_c X τ a 9 := by omega
    rw [e1] at e
    have z := (M.1.1.A_bd (-1) 0 (m_c X τ a 9 - 1).toNat (by omega))
    unfold w_n
    omega
  obtain ⟨L, hL⟩ : ∃ L, L = m_L (m_c X τ a) (m_c X τ a 9).toNat := ⟨_, rfl⟩
  induction fu with
  | zero => intro fv x y z w14 w15 τ1 k _ _ _ _ _ _ h; exact absurd h (Nat.not_lt_zero _)
  | succ fu ih =>
    intro fv x y z w14 w15 τ1 k hfv hy k2 kc hx hz hfu hw14 hw15 ht1 ht2
    obtain ⟨fv', efv⟩ : ∃ j, fv = j + 1 := ⟨fv - 1, by omega⟩
    subst efv
    have mt : m_c X τ1 a = m_c X τ a := (pl_mc (fun f => by rw [ht1])).trans m2
    have g6 : (τ1.1 (q_rf X a 20) (6 : Int32).toNatClampNeg).toInt = m_c X τ a 6 := gm_cell (A := 6) mt rfl
    have rnd := pl_round (p := m_c X τ a 6) (x := k) (m := m_c X τ a 2) ⟨by omega, b6.2.1⟩ ⟨by omega, kc⟩
    rw [F_X11_ready_L54_1_s, F_X12_ready_L57_1_s]
    unfold F_X11_ready_B54_1 F_X12_ready_B57_1
    rw [hy, hf1, q_letE (τ1.1 (q_rf X a 20) (6 : Int32).toNatClampNeg), g6, hz]
    by_cases q : k < m_c X τ a 2
    · have y1 : (y + 1).toInt = k + 1 := by rw [y_inc (by omega), hy]
      have pa := pl_after (X := X) S G8 (rfl : y_v X (q_rf X C 8) σ = _) A.1.1 M.1.1 (by omega) (x := σ.1 (q_rf X C 8) 5) (y := y) f5 hy ⟨by omega, b6.2.1⟩ ⟨by omega, by omega⟩
      obtain ⟨p, hp⟩ : ∃ p, p = (m_c X τ a 6 + k) % m_c X τ a 2 := ⟨_, rfl⟩
      rw [← hp] at pa rnd hz
      have pb := rnd.2
      have pe : ¬ p = m_c X τ a 6 := fun e => by have := rnd.1.mp e; omega
      obtain ⟨r, hr⟩ : ∃ r, r = F_X6_playerAfter X σ (q_rf X (q_rf X C 8) 0) (σ.1 (q_rf X C 8) 5) y := ⟨_, rfl⟩
      rw [← hr] at pa
      have c1 := w_worth K A M h9 pa pb
      have c2 := (w_class K A M h9 pa pb).2
      have d1 := w_worth K A M h9 (v := x) rfl hx
      have d2 := (w_class K A M h9 (v := x) rfl hx).2
      obtain ⟨u1, u2⟩ := w_tl_b M.1.1 h9 pb
      obtain ⟨t1, t2'⟩ := w_tl_b M.1.1 h9 hx
      have ww : w_w (m_c X τ a) p = w_l (m_c X τ a) p - 2 * w_t (m_c X τ a) p := rfl
      have wx : w_w (m_c X τ a) x.toInt = w_l (m_c X τ a) x.toInt - 2 * w_t (m_c X τ a) x.toInt := rfl
      obtain ⟨bk1, bk2, bk3⟩ := an_blinds (X := X) (a := a) τ1 z
      obtain ⟨v1, v2⟩ := w_model K A M h9 mt hz pb
      obtain ⟨τ3, e3⟩ : ∃ t, t = F_X12_blinds X τ1 a z := ⟨_, rfl⟩
      rw [← e3] at bk1 bk2 bk3 v1 v2
      have ht1' : τ3.1 = (q_si (q_si τ a 1 0) a 0 0).1 := bk1.trans ht1
      have ht2' : ∀ b f, b ≠ a → τ3.2.1 b f = τ.2.1 b f := fun b f hb => (bk3 b f hb).trans (ht2 b f hb)
      have mt3 : m_c X τ3 a = m_c X τ a := (pl_mc (fun f => by rw [ht1'])).trans m2
      have bq := gm_behindOf (X := X) mt3 ⟨by omega, b2.2⟩ hz pb
      have bq' : (F_X12_behindOf X τ3 a z).toInt = (m_c X τ a 6 + (k + 1)) % m_c X τ a 2 := by
        rw [bq, hp, pl_add1 (by omega) ⟨by omega, b6.2.1⟩ (by omega)]
      have mq : pl_mq (m_c X τ a 6) (F_X12_behindOf X τ3 a z).toInt < fu := by
        have s := pl_mqS (p := m_c X τ a 6) (q := p) (m := m_c X τ a 2) ⟨by omega, b6.2.1⟩ pb b2.2 pe
        rw [bq]
        rw [hz] at hfu
        omega
      have e25 : ((2 : Int64) * τ3.2.1 a 30).toInt = 2 * w_t (m_c X τ a) p := by rw [ar_mull, two, v1, ar_vr (by omega) (by omega)]
      have e26 : (τ3.2.1 a 31 - (2 : Int64) * τ3.2.1 a 30).toInt = w_w (m_c X τ a) p := by rw [ar_subl, e25, v2, ar_vr (by omega) (by omega)]; rfl
      have x0 : ¬ x.toInt < 0 := by omega
      -- products
      have P1 := m_mulI (a := w_w (m_c X τ a) p + 4000000) (A := 6000000) (b := w_l (m_c X τ a) x.toInt) (B := 2000000) (by omega) (by omega) t2'.1 t2'.2
      have P2 := m_mulI (a := w_w (m_c X τ a) x.toInt + 4000000) (A := 6000000) (b := w_l (m_c X τ a) p) (B := 2000000) (by omega) (by omega) u2.1 u2.2
      rw [Int.add_mul] at P1 P2
      obtain ⟨A1, hA1⟩ : ∃ A1, A1 = w_w (m_c X τ a) p * w_l (m_c X τ a) x.toInt := ⟨_, rfl⟩
      obtain ⟨A2, hA2⟩ : ∃ A2, A2 = w_w (m_c X τ a) x.toInt * w_l (m_c X τ a) p := ⟨_, rfl⟩
      rw [← hA1] at P1
      rw [← hA2] at P2
      have e31 : ((τ3.2.1 a 31 - (2 : Int64) * τ3.2.1 a 30) * w15).toInt = A1 := by rw [ar_mull, e26, hw15, ← hA1, ar_vr (by omega) (by omega)]
      have e33 : (w14 * τ3.2.1 a 31).toInt = A2 := by rw [ar_mull, hw14, v2, ← hA2, ar_vr (by omega) (by omega)]
      rw [← hL] at c1 d1 lge l80
      have Q1 := m_mulI (a := L) (A := 80) (b := A1 + 8000000000000) (B := 28000000000000) (by omega) (by omega) (by omega) (by omega)
      have Q2 := m_mulI (a := L) (A := 80) (b := A2 + 8000000000000) (B := 28000000000000) (by omega) (by omega) (by omega) (by omega)
      rw [Int.mul_add] at Q1 Q2
      have f25 : (F_X0_worthTop X σ (q_rf X C 8) r * F_X0_allWays X σ (q_rf X C 8) x).toInt = L * A1 := by
        rw [ar_mull, c1, d2, Int.mul_assoc, ← hA1, ar_vr (by omega) (by omega)]
      have f30 : (F_X0_worthTop X σ (q_rf X C 8) x * F_X0_allWays X σ (q_rf X C 8) r).toInt = L * A2 := by
        rw [ar_mull, d1, c2, Int.mul_assoc, ← hA2, ar_vr (by omega) (by omega)]
      have cmp1 := lg_gt (F_X0_worthTop X σ (q_rf X C 8) r * F_X0_allWays X σ (q_rf X C 8) x) (F_X0_worthTop X σ (q_rf X C 8) x * F_X0_allWays X σ (q_rf X C 8) r)
      have cmp2 := lg_gt ((τ3.2.1 a 31 - (2 : Int64) * τ3.2.1 a 30) * w15) (w14 * τ3.2.1 a 31)
      rw [f25, f30] at cmp1
      rw [e31, e33] at cmp2
      have ll : L * A2 < L * A1 ↔ A2 < A1 := ⟨fun h => Int.lt_of_mul_lt_mul_left h (by omega), fun h => Int.mul_lt_mul_of_pos_left h (by omega)⟩
      rw [ll] at cmp1
      have zx : z.toInt = r.toInt := hz.trans pa.symm
      have zr : z = r := Int32.toInt_inj.mp zx
      rw [if_pos q, q_letE (σ.1 (q_rf X C 8) 5), ← hr, q_letE r, q_letE (F_X0_worthTop X σ (q_rf X C 8) r), q_letE (F_X0_allWays X σ (q_rf X C 8) x), q_letE, q_letE (F_X0_worthTop X σ (q_rf X C 8) x), q_letE (F_X0_allWays X σ (q_rf X C 8) r), q_letE, q_letE]
      rw [← hp, if_neg pe, ← e3, q_letE τ3, q_letE (τ3.2.1 a 31), q_letE (τ3.2.1 a 30), q_letE ((2 : Int64) * τ3.2.1 a 30), q_letE (τ3.2.1 a 31 - (2 : Int64) * τ3.2.1 a 30), if_neg x0, q_letE ((τ3.2.1 a 31 - (2 : Int64) * τ3.2.1 a 30) * w15), q_letE (τ3.2.1 a 31), q_letE (w14 * τ3.2.1 a 31), q_letE (lg_cmp ((τ3.2.1 a 31 - (2 : Int64) * τ3.2.1 a 30) * w15) (w14 * τ3.2.1 a 31))]
      by_cases q2 : A2 < A1
      · rw [if_pos (cmp1.mpr q2), if_pos (cmp2.mpr q2), q_letE (y + 1), q_letE (τ3.2.1 a 31), q_letE (F_X12_behindOf X τ3 a z), ← zr]
        exact ih fv' z (y + 1) (F_X12_behindOf X τ3 a z) _ _ τ3 (k + 1) (by omega) y1 (by omega) (by omega) (by rw [hz]; exact pb) bq' mq (by rw [hz]; exact e26) (by rw [hz]; exact v2) ht1' ht2'
      · rw [if_neg (fun h => q2 (cmp1.mp h)), if_neg (fun h => q2 (cmp2.mp h)), q_letE (y + 1), q_letE (F_X12_behindOf X τ3 a z)]
        exact ih fv' x (y + 1) (F_X12_behindOf X τ3 a z) _ _ τ3 (k + 1) (by omega) y1 (by omega) (by omega) hx bq' mq hw14 hw15 ht1' ht2'
    · rw [if_neg q, if_pos (rnd.1.mpr (by omega))]
      unfold F_X11_ready_E128_2
      exact ob_goodS K A M rfl ht1 ht2
theorem ob_ready (K : al_C X lb C a) (A : al_R X C a σ τ) (M : m_M (m_c X τ a) (τ.1 a 24).toInt n) : ob_O X C a (F_X11_ready X σ C) (F_X12_ready X τ a) := by
  obtain ⟨kC, ka, S, lC, G8, G9, GM⟩ := id K
  obtain ⟨m2, s2, t2⟩ := mv_beg S.1 ka (rfl : m_c X τ a = m_c X τ a)
  obtain ⟨b0, b2, b4, b5, b6, b7, b9, b79⟩ := M.1.1.1
  have w : y_W X lb (q_rf X C 8) 1 σ σ (y_v X (q_rf X C 8) σ) := y_W.rf
  have two : (2 : Int64).toInt = 2 := rfl
  have one : (1 : Int32).toInt = 1 := rfl
  have e2 : (2 : Int32).toInt = 2 := rfl
  have s := A.1.1.2.1
  have f7 : (σ.1 (q_rf X C 8) 7).toInt = m_c X τ a 7 := (w.rd (id := 0) (by decide) 7 rfl).trans s.2.2.2
  have f4 : (σ.1 (q_rf X (q_rf X C 8) 0) 4).toInt = m_c X τ a 2 := (w.rd (id := 1) (by decide) 4 rfl).trans A.1.1.1.2.2.2.2.1
  have g7 : ((q_si (q_si τ a 1 0) a 0 0).1 (q_rf X a 20) (7 : Int32).toNatClampNeg).toInt = m_c X τ a 7 := gm_cell (A := 7) m2 rfl
  have g2 : ((q_si (q_si τ a 1 0) a 0 0).1 (q_rf X a 20) (2 : Int32).toNatClampNeg).toInt = m_c X τ a 2 := gm_cell (A := 2) m2 rfl
  have g6 : ((q_si (q_si τ a 1 0) a 0 0).1 (q_rf X a 20) (6 : Int32).toNatClampNeg).toInt = m_c X τ a 6 := gm_cell (A := 6) m2 rfl
  unfold F_X11_ready F_X12_ready
  rw [q_letE (σ.1 (q_rf X (q_rf X C 8) 0) 4), q_letE (σ.1 (q_rf X C 8) 7), f7, q_letE (q_si τ a 1 0), q_letE (q_si (q_si τ a 1 0) a 0 0), q_letE ((q_si (q_si τ a 1 0) a 0 0).1 (q_rf X a 20) (7 : Int32).toNatClampNeg), g7]
  by_cases q7 : m_c X τ a 7 = 0
  · rw [if_pos q7, if_pos q7]
    exact ob_none K A M 8
  · rw [if_neg q7, if_neg q7, f4, q_letE ((q_si (q_si τ a 1 0) a 0 0).1 (q_rf X a 20) (2 : Int32).toNatClampNeg), g2]
    by_cases q2 : m_c X τ a 2 < 2
    · rw [if_pos q2, if_pos q2]
      exact ob_none K A M 8
    · have h7 : m_c X τ a 7 = 1 := by omega
      have h9 : 1 ≤ m_c X τ a 9 := by omega
      have v5 : y_v X (q_rf X C 8) σ 0 5 = m_c X τ a 6 := by
        have z := s.2.1
        rw [if_neg (by omega)] at z
        exact z
      have f5 : (σ.1 (q_rf X C 8) 5).toInt = m_c X τ a 6 := (w.rd (id := 0) (by decide) 5 rfl).trans v5
      have pa := pl_after (X := X) S G8 (rfl : y_v X (q_rf X C 8) σ = _) A.1.1 M.1.1 (by omega) (x := σ.1 (q_rf X C 8) 5) (y := 1) f5 one ⟨by omega, b6.2.1⟩ ⟨by decide, by decide⟩
      obtain ⟨τ1, et⟩ : ∃ t, t = q_si (q_si τ a 1 0) a 0 0 := ⟨_, rfl⟩
      have hb : ∀ b f, b ≠ a → τ1.2.1 b f = τ.2.1 b f := fun b f _ => by rw [et]; rfl
      have ht1 : τ1.1 = (q_si (q_si τ a 1 0) a 0 0).1 := by rw [et]
      rw [← et] at g6 m2
      have bq := gm_behindOf (X := X) m2 ⟨by omega, b2.2⟩ g6 ⟨by omega, b6.2.1⟩
      obtain ⟨p, hp⟩ : ∃ p, p = (m_c X τ a 6 + 1) % m_c X τ a 2 := ⟨_, rfl⟩
      have rnd := pl_round (p := m_c X τ a 6) (x := 1) (m := m_c X τ a 2) ⟨by omega, b6.2.1⟩ ⟨by decide, by omega⟩
      rw [← hp] at bq pa rnd
      have pb := rnd.2
      have pe : ¬ p = m_c X τ a 6 := fun e => by have := rnd.1.mp e; omega
      rw [if_neg q2, if_neg q2, q_letE (σ.1 (q_rf X C 8) 5), q_letE (F_X6_playerAfter X σ (q_rf X (q_rf X C 8) 0) (σ.1 (q_rf X C 8) 5) 1), ← et, q_letE (τ1.1 (q_rf X a 20) (6 : Int32).toNatClampNeg), q_letE (F_X12_behindOf X τ1 a (τ1.1 (q_rf X a 20) (6 : Int32).toNatClampNeg))]
      obtain ⟨z, ez⟩ : ∃ z, z = F_X12_behindOf X τ1 a (τ1.1 (q_rf X a 20) (6 : Int32).toNatClampNeg) := ⟨_, rfl⟩
      rw [← ez] at bq ⊢
      obtain ⟨r, er⟩ : ∃ r, r = F_X6_playerAfter X σ (q_rf X (q_rf X C 8) 0) (σ.1 (q_rf X C 8) 5) 1 := ⟨_, rfl⟩
      rw [← er] at pa ⊢
      have zr : z = r := Int32.toInt_inj.mp (bq.trans pa.symm)
      rw [F_X12_ready_L57_1_s]
      unfold F_X12_ready_B57_1
      obtain ⟨bk1, bk2, bk3⟩ := an_blinds (X := X) (a := a) τ1 z
      obtain ⟨v1, v2⟩ := w_model K A M h9 m2 bq pb
      obtain ⟨u1, u2⟩ := w_tl_b M.1.1 h9 pb
      obtain ⟨τ3, e3⟩ : ∃ t, t = F_X12_blinds X τ1 a z := ⟨_, rfl⟩
      rw [← e3] at bk1 bk2 bk3 v1 v2
      have ht1' : τ3.1 = (q_si (q_si τ a 1 0) a 0 0).1 := bk1.trans ht1
      have mt3 : m_c X τ3 a = m_c X τ a := (pl_mc (fun f => by rw [bk1])).trans m2
      have bq3 := gm_behindOf (X := X) mt3 ⟨by omega, b2.2⟩ bq pb
      have e25 : ((2 : Int64) * τ3.2.1 a 30).toInt = 2 * w_t (m_c X τ a) p := by rw [ar_mull, two, v1, ar_vr (by omega) (by omega)]
      have e26 : (τ3.2.1 a 31 - (2 : Int64) * τ3.2.1 a 30).toInt = w_w (m_c X τ a) p := by rw [ar_subl, e25, v2, ar_vr (by omega) (by omega)]; rfl
      have mq : pl_mq (m_c X τ a 6) (F_X12_behindOf X τ3 a z).toInt < pl_mq (m_c X τ a 6) p := by
        have s := pl_mqS (p := m_c X τ a 6) (q := p) (m := m_c X τ a 2) ⟨by omega, b6.2.1⟩ pb b2.2 pe
        rw [bq3]
        exact s
      have fue : (m_c X τ a 6 - z.toInt + 20 * min 1 (max 0 (z.toInt - m_c X τ a 6))).toNat = pl_mq (m_c X τ a 6) p := by rw [bq]; rfl
      rw [q_letE (τ1.1 (q_rf X a 20) (6 : Int32).toNatClampNeg), g6, bq, if_neg pe, ← e3, q_letE τ3, q_letE (τ3.2.1 a 31), q_letE (τ3.2.1 a 30), q_letE ((2 : Int64) * τ3.2.1 a 30), q_letE (τ3.2.1 a 31 - (2 : Int64) * τ3.2.1 a 30), if_pos (by decide), q_letE (τ3.2.1 a 31), q_letE (F_X12_behindOf X τ3 a z), ← zr]
      exact an_readyL K A M h7 (by omega) f4 _ _ z 2 (F_X12_behindOf X τ3 a z) _ _ τ3 2 (Nat.lt_succ_self _) e2 (by decide) (by omega) (by rw [bq]; exact pb) (by rw [bq3, hp, pl_add1 (by omega) ⟨by omega, b6.2.1⟩ (by decide)]; rfl) mq (by rw [bq]; exact e26) (by rw [bq]; exact v2) ht1' (fun b f hb' => (bk3 b f hb').trans (hb b f hb'))
end QI
