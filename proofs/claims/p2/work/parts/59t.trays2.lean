/-! FROM 59t.trays2.lean.txt -/
section
/-! TRAYS: a hand copied, numbers poured, read -/
section QW
variable {X : XW} {lb : Nat → Nat} {C a r : Nat} {σ τ σ' τ' : ST} {n : Int}
theorem ch_C {f v1 : Int32} {v : Int → Int64} (hf : f.toInt ≤ 60) (hv : ∀ x : Int32, 0 ≤ x.toInt → x.toInt < f.toInt → ∀ s : ST, s.1 = σ.1 → F_X10_cut X s r (F_X1_heldBy X s (q_rf X (q_rf X C 8) 1) v1 x).toInt64 = v x.toInt) (fu : Nat) : ∀ (x : Int32) (s : ST), (2147483647 - x.toInt).toNat < fu → 0 ≤ x.toInt → s.1 = σ.1 → ∃ s' : ST, F_X11_copyHand_L74_1 X f C v1 r fu x s = (f, q_si s' C 0 0) ∧ s'.1 = σ.1 ∧ s'.2.1 = tf s.2.1 (q_rf X r 2) x.toInt f.toInt v := by
  induction fu with
  | zero => intro x s h; exact absurd h (Nat.not_lt_zero _)
  | succ fu ih =>
    intro x s h x0 hs
    rw [F_X11_copyHand_L74_1_s]
    unfold F_X11_copyHand_B74_1
    by_cases q : x.toInt < f.toInt
    · have e1 : (x + 1).toInt = x.toInt + 1 := y_inc (by omega)
      have pv := hv x x0 q s hs
      rw [if_pos q, q_letE (F_X1_heldBy X s (q_rf X (q_rf X C 8) 1) v1 x), q_letE (F_X1_heldBy X s (q_rf X (q_rf X C 8) 1) v1 x).toInt64]
      obtain ⟨y, hy⟩ : ∃ y, y = (F_X1_heldBy X s (q_rf X (q_rf X C 8) 1) v1 x).toInt64 := ⟨_, rfl⟩
      rw [← hy] at pv ⊢
      have pu : F_X10_put X s r x y = q_sl s (q_rf X r 2) x.toNatClampNeg (v x.toInt) := by
        unfold F_X10_put
        rw [if_neg (by omega : ¬ x.toInt < 0), if_pos (by omega : x.toInt < 60), q_letE (F_X10_cut X s r y), q_letE, pv]
      rw [q_letE (F_X10_put X s r x y), q_letE (x + 1), pu]
      obtain ⟨s', c1, c2, c3⟩ := ih (x + 1) (q_sl s (q_rf X r 2) x.toNatClampNeg (v x.toInt)) (by omega) (by omega) hs
      refine ⟨s', c1, c2, c3.trans ?_⟩
      rw [e1]
      exact tf_s (h := s.2.1) q (by rw [ar_cl]; omega) rfl
    · rw [if_neg q]
      unfold F_X11_copyHand_E107_2
      rw [ob_pe, mv_good]
      exact ⟨s, rfl, hs, (tf_0 (by omega)).symm⟩
theorem ch_M {g v1 v2 : Int32} {t : Int} {v : Int → Int64} (ht : v2.toInt = t) (h4 : 0 ≤ t ∧ t < 4) (hg : τ.1 (q_rf X a 20) 0 = g) (hf : g.toInt ≤ 60) (hv : ∀ x : Int32, 0 ≤ x.toInt → x.toInt < g.toInt → ∀ s : ST, s.1 = τ.1 → (F_X12_handOf X s a v1 x).toInt64 = v x.toInt) (fu : Nat) : ∀ (x : Int32) (s : ST), (2147483647 - x.toInt).toNat < fu → 0 ≤ x.toInt → s.1 = τ.1 → ∃ s' : ST, F_X12_copyHand_L76_1 X a v2 v1 fu x s = (g, s') ∧ s'.1 = τ.1 ∧ s'.2.1 = tf s.2.1 (q_rf X a 6) (60 * t + x.toInt) (60 * t + g.toInt) (fun k => v (k - 60 * t)) := by
  have e0 : (0 : Int32).toNatClampNeg = 0 := rfl
  have e60 : (60 : Int32).toInt = 60 := rfl
  induction fu with
  | zero => intro x s h; exact absurd h (Nat.not_lt_zero _)
  | succ fu ih =>
    intro x s h x0 hs
    have hg' : s.1 (q_rf X a 20) 0 = g := by rw [hs]; exact hg
    rw [F_X12_copyHand_L76_1_s]
    unfold F_X12_copyHand_B76_1
    rw [e0, hg', q_letE g]
    by_cases q : x.toInt < g.toInt
    · have e1 : (x + 1).toInt = x.toInt + 1 := y_inc (by omega)
      have ix : ((60 : Int32) * v2 + x).toInt = 60 * t + x.toInt := by rw [ar_add, ar_mul, e60, ht, ar_wr (n := 60 * t) (by omega) (by omega), ar_wr (by omega) (by omega)]
      have pv := hv x x0 q s hs
      rw [if_pos q, q_letE ((60 : Int32) * v2), q_letE ((60 : Int32) * v2 + x), q_letE (F_X12_handOf X s a v1 x), q_letE (F_X12_handOf X s a v1 x).toInt64, pv, q_letE (q_sl s (q_rf X a 6) ((60 : Int32) * v2 + x).toNatClampNeg (v x.toInt)), q_letE (x + 1)]
      obtain ⟨s', c1, c2, c3⟩ := ih (x + 1) (q_sl s (q_rf X a 6) ((60 : Int32) * v2 + x).toNatClampNeg (v x.toInt)) (by omega) (by omega) hs
      refine ⟨s', c1, c2, c3.trans ?_⟩
      have e2 : 60 * t + (x + 1).toInt = 60 * t + x.toInt + 1 := by omega
      have e3 : 60 * t + x.toInt - 60 * t = x.toInt := by omega
      rw [e2]
      exact tf_s (h := s.2.1) (by omega) (by rw [ar_cl, ix]; omega) (by rw [e3])
    · rw [if_neg q]
      unfold F_X12_copyHand_E110_2
      rw [e0, hg', q_letE g]
      exact ⟨s, rfl, hs, (tf_0 (by omega)).symm⟩
/-- the value of a cell read in a state with the same ints -/
theorem ch_h1 {s : ST} (h : s.1 = σ.1) (g : Nat) (x y : Int32) : F_X1_heldBy X s g x y = F_X1_heldBy X σ g x y := by
  unfold F_X1_heldBy F_X5_get
  rw [h]
theorem ch_h2 {s : ST} (h : s.1 = τ.1) (x y : Int32) : F_X12_handOf X s a x y = F_X12_handOf X τ a x y := by
  unfold F_X12_handOf
  rw [h]
theorem cn_copyHand (K : al_C X lb C a) (A : al_R X C a σ τ) (M : m_M (m_c X τ a) (τ.1 a 24).toInt n) (Q : ct_Q X C a σ τ) (B : ct_B X C σ) (v1 v2 : Int32) : ct_Q X C a (F_X11_copyHand X σ C v1 v2).2 (F_X12_copyHand X τ a v1 v2).2 := by
  obtain ⟨kC, ka, S, lC, G8, G9, GM⟩ := id K
  obtain ⟨m2, s2, t2⟩ := mv_beg S.1 ka (rfl : m_c X τ a = m_c X τ a)
  have w : y_W X lb (q_rf X C 8) 1 σ σ (y_v X (q_rf X C 8) σ) := y_W.rf
  obtain ⟨k30, k31, k32⟩ := ct_k S.1 ka
  have e0 : (0 : Int32).toNatClampNeg = 0 := rfl
  have z0 : (0 : Int32).toInt = 0 := rfl
  have h0 := M.1.1.1.1
  have b2 := M.1.1.1.2.1
  have none := fun k => Q.none K k k
  have pp := an_p K A M m2 v1
  have f0 : (σ.1 (q_rf X (q_rf X C 8) 0) 0).toInt = m_c X τ a 0 := (w.rd (id := 1) (by decide) 0 rfl).trans A.1.1.1.1
  have g0 : ((q_si (q_si τ a 1 0) a 0 0).1 (q_rf X a 20) 0).toInt = m_c X τ a 0 := gm_cell (A := 0) (i := 0) m2 rfl
  have hh := fun {x : Int32} (p : 0 ≤ v1.toInt ∧ v1.toInt < 6) (k : 0 ≤ x.toInt ∧ x.toInt < 10) => an_held K A M m2 (x := v1) (y := x) rfl rfl p k
  have Q2 : ct_Q X C a σ (q_si (q_si τ a 1 0) a 0 0) := (Q.sa K 1 0).sa K 0 0
  unfold F_X11_copyHand F_X12_copyHand
  rw [q_letE (F_X11_trayAt X σ C v2), ct_at, q_letE (q_si τ a 1 0), q_letE (q_si (q_si τ a 1 0) a 0 0), q_letE (F_X12_isTray X (q_si (q_si τ a 1 0) a 0 0) a v2), ct_isTray]
  by_cases q : 0 ≤ v2.toInt ∧ v2.toInt < 4
  · obtain ⟨t, ht⟩ : ∃ t, t = v2.toNatClampNeg := ⟨_, rfl⟩
    have tv : v2.toInt = (t : Int) := by rw [ht, ar_cl]; omega
    have t4 : t < 4 := by omega
    have Fi := (Q2.1 t t4).2
    have Bi := B t t4
    obtain ⟨τ2, e2⟩ : ∃ s, s = q_si (q_si τ a 1 0) a 0 0 := ⟨_, rfl⟩
    rw [← e2] at m2 s2 g0 none pp hh Q2 Fi ⊢
    rw [if_pos q, if_pos (⟨q.1, by omega⟩ : 0 ≤ v2.toInt ∧ v2.toInt ≤ 3), on_s, ← ht, if_neg (by decide : ¬ (1 : Int) = 0), q_letE (F_X10_isMissing X σ (q_rf X (q_rf X C 3) t)), ct_mis, q_letE (τ2.1 (q_rf X a 5) t), ← Fi]
    by_cases qm : (σ.1 (q_rf X (q_rf X C 3) t) 1).toInt = -1
    · rw [if_pos qm, if_neg (by decide : ¬ (1 : Int) = 0), if_pos (by omega : (σ.1 (q_rf X (q_rf X C 3) t) 1).toInt < 0)]
      exact none 3
    · rw [if_neg qm, if_pos (rfl : (0 : Int) = 0), if_neg (by omega : ¬ (σ.1 (q_rf X (q_rf X C 3) t) 1).toInt < 0), q_letE (F_X11_isPlayer X σ C v1), pp.1, q_letE (F_X12_isPlayerAt X τ2 a v1), pp.2]
      by_cases qp : 0 ≤ v1.toInt ∧ v1.toInt < m_c X τ a 2
      · rw [if_pos qp, if_neg (by decide : ¬ (1 : Int) = 0), if_neg (by decide : ¬ (1 : Int) = 0), q_letE (σ.1 (q_rf X (q_rf X C 8) 0) 0)]
        obtain ⟨f, hf⟩ : ∃ f, f = σ.1 (q_rf X (q_rf X C 8) 0) 0 := ⟨_, rfl⟩
        rw [← hf] at f0 ⊢
        rw [q_letE (F_X10_hasPlaces X σ (q_rf X (q_rf X C 3) t) (0 : Int32) f), ct_has Bi, f0, z0, q_letE (τ2.1 (q_rf X a 5) t), e0, q_letE (τ2.1 (q_rf X a 20) 0), ← Fi, g0]
        by_cases qh : (σ.1 (q_rf X (q_rf X C 3) t) 1).toInt < m_c X τ a 0
        · rw [if_neg (by omega : ¬ (0 ≤ m_c X τ a 0 ∧ m_c X τ a 0 ≤ (σ.1 (q_rf X (q_rf X C 3) t) 1).toInt ∧ (0 : Int) ≤ 0 ∧ 0 + m_c X τ a 0 ≤ (σ.1 (q_rf X (q_rf X C 3) t) 1).toInt)), if_pos (rfl : (0 : Int) = 0), if_pos qh]
          exact none 4
        · rw [if_pos (⟨by omega, by omega, by omega, by omega⟩ : 0 ≤ m_c X τ a 0 ∧ m_c X τ a 0 ≤ (σ.1 (q_rf X (q_rf X C 3) t) 1).toInt ∧ (0 : Int) ≤ 0 ∧ 0 + m_c X τ a 0 ≤ (σ.1 (q_rf X (q_rf X C 3) t) 1).toInt), if_neg (by decide : ¬ (1 : Int) = 0), if_neg qh]
          have val : ∀ x : Int32, 0 ≤ x.toInt → x.toInt < m_c X τ a 0 → F_X1_heldBy X σ (q_rf X (q_rf X C 8) 1) v1 x = F_X12_handOf X τ2 a v1 x ∧ 0 ≤ (F_X12_handOf X τ2 a v1 x).toInt ∧ (F_X12_handOf X τ2 a v1 x).toInt ≤ 80 ∧ (F_X12_handOf X τ2 a v1 x).toInt = m_c X τ a (34 + 10 * v1.toInt + x.toInt) := fun x x0 x1 => by
            obtain ⟨y1, y2⟩ := hh (x := x) ⟨qp.1, by omega⟩ ⟨x0, by omega⟩
            have hb := M.1.1.h80 (p := v1.toInt) (k := x.toInt) qp.1 (by omega) x0 (by omega)
            exact ⟨Int32.toInt_inj.mp (y1.trans y2.symm), by omega, by omega, y2⟩
          obtain ⟨s', c1, c2, c3⟩ := ch_C (X := X) (C := C) (σ := σ) (r := q_rf X (q_rf X C 3) t) (f := f) (v1 := v1) (v := fun k => Int64.ofInt (m_c X τ a (34 + 10 * v1.toInt + k))) (by omega) (fun x x0 x1 s hs => by
            obtain ⟨y1, y2, y3, y4⟩ := val x x0 (by omega)
            rw [ch_h1 hs, y1, cn_small ⟨y2, y3⟩, y4]) ((2147483647 - (0 : Int)).toNat + 1) 0 σ (by rw [z0]; exact Nat.lt_succ_self _) (by decide) rfl
          obtain ⟨t', d1, d2, d3⟩ := ch_M (X := X) (a := a) (τ := τ2) (v1 := v1) (v2 := v2) (v := fun k => Int64.ofInt (m_c X τ a (34 + 10 * v1.toInt + k))) tv ⟨by omega, by omega⟩ (rfl : τ2.1 (q_rf X a 20) 0 = τ2.1 (q_rf X a 20) 0) (by omega) (fun x x0 x1 s hs => by
            obtain ⟨y1, y2, y3, y4⟩ := val x x0 (by omega)
            have z := Int64.ofInt_toInt (F_X12_handOf X τ2 a v1 x).toInt64
            rw [Int32.toInt_toInt64] at z
            rw [ch_h2 hs, ← z, y4]) ((2147483647 - (0 : Int)).toNat + 1) 0 τ2 (by rw [z0]; exact Nat.lt_succ_self _) (by decide) rfl
          rw [c1, d1]
          have R : ct_Q X C a s' t' := by
            refine ⟨fun i hi => ?_, ?_⟩
            · rw [c2, d2]
              exact Q2.1 i hi
            · refine ct_fill K Q2.2 t4 (m := f.toInt) (e := f.toInt) (by omega) (Int.le_refl _) (v := fun k => Int64.ofInt (m_c X τ a (34 + 10 * v1.toInt + k))) ?_ ?_ (fun i hi => ?_) (fun i hi _ => by rw [c2]) (fun k k0 k1 => by rw [c2] at k1; exact ⟨k0, k1⟩)
              · rw [c3, z0]
              · rw [d3, z0, Int.add_zero, g0, f0]
              · rw [c2]
                exact (B i hi).2
          exact R.sC K 0 0
      · rw [if_neg qp, if_pos (rfl : (0 : Int) = 0), if_pos (rfl : (0 : Int) = 0)]
        exact none 2
  · rw [if_neg q, if_neg (by omega : ¬ (0 ≤ v2.toInt ∧ v2.toInt ≤ 3)), on_n, if_pos (rfl : (0 : Int) = 0)]
    exact none 1
/-- read: the number and the status -/
theorem ob_read (K : al_C X lb C a) (Q : ct_Q X C a σ τ) (B : ct_B X C σ) (v1 v2 : Int32) : (F_X11_read X σ C v1 v2).1 = (F_X12_read X τ a v1 v2).1 := by
  have one : (1 : Int32).toInt = 1 := rfl
  have e60 : (60 : Int32).toInt = 60 := rfl
  have em : (-1 : Int32).toInt64 = -1 := rfl
  unfold F_X11_read F_X12_read
  rw [q_letE (F_X11_trayAt X σ C v1), ct_at, q_letE (q_si τ a 1 0), q_letE (F_X12_placed X (q_si τ a 1 0) a v1 v2)]
  by_cases q : 0 ≤ v1.toInt ∧ v1.toInt < 4
  · obtain ⟨p1, p2⟩ := st_place (st_ct1 K Q.1) B q v2
    obtain ⟨t, ht⟩ : ∃ t, t = v1.toNatClampNeg := ⟨_, rfl⟩
    have tv : v1.toInt = (t : Int) := by rw [ht, ar_cl]; omega
    have t4 : t < 4 := by omega
    have Bt := B t t4
    rw [← ht] at p1
    rw [if_pos q, on_s, ← ht]
    have ph : (F_X11_placeStatus X σ (q_rf X (q_rf X C 3) t) v2).toInt = 0 → 0 ≤ v2.toInt ∧ v2.toInt < (σ.1 (q_rf X (q_rf X C 3) t) 1).toInt := by
      unfold F_X11_placeStatus
      rw [q_letE (F_X10_isMissing X σ (q_rf X (q_rf X C 3) t)), ct_mis, q_letE (F_X10_hasPlaces X σ (q_rf X (q_rf X C 3) t) v2 1), ct_has Bt, one]
      intro z
      by_cases m1 : (σ.1 (q_rf X (q_rf X C 3) t) 1).toInt = -1
      · rw [if_pos m1, if_neg (by decide : ¬ (1 : Int) = 0)] at z
        exact absurd z (by decide)
      · rw [if_neg m1, if_pos (rfl : (0 : Int) = 0)] at z
        by_cases m2 : 0 ≤ (1 : Int) ∧ 1 ≤ (σ.1 (q_rf X (q_rf X C 3) t) 1).toInt ∧ 0 ≤ v2.toInt ∧ v2.toInt + 1 ≤ (σ.1 (q_rf X (q_rf X C 3) t) 1).toInt
        · omega
        · rw [if_neg m2, if_pos (rfl : (0 : Int) = 0)] at z
          exact absurd z (by decide)
    rw [q_letE (F_X11_placeStatus X σ (q_rf X (q_rf X C 3) t) v2), ← p1]
    rw [← p1] at ph
    obtain ⟨w, hw⟩ : ∃ w, w = F_X12_placed X (q_si τ a 1 0) a v1 v2 := ⟨_, rfl⟩
    rw [← hw] at p2 ph ⊢
    have Q4 : ct_Q X C a σ (q_si (q_si τ a 1 0) a 0 w) := (Q.sa K 1 0).sa K 0 w
    rw [q_letE (q_si (q_si τ a 1 0) a 0 w), q_letE ((q_si (q_si τ a 1 0) a 0 w).1 a 0), si_eq]
    obtain ⟨τ4, e4⟩ : ∃ s, s = q_si (q_si τ a 1 0) a 0 w := ⟨_, rfl⟩
    rw [← e4] at Q4 ⊢
    by_cases w0 : w.toInt = 0
    · obtain ⟨h0, h1⟩ := ph w0
      have ix : ((60 : Int32) * v1 + v2).toInt = 60 * (t : Int) + v2.toInt := by rw [ar_add, ar_mul, e60, tv, ar_wr (n := 60 * (t : Int)) (by omega) (by omega), ar_wr (by omega) (by omega)]
      have c2 : ((60 : Int32) * v1 + v2).toNatClampNeg = 60 * t + v2.toNatClampNeg := by rw [ar_cl, ar_cl, ix]; omega
      rw [if_pos w0, if_neg (by omega : ¬ 0 < w.toInt), q_letE (q_si σ C 0 0), q_letE (F_X10_get X (q_si σ C 0 0) (q_rf X (q_rf X C 3) t) v2), q_letE ((60 : Int32) * v1), q_letE ((60 : Int32) * v1 + v2), q_letE]
      show F_X10_get X (q_si σ C 0 0) (q_rf X (q_rf X C 3) t) v2 = τ4.2.1 (q_rf X a 6) ((60 : Int32) * v1 + v2).toNatClampNeg
      unfold F_X10_get
      rw [if_neg (by omega : ¬ v2.toInt < 0), if_pos (by omega : v2.toInt < 60), q_letE, c2]
      exact Q4.2 t t4 v2.toNatClampNeg (by rw [ar_cl]; omega)
    · rw [if_neg w0, if_pos (by omega : 0 < w.toInt), mv_none, q_biP (-1 : Int32) (q_si σ C 0 w), q_letE]
      exact em
  · rw [if_neg q, on_n, q_letE (F_X11_placeStatus_n X σ v2), st_place0 q, q_letE (q_si (q_si τ a 1 0) a 0 1), q_letE ((q_si (q_si τ a 1 0) a 0 1).1 a 0), si_eq, one, if_pos (by decide : (0 : Int) < 1), mv_none, q_biP (-1 : Int32) (q_si σ C 0 (F_X11_placeStatus_n X σ v2)), q_letE]
    exact em
/-- pour: what is moved, in the reference, upwards and downwards -/
def pf (h : Nat → Nat → Int64) (N : Nat) (x e d : Int) : Nat → Nat → Int64 := fun b g => if b = N ∧ x ≤ (g : Int) ∧ (g : Int) < e then h N ((g : Int) - d).toNat else h b g
theorem pf_0 {h : Nat → Nat → Int64} {N : Nat} {x e d : Int} (q : e ≤ x) : pf h N x e d = h := by
  funext b g
  unfold pf
  rw [if_neg (fun z => by omega)]
/-- one more above -/
theorem pf_up {h : Nat → Nat → Int64} {N i j : Nat} {x e d : Int} (h0 : x ≤ e) (hi : (i : Int) = e) (hj : (j : Int) = e - d) (ap : (j : Int) < x ∨ e ≤ (j : Int)) : (fun b g => if b = N ∧ g = i then pf h N x e d N j else pf h N x e d b g) = pf h N x (e + 1) d := by
  funext b g
  have v : pf h N x e d N j = h N j := by
    unfold pf
    rw [if_neg (fun z => by omega)]
  rw [v]
  unfold pf
  by_cases q : b = N ∧ g = i
  · have e1 : ((g : Int) - d).toNat = j := by omega
    rw [if_pos q, if_pos (⟨q.1, by omega, by omega⟩ : b = N ∧ x ≤ (g : Int) ∧ (g : Int) < e + 1), e1]
  · rw [if_neg q]
    by_cases q2 : b = N ∧ x ≤ (g : Int) ∧ (g : Int) < e
    · rw [if_pos q2, if_pos (⟨q2.1, q2.2.1, by omega⟩ : b = N ∧ x ≤ (g : Int) ∧ (g : Int) < e + 1)]
    · rw [if_neg q2, if_neg (fun z => by omega)]
/-- one more below -/
theorem pf_dn {h : Nat → Nat → Int64} {N i j : Nat} {x e d : Int} (h0 : x ≤ e) (hi : (i : Int) = x - 1) (hj : (j : Int) = x - 1 - d) (ap : (j : Int) < x ∨ e ≤ (j : Int)) : (fun b g => if b = N ∧ g = i then pf h N x e d N j else pf h N x e d b g) = pf h N (x - 1) e d := by
  funext b g
  have v : pf h N x e d N j = h N j := by
    unfold pf
    rw [if_neg (fun z => by omega)]
  rw [v]
  unfold pf
  by_cases q : b = N ∧ g = i
  · have e1 : ((g : Int) - d).toNat = j := by omega
    rw [if_pos q, if_pos (⟨q.1, by omega, by omega⟩ : b = N ∧ x - 1 ≤ (g : Int) ∧ (g : Int) < e), e1]
  · rw [if_neg q]
    by_cases q2 : b = N ∧ x ≤ (g : Int) ∧ (g : Int) < e
    · rw [if_pos q2, if_pos (⟨q2.1, by omega, q2.2.2⟩ : b = N ∧ x - 1 ≤ (g : Int) ∧ (g : Int) < e)]
    · rw [if_neg q2, if_neg (fun z => by omega)]
theorem po_up {v1 v2 v3 v4 v5 : Int32} {S D m : Int} {h : Nat → Nat → Int64} (hS : 60 * v1.toInt + v2.toInt = S) (hD : 60 * v3.toInt + v4.toInt = D) (h1 : 0 ≤ v1.toInt ∧ v1.toInt < 4) (h3 : 0 ≤ v3.toInt ∧ v3.toInt < 4) (h2 : 0 ≤ v2.toInt) (h4 : 0 ≤ v4.toInt) (hm : v5.toInt = m) (b2 : v2.toInt + m ≤ 60) (b4 : v4.toInt + m ≤ 60) (ap : D ≤ S ∨ S + m ≤ D) (fu : Nat) : ∀ (x : Int32) (s : ST), (2147483647 - x.toInt).toNat < fu → 0 ≤ x.toInt → x.toInt ≤ m ∨ m < 0 → s.1 = τ.1 → s.2.1 = pf h (q_rf X a 6) D (D + x.toInt) (D - S) → ∃ s' : ST, F_X12_pour_L158_1 X v5 v3 v4 v1 v2 a fu x s = ((1 : Int32), s') ∧ s'.1 = τ.1 ∧ (0 ≤ m → s'.2.1 = pf h (q_rf X a 6) D (D + m) (D - S)) := by
  have e60 : (60 : Int32).toInt = 60 := rfl
  induction fu with
  | zero => intro x s h; exact absurd h (Nat.not_lt_zero _)
  | succ fu ih =>
    intro x s hx x0 xm hs hl
    rw [F_X12_pour_L158_1_s]
    unfold F_X12_pour_B158_1
    by_cases q : x.toInt < v5.toInt
    · have e1 : (x + 1).toInt = x.toInt + 1 := y_inc (by omega)
      have id_ : ((60 : Int32) * v3 + v4 + x).toInt = D + x.toInt := by rw [ar_add, ar_add, ar_mul, e60, ar_wr (n := 60 * v3.toInt) (by omega) (by omega), ar_wr (n := 60 * v3.toInt + v4.toInt) (by omega) (by omega), ar_wr (by omega) (by omega)]; omega
      have is_ : ((60 : Int32) * v1 + v2 + x).toInt = S + x.toInt := by rw [ar_add, ar_add, ar_mul, e60, ar_wr (n := 60 * v1.toInt) (by omega) (by omega), ar_wr (n := 60 * v1.toInt + v2.toInt) (by omega) (by omega), ar_wr (by omega) (by omega)]; omega
      obtain ⟨i, hi⟩ : ∃ i, i = ((60 : Int32) * v3 + v4 + x).toNatClampNeg := ⟨_, rfl⟩
      obtain ⟨j, hj⟩ : ∃ j, j = ((60 : Int32) * v1 + v2 + x).toNatClampNeg := ⟨_, rfl⟩
      have iv : (i : Int) = D + x.toInt := by rw [hi, ar_cl, id_]; omega
      have jv : (j : Int) = S + x.toInt := by rw [hj, ar_cl, is_]; omega
      rw [if_pos q, if_pos (rfl : (0 : Int) = 0), q_letE ((60 : Int32) * v3), q_letE ((60 : Int32) * v3 + v4), q_letE ((60 : Int32) * v3 + v4 + x), q_letE ((60 : Int32) * v1), q_letE ((60 : Int32) * v1 + v2), q_letE ((60 : Int32) * v1 + v2 + x), ← hi, ← hj, q_letE (s.2.1 (q_rf X a 6) j), q_letE (q_sl s (q_rf X a 6) i (s.2.1 (q_rf X a 6) j)), q_letE (x + 1)]
      refine ih (x + 1) (q_sl s (q_rf X a 6) i (s.2.1 (q_rf X a 6) j)) (by omega) (by omega) (Or.inl (by omega)) hs ?_
      have e3 : D + (x + 1).toInt = D + x.toInt + 1 := by omega
      rw [e3, ← pf_up (h := h) (N := q_rf X a 6) (i := i) (j := j) (x := D) (e := D + x.toInt) (d := D - S) (by omega) iv (by omega) (by omega), ← hl]
      rfl
    · rw [if_neg q]
      refine ⟨s, rfl, hs, fun m0 => ?_⟩
      have e3 : x.toInt = m := by omega
      rw [hl, e3]
theorem po_dn {v1 v2 v3 v4 v5 : Int32} {S D m : Int} {h : Nat → Nat → Int64} (hS : 60 * v1.toInt + v2.toInt = S) (hD : 60 * v3.toInt + v4.toInt = D) (h1 : 0 ≤ v1.toInt ∧ v1.toInt < 4) (h3 : 0 ≤ v3.toInt ∧ v3.toInt < 4) (h2 : 0 ≤ v2.toInt) (h4 : 0 ≤ v4.toInt) (hm : v5.toInt = m) (m0 : 0 ≤ m) (b2 : v2.toInt + m ≤ 60) (b4 : v4.toInt + m ≤ 60) (ap : S ≤ D ∨ D + m ≤ S) (fu : Nat) : ∀ (x : Int32) (s : ST), (2147483647 - x.toInt).toNat < fu → 0 ≤ x.toInt → x.toInt ≤ m → s.1 = τ.1 → s.2.1 = pf h (q_rf X a 6) (D + m - x.toInt) (D + m) (D - S) → ∃ s' : ST, F_X12_pour_L158_3 X v5 v3 v4 v1 v2 a fu x s = ((1 : Int32), s') ∧ s'.1 = τ.1 ∧ s'.2.1 = pf h (q_rf X a 6) D (D + m) (D - S) := by
  have e60 : (60 : Int32).toInt = 60 := rfl
  have one : (1 : Int32).toInt = 1 := rfl
  induction fu with
  | zero => intro x s h; exact absurd h (Nat.not_lt_zero _)
  | succ fu ih =>
    intro x s hx x0 xm hs hl
    rw [F_X12_pour_L158_3_s]
    unfold F_X12_pour_B158_3
    by_cases q : x.toInt < v5.toInt
    · have e1 : (x + 1).toInt = x.toInt + 1 := y_inc (by omega)
      have in_ : (v5 - 1 - x).toInt = m - 1 - x.toInt := by rw [ar_sub, ar_sub, one, hm, ar_wr (n := m - 1) (by omega) (by omega), ar_wr (by omega) (by omega)]
      have id_ : ((60 : Int32) * v3 + v4 + (v5 - 1 - x)).toInt = D + (m - 1 - x.toInt) := by rw [ar_add, ar_add, ar_mul, e60, in_, ar_wr (n := 60 * v3.toInt) (by omega) (by omega), ar_wr (n := 60 * v3.toInt + v4.toInt) (by omega) (by omega), ar_wr (by omega) (by omega)]; omega
      have is_ : ((60 : Int32) * v1 + v2 + (v5 - 1 - x)).toInt = S + (m - 1 - x.toInt) := by rw [ar_add, ar_add, ar_mul, e60, in_, ar_wr (n := 60 * v1.toInt) (by omega) (by omega), ar_wr (n := 60 * v1.toInt + v2.toInt) (by omega) (by omega), ar_wr (by omega) (by omega)]; omega
      obtain ⟨i, hi⟩ : ∃ i, i = ((60 : Int32) * v3 + v4 + (v5 - 1 - x)).toNatClampNeg := ⟨_, rfl⟩
      obtain ⟨j, hj⟩ : ∃ j, j = ((60 : Int32) * v1 + v2 + (v5 - 1 - x)).toNatClampNeg := ⟨_, rfl⟩
      have iv : (i : Int) = D + m - x.toInt - 1 := by rw [hi, ar_cl, id_]; omega
      have jv : (j : Int) = S + (m - 1 - x.toInt) := by rw [hj, ar_cl, is_]; omega
      rw [if_pos q, if_neg (by decide : ¬ (1 : Int) = 0), q_letE (v5 - (1 : Int32)), q_letE (v5 - (1 : Int32) - x), q_letE ((60 : Int32) * v3), q_letE ((60 : Int32) * v3 + v4), q_letE ((60 : Int32) * v3 + v4 + (v5 - 1 - x)), q_letE ((60 : Int32) * v1), q_letE ((60 : Int32) * v1 + v2), q_letE ((60 : Int32) * v1 + v2 + (v5 - 1 - x)), ← hi, ← hj, q_letE (s.2.1 (q_rf X a 6) j), q_letE (q_sl s (q_rf X a 6) i (s.2.1 (q_rf X a 6) j)), q_letE (x + 1)]
      refine ih (x + 1) (q_sl s (q_rf X a 6) i (s.2.1 (q_rf X a 6) j)) (by omega) (by omega) (by omega) hs ?_
      have e3 : D + m - (x + 1).toInt = D + m - x.toInt - 1 := by omega
      rw [e3, ← pf_dn (h := h) (N := q_rf X a 6) (i := i) (j := j) (x := D + m - x.toInt) (e := D + m) (d := D - S) (by omega) iv (by omega) (by omega), ← hl]
      rfl
    · rw [if_neg q]
      refine ⟨s, rfl, hs, ?_⟩
      have e3 : D + m - x.toInt = D := by omega
      rw [hl, e3]
end QW
end
/-! FROM 59u.pour.lean.txt -/
section
/-! TRAYS: numbers poured, called -/
section QZ
variable {X : XW} {lb : Nat → Nat} {C a : Nat} {σ τ : ST} {n : Int}
/-- both have moved the numbers -/
theorem po_N (K : al_C X lb C a) {σ' τ' : ST} (N : ct_N X C a σ τ) (B : ct_B X C σ) {t1 t3 : Nat} (h1 : t1 < 4) (h3 : t3 < 4) {i j m : Int} (i0 : 0 ≤ i) (j0 : 0 ≤ j) (m0 : 0 ≤ m) (bi : i + m ≤ (σ.1 (q_rf X (q_rf X C 3) t1) 1).toInt) (bj : j + m ≤ (σ.1 (q_rf X (q_rf X C 3) t3) 1).toInt) (e1 : σ'.1 = σ.1) (c : ∀ k : Nat, σ'.2.1 (q_rf X (q_rf X (q_rf X C 3) t3) 2) k = if j ≤ (k : Int) ∧ (k : Int) < j + m then σ.2.1 (q_rf X (q_rf X (q_rf X C 3) t1) 2) ((k : Int) - j + i).toNat else σ.2.1 (q_rf X (q_rf X (q_rf X C 3) t3) 2) k) (c' : ∀ b, b ≠ q_rf X (q_rf X (q_rf X C 3) t3) 2 → σ'.2.1 b = σ.2.1 b) (d : τ'.2.1 = pf τ.2.1 (q_rf X a 6) (60 * (t3 : Int) + j) (60 * (t3 : Int) + j + m) (60 * (t3 : Int) + j - (60 * (t1 : Int) + i))) : ct_N X C a σ' τ' := by
  intro q hq k hk
  rw [e1] at hk
  have bq := (B q hq).2
  have b1 := (B t1 h1).2
  have b3 := (B t3 h3).2
  rw [d]
  unfold pf
  by_cases e : q = t3
  · subst e
    rw [c]
    by_cases z : j ≤ (k : Int) ∧ (k : Int) < j + m
    · have w := N t1 h1 ((k : Int) - j + i).toNat (by omega)
      have e2 : (((60 * q + k : Nat) : Int) - (60 * (q : Int) + j - (60 * (t1 : Int) + i))).toNat = 60 * t1 + ((k : Int) - j + i).toNat := by omega
      rw [if_pos z, if_pos (⟨rfl, by omega, by omega⟩ : q_rf X a 6 = q_rf X a 6 ∧ 60 * (q : Int) + j ≤ ((60 * q + k : Nat) : Int) ∧ ((60 * q + k : Nat) : Int) < 60 * (q : Int) + j + m), e2]
      exact w
    · rw [if_neg z, if_neg (fun y => by
        have y1 := y.2.1
        have y2 := y.2.2
        omega)]
      exact N q hq k hk
  · rw [c' _ (ct_ap K hq h3 e).2, if_neg (fun y => by
      have y1 := y.2.1
      have y2 := y.2.2
      omega)]
    exact N q hq k hk
theorem cn_pour (K : al_C X lb C a) (Q : ct_Q X C a σ τ) (B : ct_B X C σ) (v1 v2 v3 v4 v5 : Int32) : ob_S C a (F_X11_pour X σ C v1 v2 v3 v4 v5) (F_X12_pour X τ a v1 v2 v3 v4 v5) ∧ ct_Q X C a (F_X11_pour X σ C v1 v2 v3 v4 v5).2 (F_X12_pour X τ a v1 v2 v3 v4 v5).2 := by
  obtain ⟨kC, ka, S, lC, G8, G9, GM⟩ := id K
  obtain ⟨k30, k31, k32⟩ := ct_k S.1 ka
  have z0 : (0 : Int32).toInt = 0 := rfl
  have s2 : (q_si (q_si τ a 1 0) a 0 0).1 a 0 = 0 := si_eq _ _ _ _
  have no : ∀ k : Int32, ob_S C a (q_bi (F_X11_no X σ C k) (fun r s => (r, s))) (q_bi (F_X12_no X (q_si (q_si τ a 1 0) a 0 0) a k) (fun r s => (r, s))) ∧ ct_Q X C a (q_bi (F_X11_no X σ C k) (fun r s => (r, s))).2 (q_bi (F_X12_no X (q_si (q_si τ a 1 0) a 0 0) a k) (fun r s => (r, s))).2 := fun k => ⟨st_no k, Q.no K k k⟩
  have Q2 : ct_Q X C a σ (q_si (q_si τ a 1 0) a 0 0) := (Q.sa K 1 0).sa K 0 0
  unfold F_X11_pour F_X12_pour
  rw [q_letE (F_X11_trayAt X σ C v1), ct_at, q_letE (q_si τ a 1 0), q_letE (q_si (q_si τ a 1 0) a 0 0)]
  obtain ⟨τ2, e2⟩ : ∃ s, s = q_si (q_si τ a 1 0) a 0 0 := ⟨_, rfl⟩
  rw [← e2] at s2 no Q2 ⊢
  by_cases q1 : 0 ≤ v1.toInt ∧ v1.toInt < 4
  · rw [if_pos q1, on_s, q_letE (F_X11_trayAt X σ C v3), ct_at, if_neg (by omega : ¬ v1.toInt < 0), if_pos q1.2]
    by_cases q3 : 0 ≤ v3.toInt ∧ v3.toInt < 4
    · obtain ⟨t1, ht1⟩ : ∃ t, t = v1.toNatClampNeg := ⟨_, rfl⟩
      obtain ⟨t3, ht3⟩ : ∃ t, t = v3.toNatClampNeg := ⟨_, rfl⟩
      have tv1 : v1.toInt = (t1 : Int) := by rw [ht1, ar_cl]; omega
      have tv3 : v3.toInt = (t3 : Int) := by rw [ht3, ar_cl]; omega
      have h1 : t1 < 4 := by omega
      have h3 : t3 < 4 := by omega
      obtain ⟨S1, F1⟩ := Q2.1 t1 h1
      obtain ⟨S3, F3⟩ := Q2.1 t3 h3
      have B1 := B t1 h1
      have B3 := B t3 h3
      rw [if_pos q3, on_s, if_neg (by omega : ¬ v3.toInt < 0), if_pos q3.2, ← ht1, ← ht3]
      obtain ⟨T1, hT1⟩ : ∃ t, t = q_rf X (q_rf X C 3) t1 := ⟨_, rfl⟩
      obtain ⟨T3, hT3⟩ : ∃ t, t = q_rf X (q_rf X C 3) t3 := ⟨_, rfl⟩
      rw [← hT1] at S1 F1 B1 ⊢
      rw [← hT3] at S3 F3 B3 ⊢
      rw [q_letE (F_X10_isMissing X σ T1), ct_mis, q_letE (τ2.1 (q_rf X a 5) t1), ← F1]
      by_cases m1 : (σ.1 T1 1).toInt = -1
      · rw [if_pos m1, if_neg (by decide : ¬ (1 : Int) = 0), if_pos (by omega : (σ.1 T1 1).toInt < 0)]
        exact no 3
      rw [if_neg m1, if_pos (rfl : (0 : Int) = 0), if_neg (by omega : ¬ (σ.1 T1 1).toInt < 0), q_letE (F_X10_isMissing X σ T3), ct_mis, q_letE (τ2.1 (q_rf X a 5) t3), ← F3]
      by_cases m3 : (σ.1 T3 1).toInt = -1
      · rw [if_pos m3, if_neg (by decide : ¬ (1 : Int) = 0), if_pos (by omega : (σ.1 T3 1).toInt < 0)]
        exact no 3
      rw [if_neg m3, if_pos (rfl : (0 : Int) = 0), if_neg (by omega : ¬ (σ.1 T3 1).toInt < 0), q_letE (σ.1 T1 0), q_letE (σ.1 T3 0), q_letE (τ2.1 (q_rf X a 4) t1), q_letE (τ2.1 (q_rf X a 4) t3), ← S1, ← S3]
      by_cases qs : (σ.1 T1 0).toInt = (σ.1 T3 0).toInt
      · rw [if_pos qs, if_pos qs]
        by_cases q5 : v5.toInt < 0
        · rw [if_pos q5, if_pos q5]
          exact no 6
        rw [if_neg q5, if_neg q5, q_letE (F_X10_hasPlaces X σ T1 v2 v5), ct_has B1]
        have y1 : (v2.toInt64 + v5.toInt64).toInt = v2.toInt + v5.toInt := by
          have := ar_bd v2
          have := ar_bd v5
          rw [ar_addl, ar_i2l, ar_i2l, ar_vr (by omega) (by omega)]
        have y3 : (v4.toInt64 + v5.toInt64).toInt = v4.toInt + v5.toInt := by
          have := ar_bd v4
          have := ar_bd v5
          rw [ar_addl, ar_i2l, ar_i2l, ar_vr (by omega) (by omega)]
        have g1 : ¬ 0 < (lg_cmp (v2.toInt64 + v5.toInt64) (τ2.1 (q_rf X a 5) t1).toInt64).toInt ↔ v2.toInt + v5.toInt ≤ (σ.1 T1 1).toInt := by
          rw [lg_gt, y1, ar_i2l, ← F1]
          omega
        have g3 : ¬ 0 < (lg_cmp (v4.toInt64 + v5.toInt64) (τ2.1 (q_rf X a 5) t3).toInt64).toInt ↔ v4.toInt + v5.toInt ≤ (σ.1 T3 1).toInt := by
          rw [lg_gt, y3, ar_i2l, ← F3]
          omega
        by_cases p1 : 0 ≤ v5.toInt ∧ v5.toInt ≤ (σ.1 T1 1).toInt ∧ 0 ≤ v2.toInt ∧ v2.toInt + v5.toInt ≤ (σ.1 T1 1).toInt
        · rw [if_pos p1, if_neg (by decide : ¬ (1 : Int) = 0), if_neg (by omega : ¬ v2.toInt < 0), q_letE (F_X10_hasPlaces X σ T3 v4 v5), ct_has B3]
          by_cases p3 : 0 ≤ v5.toInt ∧ v5.toInt ≤ (σ.1 T3 1).toInt ∧ 0 ≤ v4.toInt ∧ v4.toInt + v5.toInt ≤ (σ.1 T3 1).toInt
          · rw [if_pos p3, if_neg (by decide : ¬ (1 : Int) = 0), if_neg (by omega : ¬ v4.toInt < 0), q_letE v2.toInt64, q_letE v5.toInt64, q_letE (v2.toInt64 + v5.toInt64), q_letE (τ2.1 (q_rf X a 5) t1), q_letE (τ2.1 (q_rf X a 5) t1).toInt64, q_letE (lg_cmp (v2.toInt64 + v5.toInt64) (τ2.1 (q_rf X a 5) t1).toInt64), if_neg (g1.mpr p1.2.2.2), q_letE v4.toInt64, q_letE v5.toInt64, q_letE (v4.toInt64 + v5.toInt64), q_letE (τ2.1 (q_rf X a 5) t3), q_letE (τ2.1 (q_rf X a 5) t3).toInt64, q_letE (lg_cmp (v4.toInt64 + v5.toInt64) (τ2.1 (q_rf X a 5) t3).toInt64), if_neg (g3.mpr p3.2.2.2)]
            have cf : F_X10_copyFrom X σ T3 T1 v2 v4 v5 = q_cpyl σ (q_rf X T3 2) (q_rf X T1 2) v2 v4 v5 := by
              unfold F_X10_copyFrom
              rw [q_letE (F_X10_hasPlaces X σ T1 v2 v5), ct_has B1, if_pos p1, if_neg (by decide : ¬ (1 : Int) = 0), q_letE (F_X10_hasPlaces X σ T3 v4 v5), ct_has B3, if_pos p3, if_neg (by decide : ¬ (1 : Int) = 0), q_letE]
            rw [q_letE (F_X10_copyFrom X σ T3 T1 v2 v4 v5), cf, ob_pe, mv_yes]
            have fin : ∀ s' : ST, s'.1 = τ2.1 → s'.2.1 = pf τ2.2.1 (q_rf X a 6) (60 * (t3 : Int) + v4.toInt) (60 * (t3 : Int) + v4.toInt + v5.toInt) (60 * (t3 : Int) + v4.toInt - (60 * (t1 : Int) + v2.toInt)) → ob_S C a ((1 : Int32), q_si (q_cpyl σ (q_rf X T3 2) (q_rf X T1 2) v2 v4 v5) C 0 0) ((1 : Int32), s') ∧ ct_Q X C a ((1 : Int32), q_si (q_cpyl σ (q_rf X T3 2) (q_rf X T1 2) v2 v4 v5) C 0 0).2 ((1 : Int32), s').2 := fun s' f1 f2 => by
              refine ⟨⟨rfl, ?_⟩, ?_⟩
              · show ((q_si (q_cpyl σ (q_rf X T3 2) (q_rf X T1 2) v2 v4 v5) C 0 0).1 C 0).toInt = (s'.1 a 0).toInt
                rw [si_eq, f1, s2]
              · have R : ct_Q X C a (q_cpyl σ (q_rf X T3 2) (q_rf X T1 2) v2 v4 v5) s' := by
                  refine ⟨fun i hi => ?_, ?_⟩
                  · rw [f1]
                    exact Q2.1 i hi
                  · refine po_N K (i := v2.toInt) (j := v4.toInt) (m := v5.toInt) Q2.2 B h1 h3 p1.2.2.1 p3.2.2.1 p1.1 (by rw [← hT1]; exact p1.2.2.2) (by rw [← hT3]; exact p3.2.2.2) rfl (fun k => ?_) (fun b hb => ?_) f2
                    · rw [← hT1, ← hT3]
                      show (if q_rf X T3 2 = q_rf X T3 2 then va_cpy (σ.2.1 (q_rf X T1 2)) (σ.2.1 (q_rf X T3 2)) v2.toNatClampNeg v4.toNatClampNeg v5.toNatClampNeg k else σ.2.1 (q_rf X T3 2) k) = _
                      rw [if_pos rfl]
                      unfold va_cpy
                      have c2 : (v2.toNatClampNeg : Int) = v2.toInt := by rw [ar_cl]; omega
                      have c4 : (v4.toNatClampNeg : Int) = v4.toInt := by rw [ar_cl]; omega
                      have c5 : (v5.toNatClampNeg : Int) = v5.toInt := by rw [ar_cl]; omega
                      by_cases z : v4.toInt ≤ (k : Int) ∧ (k : Int) < v4.toInt + v5.toInt
                      · have e9 : v2.toNatClampNeg + (k - v4.toNatClampNeg) = ((k : Int) - v4.toInt + v2.toInt).toNat := by omega
                        rw [if_pos z, if_pos (⟨by omega, by omega⟩ : v4.toNatClampNeg ≤ k ∧ k < v4.toNatClampNeg + v5.toNatClampNeg), e9]
                      · rw [if_neg z, if_neg (fun y => by omega)]
                    · rw [← hT3] at hb
                      funext g
                      show (if b = q_rf X T3 2 then _ else σ.2.1 b g) = σ.2.1 b g
                      rw [if_neg hb]
                exact R.sC K 0 0
            by_cases qd : v2.toInt < v4.toInt
            · obtain ⟨s', d1, d2, d3⟩ := po_dn (X := X) (a := a) (τ := τ2) (h := τ2.2.1) (v1 := v1) (v2 := v2) (v3 := v3) (v4 := v4) (v5 := v5) (S := 60 * (t1 : Int) + v2.toInt) (D := 60 * (t3 : Int) + v4.toInt) (m := v5.toInt) (by omega) (by omega) q1 q3 p1.2.2.1 p3.2.2.1 rfl p1.1 (by omega) (by omega) (by omega) ((2147483647 - (0 : Int32).toInt).toNat + 1) 0 τ2 (Nat.lt_succ_self _) (by decide) (by rw [z0]; exact p1.1) rfl (by rw [z0, Int.sub_zero, pf_0 (Int.le_refl _)])
              rw [if_pos qd, d1]
              exact fin s' d2 d3
            · obtain ⟨s', d1, d2, d3⟩ := po_up (X := X) (a := a) (τ := τ2) (h := τ2.2.1) (v1 := v1) (v2 := v2) (v3 := v3) (v4 := v4) (v5 := v5) (S := 60 * (t1 : Int) + v2.toInt) (D := 60 * (t3 : Int) + v4.toInt) (m := v5.toInt) (by omega) (by omega) q1 q3 p1.2.2.1 p3.2.2.1 rfl (by omega) (by omega) (by omega) ((2147483647 - (0 : Int32).toInt).toNat + 1) 0 τ2 (Nat.lt_succ_self _) (by decide) (Or.inl (by rw [z0]; exact p1.1)) rfl (by rw [z0, Int.add_zero, pf_0 (Int.le_refl _)])
              rw [if_neg qd, d1]
              exact fin s' d2 (d3 p1.1)
          · rw [if_neg p3, if_pos (rfl : (0 : Int) = 0)]
            by_cases n4 : v4.toInt < 0
            · rw [if_pos n4]
              exact no 4
            · rw [if_neg n4, q_letE v2.toInt64, q_letE v5.toInt64, q_letE (v2.toInt64 + v5.toInt64), q_letE (τ2.1 (q_rf X a 5) t1), q_letE (τ2.1 (q_rf X a 5) t1).toInt64, q_letE (lg_cmp (v2.toInt64 + v5.toInt64) (τ2.1 (q_rf X a 5) t1).toInt64), if_neg (g1.mpr p1.2.2.2), q_letE v4.toInt64, q_letE v5.toInt64, q_letE (v4.toInt64 + v5.toInt64), q_letE (τ2.1 (q_rf X a 5) t3), q_letE (τ2.1 (q_rf X a 5) t3).toInt64, q_letE (lg_cmp (v4.toInt64 + v5.toInt64) (τ2.1 (q_rf X a 5) t3).toInt64)]
              by_cases n5 : 0 < (lg_cmp (v4.toInt64 + v5.toInt64) (τ2.1 (q_rf X a 5) t3).toInt64).toInt
              · rw [if_pos n5]
                exact no 4
              · have := g3.mp n5
                exact absurd ⟨by omega, by omega, by omega, by omega⟩ p3
        · rw [if_neg p1, if_pos (rfl : (0 : Int) = 0)]
          by_cases n2 : v2.toInt < 0
          · rw [if_pos n2]
            exact no 4
          rw [if_neg n2]
          by_cases n4 : v4.toInt < 0
          · rw [if_pos n4]
            exact no 4
          rw [if_neg n4, q_letE v2.toInt64, q_letE v5.toInt64, q_letE (v2.toInt64 + v5.toInt64), q_letE (τ2.1 (q_rf X a 5) t1), q_letE (τ2.1 (q_rf X a 5) t1).toInt64, q_letE (lg_cmp (v2.toInt64 + v5.toInt64) (τ2.1 (q_rf X a 5) t1).toInt64)]
          by_cases n5 : 0 < (lg_cmp (v2.toInt64 + v5.toInt64) (τ2.1 (q_rf X a 5) t1).toInt64).toInt
          · rw [if_pos n5]
            exact no 4
          · have := g1.mp n5
            exact absurd ⟨by omega, by omega, by omega, by omega⟩ p1
      · rw [if_neg qs, if_neg qs]
        exact no 11
    · rw [if_neg q3, on_n]
      by_cases n3 : v3.toInt < 0
      · rw [if_pos n3]
        exact no 1
      · rw [if_neg n3, if_neg (by omega : ¬ v3.toInt < 4)]
        exact no 1
  · rw [if_neg q1, on_n, q_letE (F_X11_trayAt X σ C v3), ct_at]
    have cl : q_on (if 0 ≤ v3.toInt ∧ v3.toInt < 4 then some (q_rf X (q_rf X C 3) v3.toNatClampNeg) else none) (q_bi (F_X11_no X σ C (1 : Int32)) (fun r s => (r, s))) (fun _ => q_bi (F_X11_no X σ C (1 : Int32)) (fun r s => (r, s))) = q_bi (F_X11_no X σ C (1 : Int32)) (fun r s => (r, s)) := by
      split <;> rfl
    rw [cl]
    by_cases n1 : v1.toInt < 0
    · rw [if_pos n1]
      exact no 1
    · rw [if_neg n1, if_neg (by omega : ¬ v1.toInt < 4)]
      exact no 1
end QZ
end
