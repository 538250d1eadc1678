/-! OBSERVERS: what a player holds, has said, cannot know; who has most; fractions told -/
section QA
variable {X : XW} {lb : Nat → Nat} {C a : Nat} {σ τ : ST} {n : Int}
theorem an_p (K : al_C X lb C a) (A : al_R X C a σ τ) (M : m_M (m_c X τ a) (τ.1 a 24).toInt n) {τ2 : ST} (m2 : m_c X τ2 a = m_c X τ a) (v : Int32) : (F_X11_isPlayer X σ C v).toInt = (if 0 ≤ v.toInt ∧ v.toInt < m_c X τ a 2 then 1 else 0) ∧ (F_X12_isPlayerAt X τ2 a v).toInt = if 0 ≤ v.toInt ∧ v.toInt < m_c X τ a 2 then 1 else 0 := by
  have w : y_W X lb (q_rf X C 8) 1 σ σ (y_v X (q_rf X C 8) σ) := y_W.rf
  have p1 := lk_player w v
  have hP : y_v X (q_rf X C 8) σ 1 4 = m_c X τ a 2 := A.1.1.1.2.2.2.2.1
  rw [hP] at p1
  exact ⟨p1, lk_playerAt m2 M.1.1.1.2.1 v⟩
theorem an_k (K : al_C X lb C a) (A : al_R X C a σ τ) (M : m_M (m_c X τ a) (τ.1 a 24).toInt n) {τ2 : ST} (m2 : m_c X τ2 a = m_c X τ a) (v : Int32) : (F_X11_isKind X σ C v).toInt = (if 0 ≤ v.toInt ∧ v.toInt < m_c X τ a 0 then 1 else 0) ∧ (F_X12_isKindAt X τ2 a v).toInt = if 0 ≤ v.toInt ∧ v.toInt < m_c X τ a 0 then 1 else 0 := by
  have w : y_W X lb (q_rf X C 8) 1 σ σ (y_v X (q_rf X C 8) σ) := y_W.rf
  have p1 := lk_kind w v
  have hP : y_v X (q_rf X C 8) σ 1 0 = m_c X τ a 0 := A.1.1.1.1
  rw [hP] at p1
  exact ⟨p1, lk_kindAt m2 M.1.1.1.1 v⟩
theorem ob_no (K : al_C X lb C a) (A : al_R X C a σ τ) (M : m_M (m_c X τ a) (τ.1 a 24).toInt n) (k : Int32) : ob_O X C a (q_bi (F_X11_no X σ C k) (fun r s => (r, s))) (q_bi (F_X12_no X (q_si (q_si τ a 1 0) a 0 0) a k) (fun r s => (r, s))) := by
  rw [ob_pe, ob_pe, mv_no, mv_noM]
  refine ⟨rfl, ?_, (al_st K A M k).2 k⟩
  show ((q_si σ C 0 k).1 C 0).toInt = ((q_si (q_si (q_si τ a 1 0) a 0 0) a 0 k).1 a 0).toInt
  rw [si_eq, si_eq]
theorem ob_gn (K : al_C X lb C a) (A : al_R X C a σ τ) (M : m_M (m_c X τ a) (τ.1 a 24).toInt n) {z z' : Int32} (h : z.toInt = z'.toInt) (hz : -1 ≤ z.toInt) : ob_O X C a (q_bi (F_X11_goodOrNotThere X σ C z) (fun r s => (r, s))) (if z'.toInt < 0 then q_bi (F_X12_refuse X (q_si (q_si τ a 1 0) a 0 0) a 8) (fun r s => (r, s)) else (z', q_si (q_si τ a 1 0) a 0 0)) := by
  rw [ob_pe]
  unfold F_X11_goodOrNotThere
  by_cases q : z.toInt = -1
  · rw [if_pos q, if_pos (by omega)]
    exact ob_none K A M 8
  · rw [if_neg q, if_neg (by omega)]
    exact ob_good K A M h
theorem an_al (K : al_C X lb C a) (A : al_R X C a σ τ) (M : m_M (m_c X τ a) (τ.1 a 24).toInt n) : al_R X C a σ (q_si (q_si τ a 1 0) a 0 0) ∧ ((q_si (q_si τ a 1 0) a 0 0).1 a 0).toInt = 0 := by
  obtain ⟨kC, ka, S, lC, G8, G9, GM⟩ := id K
  obtain ⟨m2, s2, t2⟩ := mv_beg S.1 ka (rfl : m_c X τ a = m_c X τ a)
  refine ⟨A.fr K M rfl m2 A.1.1 pl_fix.rf (fun _ _ _ => rfl) rfl ?_ rfl, by rw [s2]; rfl⟩
  rw [si_f (by decide), si_f (by decide)]
theorem an_tell (K : al_C X lb C a) (A : al_R X C a σ τ) (M : m_M (m_c X τ a) (τ.1 a 24).toInt n) (x y x' y' : Int64) : ob_O X C a (q_bi (F_X11_tell X σ C x y) (fun r s => (r, s))) (q_bi (F_X12_fraction X (q_si (q_si τ a 1 0) a 0 0) a x' y') (fun r s => (r, s))) := by
  rw [ob_pe, ob_pe]
  exact al_told K (an_al K A M).1 (an_al K A M).2 x y x' y'
/-- held -/
theorem an_held (K : al_C X lb C a) (A : al_R X C a σ τ) (M : m_M (m_c X τ a) (τ.1 a 24).toInt n) {τ2 : ST} (m2 : m_c X τ2 a = m_c X τ a) {x y : Int32} {p k : Int} (hx : x.toInt = p) (hy : y.toInt = k) (hp : 0 ≤ p ∧ p < 6) (hk : 0 ≤ k ∧ k < 10) : (F_X1_heldBy X σ (q_rf X (q_rf X C 8) 1) x y).toInt = m_c X τ a (34 + 10 * p + k) ∧ (F_X12_handOf X τ2 a x y).toInt = m_c X τ a (34 + 10 * p + k) := by
  obtain ⟨kC, ka, S, lC, G8, G9, GM⟩ := id K
  have w : y_W X lb (q_rf X C 8) 1 σ σ (y_v X (q_rf X C 8) σ) := y_W.rf
  refine ⟨?_, gm_handOf m2 hx hy hp hk⟩
  rw [gm_held S G8 w hx hy hp hk, A.1.1.2.2.2.1.1 _ (by omega) (by omega)]
  congr 1
  omega
theorem an_hasL (K : al_C X lb C a) (A : al_R X C a σ τ) (M : m_M (m_c X τ a) (τ.1 a 24).toInt n) {v : Int32} (hv : 0 ≤ v.toInt ∧ v.toInt < 6) (fu : Nat) : ∀ x y : Int32, (2147483647 - y.toInt).toNat < fu → 0 ≤ y.toInt → ob_O X C a (F_X11_has_L18_1 X σ C v fu x y) (F_X12_has_L28_1 X (q_si (q_si τ a 1 0) a 0 0) a v fu x y) := by
  obtain ⟨kC, ka, S, lC, G8, G9, GM⟩ := id K
  obtain ⟨m2, s2, t2⟩ := mv_beg S.1 ka (rfl : m_c X τ a = m_c X τ a)
  have w : y_W X lb (q_rf X C 8) 1 σ σ (y_v X (q_rf X C 8) σ) := y_W.rf
  have h0 := M.1.1.1.1
  have f0 : (σ.1 (q_rf X (q_rf X C 8) 0) 0).toInt = m_c X τ a 0 := (w.rd (id := 1) (by decide) 0 rfl).trans A.1.1.1.1
  have g0 : ((q_si (q_si τ a 1 0) a 0 0).1 (q_rf X a 20) (0 : Int32).toNatClampNeg).toInt = m_c X τ a 0 := gm_cell (A := 0) m2 rfl
  induction fu with
  | zero => intro x y h; exact absurd h (Nat.not_lt_zero _)
  | succ fu ih =>
    intro x y hf y0
    rw [F_X11_has_L18_1_s, F_X12_has_L28_1_s]
    unfold F_X11_has_B18_1 F_X12_has_B28_1
    rw [q_letE (σ.1 (q_rf X (q_rf X C 8) 0) 0), f0, q_letE ((q_si (q_si τ a 1 0) a 0 0).1 (q_rf X a 20) (0 : Int32).toNatClampNeg), g0]
    by_cases q : y.toInt < m_c X τ a 0
    · have e1 : (y + 1).toInt = y.toInt + 1 := y_inc (by omega)
      have hh := an_held K A M m2 (x := v) (y := y) rfl rfl hv ⟨y0, by omega⟩
      rw [if_pos q, if_pos q, q_letE (F_X1_heldBy X σ (q_rf X (q_rf X C 8) 1) v y), hh.1, q_letE (F_X12_handOf X (q_si (q_si τ a 1 0) a 0 0) a v y), hh.2]
      by_cases q2 : 0 < m_c X τ a (34 + 10 * v.toInt + y.toInt)
      · rw [if_pos q2, if_pos q2, q_letE ((1 : Int32) <<< (y &&& 31)), q_letE (x ||| (1 : Int32) <<< (y &&& 31)), q_letE (y + 1), q_letE ((1 : Int32) <<< (y &&& 31)), q_letE (x ||| (1 : Int32) <<< (y &&& 31)), q_letE (y + 1)]
        exact ih _ _ (by omega) (by omega)
      · rw [if_neg q2, if_neg q2, q_letE (y + 1), q_letE (x ||| 0), q_letE (y + 1), Int32.or_zero]
        exact ih _ _ (by omega) (by omega)
    · rw [if_neg q, if_neg q]
      unfold F_X11_has_E59_2
      exact ob_good K A M rfl
/-- has -/
theorem ob_has (K : al_C X lb C a) (A : al_R X C a σ τ) (M : m_M (m_c X τ a) (τ.1 a 24).toInt n) (v : Int32) : ob_O X C a (F_X11_has X σ C v) (F_X12_has X τ a v) := by
  obtain ⟨kC, ka, S, lC, G8, G9, GM⟩ := id K
  obtain ⟨m2, s2, t2⟩ := mv_beg S.1 ka (rfl : m_c X τ a = m_c X τ a)
  have h2 := M.1.1.1.2.1
  have pp := an_p K A M m2 v
  unfold F_X11_has F_X12_has
  rw [q_letE (F_X11_isPlayer X σ C v), pp.1, q_letE (q_si τ a 1 0), q_letE (q_si (q_si τ a 1 0) a 0 0), q_letE (F_X12_isPlayerAt X (q_si (q_si τ a 1 0) a 0 0) a v), pp.2]
  by_cases q : 0 ≤ v.toInt ∧ v.toInt < m_c X τ a 2
  · rw [if_pos q, if_neg (by decide : ¬ (1 : Int) = 0), if_neg (by decide : ¬ (1 : Int) = 0)]
    exact an_hasL K A M ⟨q.1, by omega⟩ _ 0 0 (Nat.lt_succ_self _) (by decide)
  · rw [if_neg q, if_pos rfl, if_pos rfl]
    exact ob_none K A M 2
/-- said -/
theorem an_saidL (K : al_C X lb C a) (A : al_R X C a σ τ) (M : m_M (m_c X τ a) (τ.1 a 24).toInt n) (v1 v2 : Int32) (fu : Nat) : ∀ (fv : Nat) (x y : Int32), (2147483647 - y.toInt).toNat < fu → (2147483647 - y.toInt).toNat < fv → 0 ≤ y.toInt → ob_O X C a (q_bi (F_X11_good X σ C (F_X2_timesSaid_L5_1 X σ (q_rf X (q_rf X C 8) 2) v1 v2 fu x y)) (fun r s => (r, s))) (F_X12_said_L37_1 X (q_si (q_si τ a 1 0) a 0 0) a v1 v2 fv x y) := by
  obtain ⟨kC, ka, S, lC, G8, G9, GM⟩ := id K
  obtain ⟨m2, s2, t2⟩ := mv_beg S.1 ka (rfl : m_c X τ a = m_c X τ a)
  have w : y_W X lb (q_rf X C 8) 1 σ σ (y_v X (q_rf X C 8) σ) := y_W.rf
  have b9 := M.1.1.1.2.2.2.2.2.2.1
  have l := A.1.1.2.2.2.2.1
  have one : (1 : Int32).toInt = 1 := rfl
  have n14 : ((y_gn 14 : Nat) : Int) = 80 := rfl
  have n15 : ((y_gn 15 : Nat) : Int) = 80 := rfl
  have f0 : (σ.1 (q_rf X (q_rf X C 8) 2) 0).toInt = m_c X τ a 9 := (w.rd (id := 2) (by decide) 0 rfl).trans l.1
  have g9 : ((q_si (q_si τ a 1 0) a 0 0).1 (q_rf X a 20) (9 : Int32).toNatClampNeg).toInt = m_c X τ a 9 := gm_cell (A := 9) m2 rfl
  have gd := fun {z z' : Int32} (h : z.toInt = z'.toInt) => ob_good K A M h
  obtain ⟨τ2, e2⟩ : ∃ t, t = q_si (q_si τ a 1 0) a 0 0 := ⟨_, rfl⟩
  rw [← e2] at m2 g9 gd ⊢
  induction fu with
  | zero => intro fv x y h; exact absurd h (Nat.not_lt_zero _)
  | succ fu ih =>
    intro fv x y hf hfv y0
    obtain ⟨fv', efv⟩ : ∃ k, fv = k + 1 := ⟨fv - 1, by omega⟩
    subst efv
    rw [F_X2_timesSaid_L5_1_s, F_X12_said_L37_1_s]
    unfold F_X2_timesSaid_B5_1 F_X12_said_B37_1
    rw [q_letE (σ.1 (q_rf X (q_rf X C 8) 2) 0), f0, q_letE (τ2.1 (q_rf X a 20) (9 : Int32).toNatClampNeg), g9]
    by_cases q : y.toInt < m_c X τ a 9
    · have e1 : (y + 1).toInt = y.toInt + 1 := y_inc (by omega)
      have ll := l.2.2 y.toInt y0 q
      have lv := gm_laid (X := X) (τ := τ2) (v := y) rfl ⟨y0, by omega⟩
      have a1 : (F_X5_get X σ (q_rf X (q_rf X (q_rf X C 8) 2) 2) y).toInt = m_c X τ a (94 + 7 * y.toInt) := (y_getI S G8 w (id := 14) (r := q_rf X (q_rf X (q_rf X C 8) 2) 2) ⟨by decide, by decide⟩ rfl rfl y0 (by rw [n14]; omega)).trans ll.1
      have a2 : (F_X5_get X σ (q_rf X (q_rf X (q_rf X C 8) 2) 3) y).toInt = m_c X τ a (94 + 7 * y.toInt + 1) := (y_getI S G8 w (id := 15) (r := q_rf X (q_rf X (q_rf X C 8) 2) 3) ⟨by decide, by decide⟩ rfl rfl y0 (by rw [n15]; omega)).trans ll.2.1
      have b1 : (τ2.1 (q_rf X a 20) (F_X12_laid X τ2 y).toNatClampNeg).toInt = m_c X τ a (94 + 7 * y.toInt) := gm_cell m2 lv
      have b2 : (τ2.1 (q_rf X a 20) (F_X12_laid X τ2 y + 1).toNatClampNeg).toInt = m_c X τ a (94 + 7 * y.toInt + 1) := gm_cell m2 (by rw [ar_add, lv, one, ar_wr (by omega) (by omega)])
      rw [if_pos q, if_pos q, q_letE (F_X5_get X σ (q_rf X (q_rf X (q_rf X C 8) 2) 2) y), a1, q_letE (F_X12_laid X τ2 y), q_letE (τ2.1 (q_rf X a 20) (F_X12_laid X τ2 y).toNatClampNeg), b1]
      by_cases q1 : m_c X τ a (94 + 7 * y.toInt) = v1.toInt
      · rw [if_pos q1, if_pos q1, q_letE (F_X5_get X σ (q_rf X (q_rf X (q_rf X C 8) 2) 3) y), a2, q_letE (F_X12_laid X τ2 y), q_letE (F_X12_laid X τ2 y + 1), q_letE (τ2.1 (q_rf X a 20) (F_X12_laid X τ2 y + 1).toNatClampNeg), b2]
        by_cases q2 : m_c X τ a (94 + 7 * y.toInt + 1) = v2.toInt
        · rw [if_pos q2, if_pos q2, q_letE (x + 1), q_letE (y + 1), q_letE (x + 1), q_letE (y + 1)]
          exact ih fv' _ _ (by omega) (by omega) (by omega)
        · rw [if_neg q2, if_neg q2, q_letE (y + 1), q_letE (x + 0), q_letE (y + 1), Int32.add_zero]
          exact ih fv' _ _ (by omega) (by omega) (by omega)
      · rw [if_neg q1, if_neg q1, q_letE (y + 1), q_letE (x + 0), q_letE (y + 1), Int32.add_zero]
        exact ih fv' _ _ (by omega) (by omega) (by omega)
    · rw [if_neg q, if_neg q]
      exact gd rfl
theorem ob_said (K : al_C X lb C a) (A : al_R X C a σ τ) (M : m_M (m_c X τ a) (τ.1 a 24).toInt n) (v1 v2 : Int32) : ob_O X C a (F_X11_said X σ C v1 v2) (F_X12_said X τ a v1 v2) := by
  obtain ⟨kC, ka, S, lC, G8, G9, GM⟩ := id K
  obtain ⟨m2, s2, t2⟩ := mv_beg S.1 ka (rfl : m_c X τ a = m_c X τ a)
  have pp := an_p K A M m2 v1
  have kk := an_k K A M m2 v2
  unfold F_X11_said F_X12_said
  rw [q_letE (F_X11_isPlayer X σ C v1), pp.1, q_letE (q_si τ a 1 0), q_letE (q_si (q_si τ a 1 0) a 0 0), q_letE (F_X12_isPlayerAt X (q_si (q_si τ a 1 0) a 0 0) a v1), pp.2]
  by_cases q : 0 ≤ v1.toInt ∧ v1.toInt < m_c X τ a 2
  · rw [if_pos q, if_neg (by decide : ¬ (1 : Int) = 0), if_neg (by decide : ¬ (1 : Int) = 0), q_letE (F_X11_isKind X σ C v2), kk.1, q_letE (F_X12_isKindAt X (q_si (q_si τ a 1 0) a 0 0) a v2), kk.2]
    by_cases q2 : 0 ≤ v2.toInt ∧ v2.toInt < m_c X τ a 0
    · rw [if_pos q2, if_neg (by decide : ¬ (1 : Int) = 0), if_neg (by decide : ¬ (1 : Int) = 0), q_letE (F_X2_timesSaid X σ (q_rf X (q_rf X C 8) 2) v1 v2)]
      exact an_saidL K A M v1 v2 _ _ 0 0 (Nat.lt_succ_self _) (Nat.lt_succ_self _) (by decide)
    · rw [if_neg q2, if_pos rfl, if_pos rfl]
      exact ob_none K A M 2
  · rw [if_neg q, if_pos rfl, if_pos rfl]
    exact ob_none K A M 2
/-- all unknown -/
theorem an_allC (K : al_C X lb C a) (A : al_R X C a σ τ) (M : m_M (m_c X τ a) (τ.1 a 24).toInt n) {v : Int32} {p : Int} (hv : v.toInt = p) (hp : 0 ≤ p ∧ p < m_c X τ a 2) (fu : Nat) : ∀ x y : Int32, (2147483647 - y.toInt).toNat < fu → 0 ≤ y.toInt → y.toInt ≤ m_c X τ a 0 → x.toInt = m_V (m_c X τ a) p y.toInt.toNat → (F_X0_allUnknownTo_L4_1 X σ (q_rf X C 8) v fu x y).toInt = m_V (m_c X τ a) p (m_c X τ a 0).toNat := by
  obtain ⟨kC, ka, S, lC, G8, G9, GM⟩ := id K
  have w : y_W X lb (q_rf X C 8) 1 σ σ (y_v X (q_rf X C 8) σ) := y_W.rf
  have h0 := M.1.1.1.1
  have f0 : (σ.1 (q_rf X (q_rf X C 8) 0) 0).toInt = m_c X τ a 0 := (w.rd (id := 1) (by decide) 0 rfl).trans A.1.1.1.1
  induction fu with
  | zero => intro x y h; exact absurd h (Nat.not_lt_zero _)
  | succ fu ih =>
    intro x y hf y0 y1 hx
    rw [F_X0_allUnknownTo_L4_1_s]
    unfold F_X0_allUnknownTo_B4_1
    rw [q_letE (σ.1 (q_rf X (q_rf X C 8) 0) 0), f0]
    by_cases q : y.toInt < m_c X τ a 0
    · have e1 : (y + 1).toInt = y.toInt + 1 := y_inc (by omega)
      have u := (rg.know (X := X) (τ := τ) S G8 w A.1.1 M.1.1 rfl (v1 := v) (v2 := y) hv rfl hp ⟨y0, by omega⟩).2.2.1
      have ub := M.1.1.U_bd hp.1 hp.2 y0 (by omega : y.toInt < 10)
      have vb := M.1.1.V_bd hp.1 hp.2 y.toInt.toNat (by omega)
      have vs := m_V_succ (m_c X τ a) p y.toInt y0
      rw [if_pos q, q_letE (F_X0_unknownTo X σ (q_rf X C 8) v y), q_letE (x + F_X0_unknownTo X σ (q_rf X C 8) v y), q_letE (y + 1)]
      exact ih _ _ (by omega) (by omega) (by omega) (by rw [ar_add, u, hx, e1, vs, ar_wr (by omega) (by omega)])
    · have ey : y.toInt = m_c X τ a 0 := by omega
      rw [if_neg q, hx, ey]
theorem an_allM (K : al_C X lb C a) (A : al_R X C a σ τ) (M : m_M (m_c X τ a) (τ.1 a 24).toInt n) {τ2 : ST} (m2 : m_c X τ2 a = m_c X τ a) {v : Int32} {p : Int} (hv : v.toInt = p) (hp : 0 ≤ p ∧ p < m_c X τ a 2) (fu : Nat) : ∀ x y : Int32, (2147483647 - y.toInt).toNat < fu → 0 ≤ y.toInt → y.toInt ≤ m_c X τ a 0 → x.toInt = m_V (m_c X τ a) p y.toInt.toNat → (F_X12_unknownAll_L4_1 X τ2 a v fu x y).toInt = m_V (m_c X τ a) p (m_c X τ a 0).toNat := by
  obtain ⟨kC, ka, S, lC, G8, G9, GM⟩ := id K
  have w : y_W X lb (q_rf X C 8) 1 σ σ (y_v X (q_rf X C 8) σ) := y_W.rf
  have h0 := M.1.1.1.1
  have f0 : (τ2.1 (q_rf X a 20) (0 : Int32).toNatClampNeg).toInt = m_c X τ a 0 := gm_cell (A := 0) m2 rfl
  induction fu with
  | zero => intro x y h; exact absurd h (Nat.not_lt_zero _)
  | succ fu ih =>
    intro x y hf y0 y1 hx
    rw [F_X12_unknownAll_L4_1_s]
    unfold F_X12_unknownAll_B4_1
    rw [q_letE (τ2.1 (q_rf X a 20) (0 : Int32).toNatClampNeg), f0]
    by_cases q : y.toInt < m_c X τ a 0
    · have e1 : (y + 1).toInt = y.toInt + 1 := y_inc (by omega)
      have u := (rg.know (X := X) (τ := τ2) S G8 w A.1.1 M.1.1 m2 (v1 := v) (v2 := y) hv rfl hp ⟨y0, by omega⟩).2.2.2
      have ub := M.1.1.U_bd hp.1 hp.2 y0 (by omega : y.toInt < 10)
      have vb := M.1.1.V_bd hp.1 hp.2 y.toInt.toNat (by omega)
      have vs := m_V_succ (m_c X τ a) p y.toInt y0
      rw [if_pos q, q_letE (F_X12_unknownOf X τ2 a v y), q_letE (x + F_X12_unknownOf X τ2 a v y), q_letE (y + 1)]
      exact ih _ _ (by omega) (by omega) (by omega) (by rw [ar_add, u, hx, e1, vs, ar_wr (by omega) (by omega)])
    · have ey : y.toInt = m_c X τ a 0 := by omega
      rw [if_neg q, hx, ey]
theorem an_all (K : al_C X lb C a) (A : al_R X C a σ τ) (M : m_M (m_c X τ a) (τ.1 a 24).toInt n) {τ2 : ST} (m2 : m_c X τ2 a = m_c X τ a) {v : Int32} {p : Int} (hv : v.toInt = p) (hp : 0 ≤ p ∧ p < m_c X τ a 2) : (F_X0_allUnknownTo X σ (q_rf X C 8) v).toInt = m_V (m_c X τ a) p (m_c X τ a 0).toNat ∧ (F_X12_unknownAll X τ2 a v).toInt = m_V (m_c X τ a) p (m_c X τ a 0).toNat := by
  have z0 : (0 : Int32).toInt = 0 := rfl
  have h0 := M.1.1.1.1
  unfold F_X0_allUnknownTo F_X12_unknownAll
  exact ⟨an_allC K A M hv hp _ 0 0 (Nat.lt_succ_self _) (by decide) (by rw [z0]; omega) (by rw [z0]; rfl), an_allM K A M m2 hv hp _ 0 0 (Nat.lt_succ_self _) (by decide) (by rw [z0]; omega) (by rw [z0]; rfl)⟩
/-- unknown -/
theorem ob_unknown (K : al_C X lb C a) (A : al_R X C a σ τ) (M : m_M (m_c X τ a) (τ.1 a 24).toInt n) (v1 v2 : Int32) : ob_O X C a (F_X11_unknown X σ C v1 v2) (F_X12_unknown X τ a v1 v2) := by
  obtain ⟨kC, ka, S, lC, G8, G9, GM⟩ := id K
  obtain ⟨m2, s2, t2⟩ := mv_beg S.1 ka (rfl : m_c X τ a = m_c X τ a)
  have w : y_W X lb (q_rf X C 8) 1 σ σ (y_v X (q_rf X C 8) σ) := y_W.rf
  have h0 := M.1.1.1.1
  have pp := an_p K A M m2 v1
  have kk := an_k K A M m2 v2
  have kn := lk_kindNone w v2
  have hK : y_v X (q_rf X C 8) σ 1 0 = m_c X τ a 0 := A.1.1.1.1
  rw [hK] at kn
  unfold F_X11_unknown F_X12_unknown
  rw [q_letE (F_X11_isPlayer X σ C v1), pp.1, q_letE (q_si τ a 1 0), q_letE (q_si (q_si τ a 1 0) a 0 0), q_letE (F_X12_isPlayerAt X (q_si (q_si τ a 1 0) a 0 0) a v1), pp.2]
  by_cases q : 0 ≤ v1.toInt ∧ v1.toInt < m_c X τ a 2
  · rw [if_pos q, if_neg (by decide : ¬ (1 : Int) = 0), if_neg (by decide : ¬ (1 : Int) = 0), q_letE (F_X11_isKindOrNone X σ C v2), kn]
    by_cases q1 : v2.toInt = -1
    · have al := an_all K A M m2 (v := v1) rfl q
      rw [if_pos (Or.inl q1), if_neg (by decide : ¬ (1 : Int) = 0), if_pos q1, if_pos q1, if_pos q1, q_letE (F_X0_allUnknownTo X σ (q_rf X C 8) v1), q_letE (F_X12_unknownAll X (q_si (q_si τ a 1 0) a 0 0) a v1)]
      exact ob_good K A M (al.1.trans al.2.symm)
    · rw [if_neg q1, q_letE (F_X12_isKindAt X (q_si (q_si τ a 1 0) a 0 0) a v2), kk.2]
      by_cases q2 : 0 ≤ v2.toInt ∧ v2.toInt < m_c X τ a 0
      · have kw := rg.know (X := X) S G8 w A.1.1 M.1.1 m2 (v1 := v1) (v2 := v2) rfl rfl q ⟨q2.1, by omega⟩
        rw [if_pos (Or.inr q2), if_neg (by decide : ¬ (1 : Int) = 0), if_neg q1, if_pos q2, if_neg (by decide : ¬ (1 : Int) = 0), if_neg q1, q_letE (F_X0_unknownTo X σ (q_rf X C 8) v1 v2), q_letE (F_X12_unknownOf X (q_si (q_si τ a 1 0) a 0 0) a v1 v2)]
        exact ob_good K A M (kw.2.2.1.trans kw.2.2.2.symm)
      · have nn : ¬ (v2.toInt = -1 ∨ 0 ≤ v2.toInt ∧ v2.toInt < m_c X τ a 0) := fun z => z.elim q1 q2
        rw [if_neg nn, if_pos rfl, if_neg q1, if_neg q2, if_pos rfl]
        exact ob_none K A M 2
  · rw [if_neg q, if_pos rfl, if_pos rfl]
    exact ob_none K A M 2
/-- lies -/
theorem an_lies (K : al_C X lb C a) (A : al_R X C a σ τ) (M : m_M (m_c X τ a) (τ.1 a 24).toInt n) {v : Int32} {k : Int} (hv : v.toInt = k) (hk : 0 ≤ k ∧ k < 10) (fu : Nat) : ∀ (x y : Int32) (s : Int), (2147483647 - y.toInt).toNat < fu → 0 ≤ y.toInt → y.toInt ≤ m_c X τ a 2 → x.toInt = s → (0 ≤ s ∧ s ≤ 80 * y.toInt) → (∀ p : Int, m_c X τ a 2 ≤ p → p < 6 → m_A (m_c X τ a) p k (m_c X τ a 9).toNat = 0) → s = gq (y_v X (q_rf X C 8) σ 8) k y.toInt.toNat → (F_X0_lyingOf_L4_1 X σ (q_rf X C 8) v fu x y).toInt = gq (y_v X (q_rf X C 8) σ 8) k (m_c X τ a 2).toNat := by
  obtain ⟨kC, ka, S, lC, G8, G9, GM⟩ := id K
  have w : y_W X lb (q_rf X C 8) 1 σ σ (y_v X (q_rf X C 8) σ) := y_W.rf
  have h2 := M.1.1.1.2.1
  have b9 := M.1.1.1.2.2.2.2.2.2.1
  have e10 : (10 : Int32).toInt = 10 := rfl
  have n8 : ((y_gn 8 : Nat) : Int) = 60 := rfl
  have f4 : (σ.1 (q_rf X (q_rf X C 8) 0) 4).toInt = m_c X τ a 2 := (w.rd (id := 1) (by decide) 4 rfl).trans A.1.1.1.2.2.2.2.1
  induction fu with
  | zero => intro x y s h; exact absurd h (Nat.not_lt_zero _)
  | succ fu ih =>
    intro x y s hf y0 y1 hx hs hz hq
    rw [F_X0_lyingOf_L4_1_s]
    unfold F_X0_lyingOf_B4_1
    rw [q_letE (σ.1 (q_rf X (q_rf X C 8) 0) 4), f4]
    by_cases q : y.toInt < m_c X τ a 2
    · have e1 : (y + 1).toInt = y.toInt + 1 := y_inc (by omega)
      have ix : (y * (10 : Int32) + v).toInt = 10 * y.toInt + k := by
        rw [ar_add, ar_mul, e10, hv, ar_wr (n := y.toInt * 10) (by omega) (by omega), ar_wr (by omega) (by omega)]
        omega
      have lb1 : (F_X1_laidBy X σ (q_rf X (q_rf X C 8) 1) y v).toInt = y_v X (q_rf X C 8) σ 8 (10 * y.toInt + k) := by
        unfold F_X1_laidBy
        rw [q_letE (y * (10 : Int32)), q_letE (y * (10 : Int32) + v), q_letE]
        exact y_getI S G8 w (id := 8) (r := q_rf X (q_rf X (q_rf X C 8) 1) 1) ⟨by decide, by decide⟩ rfl ix (by omega) (by rw [n8]; omega)
      have la := A.1.1.2.2.2.2.2.1 y.toInt k y0 (by omega) hk.1 hk.2
      have ab := M.1.1.A_bd y.toInt k (m_c X τ a 9).toNat (by omega)
      have l80 := M.1.1.L80 b9.1 (Int.le_refl (m_c X τ a 9))
      have gs := gq_s (y_v X (q_rf X C 8) σ 8) k y0
      rw [if_pos q, q_letE (F_X1_laidBy X σ (q_rf X (q_rf X C 8) 1) y v), q_letE (x + F_X1_laidBy X σ (q_rf X (q_rf X C 8) 1) y v), q_letE (y + 1)]
      refine ih _ _ (s + y_v X (q_rf X C 8) σ 8 (10 * y.toInt + k)) (by omega) (by omega) (by omega) (by rw [ar_add, hx, lb1, ar_wr (by omega) (by omega)]) ⟨by omega, by omega⟩ hz ?_
      rw [e1, gs, hq]
    · have ey : y.toInt = m_c X τ a 2 := by omega
      rw [if_neg q, hx, hq, ey]
end QA
