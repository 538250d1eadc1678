/-! OBSERVERS: the open laying, fractions told, sums over players and layings -/
section QB
variable {X : XW} {lb : Nat → Nat} {C a : Nat} {σ τ : ST} {n : Int}
/-- why not, in both -/
theorem an_why (K : al_C X lb C a) (A : al_R X C a σ τ) (M : m_M (m_c X τ a) (τ.1 a 24).toInt n) {τ2 : ST} (m2 : m_c X τ2 a = m_c X τ a) (v : Int32) : F_X11_doubterStatus X σ C v = F_X12_whyNot X τ2 a v ∧ ((F_X12_whyNot X τ2 a v).toInt = 0 → (0 ≤ v.toInt ∧ v.toInt < m_c X τ a 2) ∧ m_c X τ a 7 = 1 ∧ v.toInt ≠ m_c X τ a 6) ∧ 0 ≤ (F_X12_whyNot X τ2 a v).toInt := by
  have w : y_W X lb (q_rf X C 8) 1 σ σ (y_v X (q_rf X C 8) σ) := y_W.rf
  have pp := an_p K A M m2 v
  have b7 := M.1.1.1.2.2.2.2.2.1
  have s := A.1.1.2.1
  have f7 : (σ.1 (q_rf X C 8) 7).toInt = m_c X τ a 7 := (w.rd (id := 0) (by decide) 7 rfl).trans s.2.2.2
  have f5 : (σ.1 (q_rf X C 8) 5).toInt = y_v X (q_rf X C 8) σ 0 5 := w.rd (id := 0) (by decide) 5 rfl
  have g7 : (τ2.1 (q_rf X a 20) (7 : Int32).toNatClampNeg).toInt = m_c X τ a 7 := gm_cell (A := 7) m2 rfl
  have g6 : (τ2.1 (q_rf X a 20) (6 : Int32).toNatClampNeg).toInt = m_c X τ a 6 := gm_cell (A := 6) m2 rfl
  unfold F_X11_doubterStatus F_X12_whyNot
  rw [q_letE (F_X11_isPlayer X σ C v), pp.1, q_letE (F_X12_isPlayerAt X τ2 a v), pp.2]
  by_cases q : 0 ≤ v.toInt ∧ v.toInt < m_c X τ a 2
  · rw [if_pos q, if_neg (by decide : ¬ (1 : Int) = 0), if_neg (by decide : ¬ (1 : Int) = 0), q_letE (σ.1 (q_rf X C 8) 7), f7, q_letE (τ2.1 (q_rf X a 20) (7 : Int32).toNatClampNeg), g7]
    by_cases q7 : m_c X τ a 7 = 0
    · rw [if_pos q7, if_pos q7]
      exact ⟨rfl, fun z => absurd z (by decide), by decide⟩
    · have v5 : y_v X (q_rf X C 8) σ 0 5 = m_c X τ a 6 := by
        have z := s.2.1
        rw [if_neg (by omega)] at z
        exact z
      rw [if_neg q7, if_neg q7, q_letE (σ.1 (q_rf X C 8) 5), f5, v5, q_letE (τ2.1 (q_rf X a 20) (6 : Int32).toNatClampNeg), g6]
      by_cases q6 : v.toInt = m_c X τ a 6
      · rw [if_pos q6, if_pos q6.symm]
        exact ⟨rfl, fun z => absurd z (by decide), by decide⟩
      · rw [if_neg q6, if_neg (fun z => q6 z.symm)]
        exact ⟨rfl, fun _ => ⟨q, by omega, q6⟩, by decide⟩
  · rw [if_neg q, if_pos rfl, if_pos rfl]
    exact ⟨rfl, fun z => absurd z (by decide), by decide⟩
/-- a call that asks why not first: refused -/
theorem an_whyN (K : al_C X lb C a) (A : al_R X C a σ τ) (M : m_M (m_c X τ a) (τ.1 a 24).toInt n) (r k : Int32) : al_R X C a (q_si σ C 0 k) (q_si (q_si τ a 1 0) a 0 k) := by
  obtain ⟨kC, ka, S, lC, G8, G9, GM⟩ := id K
  obtain ⟨m2, s2, t2⟩ := mv_beg S.1 ka (rfl : m_c X τ a = m_c X τ a)
  have oC : lb C / 8192 ≠ 1 := by rw [lC]; decide
  refine A.fr K M (pl_vo S G8 oC 0 k) ((mv_cell S.1 ka 0 k).trans (mv_cell S.1 ka 1 0)) A.1.1 pl_fix.rf (fun b hb f => q_si_ne (fun e => by rw [e, lC] at hb; omega) f) (si_f (by decide) _) ?_ rfl
  rw [si_f (by decide), si_f (by decide)]
theorem an_whyO (K : al_C X lb C a) (A : al_R X C a σ τ) (M : m_M (m_c X τ a) (τ.1 a 24).toInt n) {z k z' : Int32} (hz : z.toInt = z'.toInt) : ob_O X C a (z, q_si σ C 0 k) (z', q_si (q_si τ a 1 0) a 0 k) :=
  ⟨hz, by
    show ((q_si σ C 0 k).1 C 0).toInt = ((q_si (q_si τ a 1 0) a 0 k).1 a 0).toInt
    rw [si_eq, si_eq], an_whyN K A M z k⟩
/-- impossible -/
theorem ob_impossible (K : al_C X lb C a) (A : al_R X C a σ τ) (M : m_M (m_c X τ a) (τ.1 a 24).toInt n) (v : Int32) : ob_O X C a (F_X11_impossible X σ C v) (F_X12_impossible X τ a v) := by
  obtain ⟨kC, ka, S, lC, G8, G9, GM⟩ := id K
  have m1 : m_c X (q_si τ a 1 0) a = m_c X τ a := mv_cell S.1 ka 1 0
  obtain ⟨w1, w2, w3⟩ := an_why K A M m1 v
  have b79 := M.1.1.1.2.2.2.2.2.2.2
  unfold F_X11_impossible F_X12_impossible
  rw [q_letE (F_X11_doubterStatus X σ C v), w1, q_letE (q_si τ a 1 0), q_letE (F_X12_whyNot X (q_si τ a 1 0) a v)]
  obtain ⟨k, hk⟩ : ∃ k, k = F_X12_whyNot X (q_si τ a 1 0) a v := ⟨_, rfl⟩
  rw [← hk] at w2 w3 ⊢
  have m2 : m_c X (q_si (q_si τ a 1 0) a 0 k) a = m_c X τ a := (mv_cell S.1 ka 0 k).trans m1
  rw [q_letE (q_si (q_si τ a 1 0) a 0 k), q_letE ((q_si (q_si τ a 1 0) a 0 k).1 a 0), si_eq]
  by_cases q : k.toInt = 0
  · have k0 : k = 0 := Int32.toInt_inj.mp q
    obtain ⟨p1, p7, p6⟩ := w2 q
    obtain ⟨im, im01⟩ := pl_imp (X := X) (a := a) (τ := q_si (q_si τ a 1 0) a 0 k) S G8 (rfl : y_v X (q_rf X C 8) σ = _) A.1.1 M.1.1 m2 (by omega) (rfl : v.toInt = v.toInt) (rfl : v.toInt = v.toInt) p1
    rw [if_pos q, if_neg (by omega : ¬ 0 < k.toInt), q_letE (F_X0_isImpossibleFor X σ (q_rf X C 8) v), im, q_letE (F_X12_isImpossible X (q_si (q_si τ a 1 0) a 0 k) a v)]
    by_cases qi : (F_X12_isImpossible X (q_si (q_si τ a 1 0) a 0 k) a v).toInt = 0
    · rw [if_pos qi, if_pos qi, ob_pe, mv_good, k0]
      exact an_whyO K A M rfl
    · rw [if_neg qi, if_neg qi, ob_pe, mv_good, k0]
      exact an_whyO K A M rfl
  · rw [if_neg q, if_pos (by omega : 0 < k.toInt), ob_pe, mv_none]
    exact an_whyO K A M rfl
/-- blinds writes two numbers of its own -/
theorem an_blinds (τ : ST) (v : Int32) : (F_X12_blinds X τ a v).1 = τ.1 ∧ (F_X12_blinds X τ a v).2.2 = τ.2.2 ∧ ∀ b f, b ≠ a → (F_X12_blinds X τ a v).2.1 b f = τ.2.1 b f := by
  unfold F_X12_blinds
  rw [q_letE, q_letE, q_letE, q_letE, q_letE, q_letE, q_letE, q_letE, q_letE, q_letE, q_letE, q_letE]
  exact ⟨rfl, rfl, fun b f h => (q_sl_ne h f).trans (q_sl_ne h f)⟩
theorem an_same (K : al_C X lb C a) (A : al_R X C a σ τ) {τ2 : ST} (h1 : τ2.1 = τ.1) (h2 : ∀ b f, b ≠ a → τ2.2.1 b f = τ.2.1 b f) : al_R X C a σ τ2 := by
  obtain ⟨kC, ka, S, lC, G8, G9, GM⟩ := id K
  obtain ⟨A1, A2, A3, A4⟩ := A
  have n23 : q_rf X a 23 ≠ a := m_ne (tb_k S.1 ka).2.2.1 ka (by decide)
  have m : m_c X τ2 a = m_c X τ a := pl_mc (fun f => by rw [h1])
  have w : m_wd X τ2 a = m_wd X τ a := by
    funext j
    exact congrArg Int64.toInt (h2 _ _ n23)
  exact ⟨by rw [m, w]; exact A1, by rw [h1]; exact A2, A3, fun b b1 b2 => by rw [m, w]; exact A4 b b1 b2⟩
/-- behind why not: a fraction -/
theorem an_whyT (K : al_C X lb C a) (A : al_R X C a σ τ) (M : m_M (m_c X τ a) (τ.1 a 24).toInt n) {k : Int32} (h : k.toInt = 0) (v : Int32) (x y x' y' : Int64) : ob_O X C a (q_bi (F_X11_tell X σ C x y) (fun r s => (r, s))) (q_bi (F_X12_fraction X (F_X12_blinds X (q_si (q_si τ a 1 0) a 0 k) a v) a x' y') (fun r s => (r, s))) := by
  obtain ⟨kC, ka, S, lC, G8, G9, GM⟩ := id K
  obtain ⟨m2, s2, t2⟩ := mv_beg S.1 ka (rfl : m_c X τ a = m_c X τ a)
  have k0 : k = 0 := Int32.toInt_inj.mp h
  obtain ⟨b1, b2, b3⟩ := an_blinds (X := X) (a := a) (q_si (q_si τ a 1 0) a 0 k) v
  rw [ob_pe, ob_pe]
  refine al_told K (an_same K (an_al K A M).1 (by rw [b1, k0]) (fun b f hb => by rw [b3 b f hb, k0])) ?_ x y x' y'
  rw [b1, si_eq]
  exact h
theorem ob_blind (K : al_C X lb C a) (A : al_R X C a σ τ) (M : m_M (m_c X τ a) (τ.1 a 24).toInt n) (v : Int32) : ob_O X C a (F_X11_blind X σ C v) (F_X12_blind X τ a v) := by
  obtain ⟨kC, ka, S, lC, G8, G9, GM⟩ := id K
  have m1 : m_c X (q_si τ a 1 0) a = m_c X τ a := mv_cell S.1 ka 1 0
  obtain ⟨w1, w2, w3⟩ := an_why K A M m1 v
  unfold F_X11_blind F_X12_blind
  rw [q_letE (F_X11_doubterStatus X σ C v), w1, q_letE (q_si τ a 1 0), q_letE (F_X12_whyNot X (q_si τ a 1 0) a v)]
  obtain ⟨k, hk⟩ : ∃ k, k = F_X12_whyNot X (q_si τ a 1 0) a v := ⟨_, rfl⟩
  rw [← hk] at w2 w3 ⊢
  rw [q_letE (q_si (q_si τ a 1 0) a 0 k), q_letE ((q_si (q_si τ a 1 0) a 0 k).1 a 0), si_eq]
  by_cases q : k.toInt = 0
  · rw [if_pos q, if_neg (by omega : ¬ 0 < k.toInt), q_letE, q_letE, q_letE (F_X12_blinds X (q_si (q_si τ a 1 0) a 0 k) a v), q_letE, q_letE]
    exact an_whyT K A M q v _ _ _ _
  · rw [if_neg q, if_pos (by omega : 0 < k.toInt), ob_pe, mv_no]
    exact an_whyO K A M rfl
theorem ob_worth (K : al_C X lb C a) (A : al_R X C a σ τ) (M : m_M (m_c X τ a) (τ.1 a 24).toInt n) (v : Int32) : ob_O X C a (F_X11_worth X σ C v) (F_X12_worth X τ a v) := by
  obtain ⟨kC, ka, S, lC, G8, G9, GM⟩ := id K
  have m1 : m_c X (q_si τ a 1 0) a = m_c X τ a := mv_cell S.1 ka 1 0
  obtain ⟨w1, w2, w3⟩ := an_why K A M m1 v
  unfold F_X11_worth F_X12_worth
  rw [q_letE (F_X11_doubterStatus X σ C v), w1, q_letE (q_si τ a 1 0), q_letE (F_X12_whyNot X (q_si τ a 1 0) a v)]
  obtain ⟨k, hk⟩ : ∃ k, k = F_X12_whyNot X (q_si τ a 1 0) a v := ⟨_, rfl⟩
  rw [← hk] at w2 w3 ⊢
  rw [q_letE (q_si (q_si τ a 1 0) a 0 k), q_letE ((q_si (q_si τ a 1 0) a 0 k).1 a 0), si_eq]
  by_cases q : k.toInt = 0
  · rw [if_pos q, if_neg (by omega : ¬ 0 < k.toInt), q_letE, q_letE, q_letE (F_X12_blinds X (q_si (q_si τ a 1 0) a 0 k) a v), q_letE, q_letE, q_letE, q_letE, q_letE, q_letE, q_letE, q_letE]
    exact an_whyT K A M q v _ _ _ _
  · rw [if_neg q, if_pos (by omega : 0 < k.toInt), ob_pe, mv_no]
    exact an_whyO K A M rfl
theorem ob_belief (K : al_C X lb C a) (A : al_R X C a σ τ) (M : m_M (m_c X τ a) (τ.1 a 24).toInt n) (v : Int32) : ob_O X C a (F_X11_belief X σ C v) (F_X12_belief X τ a v) := by
  obtain ⟨kC, ka, S, lC, G8, G9, GM⟩ := id K
  have m1 : m_c X (q_si τ a 1 0) a = m_c X τ a := mv_cell S.1 ka 1 0
  obtain ⟨w1, w2, w3⟩ := an_why K A M m1 v
  unfold F_X11_belief F_X12_belief
  rw [q_letE (F_X11_doubterStatus X σ C v), w1, q_letE (q_si τ a 1 0), q_letE (F_X12_whyNot X (q_si τ a 1 0) a v)]
  obtain ⟨k, hk⟩ : ∃ k, k = F_X12_whyNot X (q_si τ a 1 0) a v := ⟨_, rfl⟩
  rw [← hk] at w2 w3 ⊢
  rw [q_letE (q_si (q_si τ a 1 0) a 0 k), q_letE ((q_si (q_si τ a 1 0) a 0 k).1 a 0), si_eq]
  by_cases q : k.toInt = 0
  · rw [if_pos q, if_neg (by omega : ¬ 0 < k.toInt), q_letE, q_letE, q_letE, q_letE, q_letE, q_letE, q_letE, q_letE, q_letE, q_letE, q_letE, q_letE, q_letE (F_X12_blinds X (q_si (q_si τ a 1 0) a 0 k) a v), q_letE, q_letE, q_letE, q_letE, q_letE, q_letE, q_letE, q_letE, q_letE, q_letE, q_letE, q_letE, q_letE, q_letE, q_letE, q_letE, q_letE, q_letE, q_letE]
    exact an_whyT K A M q v _ _ _ _
  · rw [if_neg q, if_pos (by omega : 0 < k.toInt), ob_pe, mv_no]
    exact an_whyO K A M rfl
theorem ob_honest (K : al_C X lb C a) (A : al_R X C a σ τ) (M : m_M (m_c X τ a) (τ.1 a 24).toInt n) (v : Int32) : ob_O X C a (F_X11_honest X σ C v) (F_X12_honest X τ a v) := by
  obtain ⟨kC, ka, S, lC, G8, G9, GM⟩ := id K
  obtain ⟨m2, s2, t2⟩ := mv_beg S.1 ka (rfl : m_c X τ a = m_c X τ a)
  have pp := an_p K A M m2 v
  unfold F_X11_honest F_X12_honest
  rw [q_letE (F_X11_isPlayer X σ C v), pp.1, q_letE (q_si τ a 1 0), q_letE (q_si (q_si τ a 1 0) a 0 0), q_letE (F_X12_isPlayerAt X (q_si (q_si τ a 1 0) a 0 0) a v), pp.2]
  by_cases q : 0 ≤ v.toInt ∧ v.toInt < m_c X τ a 2
  · rw [if_pos q, if_neg (by decide : ¬ (1 : Int) = 0), if_neg (by decide : ¬ (1 : Int) = 0), q_letE, q_letE, q_letE, q_letE, q_letE, q_letE, q_letE, q_letE, q_letE, q_letE, q_letE, q_letE, q_letE]
    exact an_tell K A M _ _ _ _
  · rw [if_neg q, if_pos rfl, if_pos rfl]
    exact ob_no K A M 2
theorem ob_heap (K : al_C X lb C a) (A : al_R X C a σ τ) (M : m_M (m_c X τ a) (τ.1 a 24).toInt n) (v1 v2 : Int32) : ob_O X C a (F_X11_heap X σ C v1 v2) (F_X12_heap X τ a v1 v2) := by
  obtain ⟨kC, ka, S, lC, G8, G9, GM⟩ := id K
  obtain ⟨m2, s2, t2⟩ := mv_beg S.1 ka (rfl : m_c X τ a = m_c X τ a)
  have pp := an_p K A M m2 v1
  have kk := an_k K A M m2 v2
  unfold F_X11_heap F_X12_heap
  rw [q_letE (F_X11_isPlayer X σ C v1), pp.1, q_letE (q_si τ a 1 0), q_letE (q_si (q_si τ a 1 0) a 0 0), q_letE (F_X12_isPlayerAt X (q_si (q_si τ a 1 0) a 0 0) a v1), pp.2]
  by_cases q : 0 ≤ v1.toInt ∧ v1.toInt < m_c X τ a 2
  · rw [if_pos q, if_neg (by decide : ¬ (1 : Int) = 0), if_neg (by decide : ¬ (1 : Int) = 0), q_letE (F_X11_isKind X σ C v2), kk.1, q_letE (F_X12_isKindAt X (q_si (q_si τ a 1 0) a 0 0) a v2), kk.2]
    by_cases q2 : 0 ≤ v2.toInt ∧ v2.toInt < m_c X τ a 0
    · rw [if_pos q2, if_neg (by decide : ¬ (1 : Int) = 0), if_neg (by decide : ¬ (1 : Int) = 0)]
      have al := an_all K A M m2 (v := v1) rfl q
      have ee : F_X0_allUnknownTo X σ (q_rf X C 8) v1 = F_X12_unknownAll X (q_si (q_si τ a 1 0) a 0 0) a v1 := Int32.toInt_inj.mp (al.1.trans al.2.symm)
      obtain ⟨u, hu⟩ : ∃ u, u = F_X12_unknownAll X (q_si (q_si τ a 1 0) a 0 0) a v1 := ⟨_, rfl⟩
      rw [← hu] at ee ⊢
      simp only [↓q_letE, ee]
      by_cases q3 : (lg_cmp u.toInt64 0).toInt = 0
      · rw [if_pos q3, if_pos q3]
        exact an_tell K A M _ _ _ _
      · rw [if_neg q3, if_neg q3]
        exact an_tell K A M _ _ _ _
    · rw [if_neg q2, if_pos rfl, if_pos rfl]
      exact ob_no K A M 2
  · rw [if_neg q, if_pos rfl, if_pos rfl]
    exact ob_no K A M 2
theorem ob_guess (K : al_C X lb C a) (A : al_R X C a σ τ) (M : m_M (m_c X τ a) (τ.1 a 24).toInt n) (v1 v2 v3 : Int32) : ob_O X C a (F_X11_guess X σ C v1 v2 v3) (F_X12_guess X τ a v1 v2 v3) := by
  obtain ⟨kC, ka, S, lC, G8, G9, GM⟩ := id K
  obtain ⟨m2, s2, t2⟩ := mv_beg S.1 ka (rfl : m_c X τ a = m_c X τ a)
  have pp := an_p K A M m2 v1
  have kk := an_k K A M m2 v2
  have e0 : (0 : Int64).toInt = 0 := rfl
  have e4 : (4 : Int64).toInt = 4 := rfl
  have i3 : (F_X12_isIn X (q_si (q_si τ a 1 0) a 0 0) v3.toInt64 (0 : Int64) (4 : Int64)).toInt = if 0 ≤ v3.toInt ∧ v3.toInt ≤ 4 then 1 else 0 := lk_in (X := X) v3 e0 e4
  unfold F_X11_guess F_X12_guess
  rw [q_letE (F_X11_isPlayer X σ C v1), pp.1, q_letE (q_si τ a 1 0), q_letE (q_si (q_si τ a 1 0) a 0 0), q_letE (F_X12_isPlayerAt X (q_si (q_si τ a 1 0) a 0 0) a v1), pp.2]
  by_cases q : 0 ≤ v1.toInt ∧ v1.toInt < m_c X τ a 2
  · rw [if_pos q, if_neg (by decide : ¬ (1 : Int) = 0), if_neg (by decide : ¬ (1 : Int) = 0), q_letE (F_X11_isKind X σ C v2), kk.1, q_letE (F_X12_isKindAt X (q_si (q_si τ a 1 0) a 0 0) a v2), kk.2]
    by_cases q2 : 0 ≤ v2.toInt ∧ v2.toInt < m_c X τ a 0
    · rw [if_pos q2, if_neg (by decide : ¬ (1 : Int) = 0), if_neg (by decide : ¬ (1 : Int) = 0), q_letE v3.toInt64, q_letE (F_X12_isIn X (q_si (q_si τ a 1 0) a 0 0) v3.toInt64 (0 : Int64) (4 : Int64)), i3]
      by_cases a1 : v3.toInt < 0
      · rw [if_pos a1, if_neg (by omega : ¬ (0 ≤ v3.toInt ∧ v3.toInt ≤ 4)), if_pos rfl]
        exact ob_no K A M 5
      · rw [if_neg a1]
        by_cases a2 : 4 < v3.toInt
        · rw [if_pos a2, if_neg (by omega : ¬ (0 ≤ v3.toInt ∧ v3.toInt ≤ 4)), if_pos rfl]
          exact ob_no K A M 5
        · rw [if_neg a2, if_pos (⟨by omega, by omega⟩ : 0 ≤ v3.toInt ∧ v3.toInt ≤ 4), if_neg (by decide : ¬ (1 : Int) = 0)]
          have al := an_all K A M m2 (v := v1) rfl q
          rw [q_letE (F_X0_allUnknownTo X σ (q_rf X C 8) v1), al.1, q_letE (F_X12_unknownAll X (q_si (q_si τ a 1 0) a 0 0) a v1), al.2]
          by_cases a3 : m_V (m_c X τ a) v1.toInt (m_c X τ a 0).toNat < v3.toInt
          · rw [if_pos a3, if_pos a3]
            exact ob_no K A M 9
          · rw [if_neg a3, if_neg a3, q_letE, q_letE, q_letE, q_letE, q_letE, q_letE, q_letE]
            exact an_tell K A M _ _ _ _
    · rw [if_neg q2, if_pos rfl, if_pos rfl]
      exact ob_no K A M 2
  · rw [if_neg q, if_pos rfl, if_pos rfl]
    exact ob_no K A M 2
/-- sorts -/
theorem an_sortsL (K : al_C X lb C a) (A : al_R X C a σ τ) (M : m_M (m_c X τ a) (τ.1 a 24).toInt n) (v : Int32) (fu : Nat) : ∀ x y : Int32, (2147483647 - y.toInt).toNat < fu → 0 ≤ y.toInt → ob_O X C a (F_X11_sorts_L19_1 X σ C v fu x y) (F_X12_sorts_L32_1 X (q_si (q_si τ a 1 0) a 0 0) a v fu x y) := by
  obtain ⟨kC, ka, S, lC, G8, G9, GM⟩ := id K
  obtain ⟨m2, s2, t2⟩ := mv_beg S.1 ka (rfl : m_c X τ a = m_c X τ a)
  have w : y_W X lb (q_rf X C 8) 1 σ σ (y_v X (q_rf X C 8) σ) := y_W.rf
  have b9 := M.1.1.1.2.2.2.2.2.2.1
  have f0 : (σ.1 (q_rf X (q_rf X C 8) 2) 0).toInt = m_c X τ a 9 := (w.rd (id := 2) (by decide) 0 rfl).trans A.1.1.2.2.2.2.1.1
  have g9 : ((q_si (q_si τ a 1 0) a 0 0).1 (q_rf X a 20) (9 : Int32).toNatClampNeg).toInt = m_c X τ a 9 := gm_cell (A := 9) m2 rfl
  have gd := fun {z z' : Int32} (h : z.toInt = z'.toInt) => ob_good K A M h
  obtain ⟨τ2, e2⟩ : ∃ t, t = q_si (q_si τ a 1 0) a 0 0 := ⟨_, rfl⟩
  rw [← e2] at m2 g9 gd ⊢
  induction fu with
  | zero => intro x y h; exact absurd h (Nat.not_lt_zero _)
  | succ fu ih =>
    intro x y hf y0
    rw [F_X11_sorts_L19_1_s, F_X12_sorts_L32_1_s]
    unfold F_X11_sorts_B19_1 F_X12_sorts_B32_1
    rw [q_letE (σ.1 (q_rf X (q_rf X C 8) 2) 0), f0, q_letE (τ2.1 (q_rf X a 20) (9 : Int32).toNatClampNeg), g9]
    by_cases q : y.toInt < m_c X τ a 9
    · have e1 : (y + 1).toInt = y.toInt + 1 := y_inc (by omega)
      have so := (rg.sort (X := X) S G8 w A.1.1 M.1.1 m2 (v1 := y) (v1' := y) rfl rfl ⟨y0, q⟩).1
      rw [if_pos q, if_pos q, q_letE (F_X2_truth X σ (q_rf X (q_rf X C 8) 2) y), so, q_letE (F_X12_sortOf X τ2 a y)]
      by_cases q1 : (F_X12_sortOf X τ2 a y).toInt = v.toInt
      · rw [if_pos q1, if_pos q1, q_letE (x + 1), q_letE (y + 1), q_letE (x + 1), q_letE (y + 1)]
        exact ih _ _ (by omega) (by omega)
      · rw [if_neg q1, if_neg q1, q_letE (y + 1), q_letE (x + 0), q_letE (y + 1), Int32.add_zero]
        exact ih _ _ (by omega) (by omega)
    · rw [if_neg q, if_neg q]
      unfold F_X11_sorts_E57_2
      exact gd rfl
theorem ob_sorts (K : al_C X lb C a) (A : al_R X C a σ τ) (M : m_M (m_c X τ a) (τ.1 a 24).toInt n) (v : Int32) : ob_O X C a (F_X11_sorts X σ C v) (F_X12_sorts X τ a v) := by
  have e0 : (0 : Int64).toInt = 0 := rfl
  have e2 : (2 : Int64).toInt = 2 := rfl
  have i3 : (F_X12_isIn X (q_si (q_si τ a 1 0) a 0 0) v.toInt64 (0 : Int64) (2 : Int64)).toInt = if 0 ≤ v.toInt ∧ v.toInt ≤ 2 then 1 else 0 := lk_in (X := X) v e0 e2
  unfold F_X11_sorts F_X12_sorts
  rw [q_letE (q_si τ a 1 0), q_letE (q_si (q_si τ a 1 0) a 0 0), q_letE v.toInt64, q_letE (F_X12_isIn X (q_si (q_si τ a 1 0) a 0 0) v.toInt64 (0 : Int64) (2 : Int64)), i3]
  by_cases a1 : v.toInt < 0
  · rw [if_pos a1, if_neg (by omega : ¬ (0 ≤ v.toInt ∧ v.toInt ≤ 2)), if_pos rfl]
    exact ob_none K A M 5
  · rw [if_neg a1]
    by_cases a2 : 2 < v.toInt
    · rw [if_pos a2, if_neg (by omega : ¬ (0 ≤ v.toInt ∧ v.toInt ≤ 2)), if_pos rfl]
      exact ob_none K A M 5
    · rw [if_neg a2, if_pos (⟨by omega, by omega⟩ : 0 ≤ v.toInt ∧ v.toInt ≤ 2), if_neg (by decide : ¬ (1 : Int) = 0)]
      exact an_sortsL K A M v _ 0 0 (Nat.lt_succ_self _) (by decide)
/-- quartet -/
theorem an_quartetL (K : al_C X lb C a) (A : al_R X C a σ τ) (M : m_M (m_c X τ a) (τ.1 a 24).toInt n) {v : Int32} (hv : 0 ≤ v.toInt ∧ v.toInt < m_c X τ a 2) (fu : Nat) : ∀ y : Int32, (2147483647 - y.toInt).toNat < fu → 0 ≤ y.toInt → ob_O X C a (F_X11_quartet_L16_1 X σ C v fu y) (F_X12_quartet_L26_1 X (q_si (q_si τ a 1 0) a 0 0) a v fu y) := by
  obtain ⟨kC, ka, S, lC, G8, G9, GM⟩ := id K
  obtain ⟨m2, s2, t2⟩ := mv_beg S.1 ka (rfl : m_c X τ a = m_c X τ a)
  have w : y_W X lb (q_rf X C 8) 1 σ σ (y_v X (q_rf X C 8) σ) := y_W.rf
  have h0 := M.1.1.1.1
  have h2 := M.1.1.1.2.1
  have n4 : ((y_gn 4 : Nat) : Int) = 10 := rfl
  have f0 : (σ.1 (q_rf X (q_rf X C 8) 0) 0).toInt = m_c X τ a 0 := (w.rd (id := 1) (by decide) 0 rfl).trans A.1.1.1.1
  have g0 : ((q_si (q_si τ a 1 0) a 0 0).1 (q_rf X a 20) (0 : Int32).toNatClampNeg).toInt = m_c X τ a 0 := gm_cell (A := 0) m2 rfl
  have gd := fun {z z' : Int32} (h : z.toInt = z'.toInt) => ob_good K A M h
  have nn := fun k => ob_none K A M k
  have ah := fun y : Int32 => fun (h0 : 0 ≤ y.toInt) (h1 : y.toInt < 10) => an_held K A M m2 (x := v) (y := y) rfl rfl ⟨hv.1, by omega⟩ ⟨h0, h1⟩
  obtain ⟨τ2, e2⟩ : ∃ t, t = q_si (q_si τ a 1 0) a 0 0 := ⟨_, rfl⟩
  rw [← e2] at m2 g0 gd nn ah ⊢
  induction fu with
  | zero => intro y h; exact absurd h (Nat.not_lt_zero _)
  | succ fu ih =>
    intro y hf y0
    rw [F_X11_quartet_L16_1_s, F_X12_quartet_L26_1_s]
    unfold F_X11_quartet_B16_1 F_X12_quartet_B26_1
    rw [q_letE (σ.1 (q_rf X (q_rf X C 8) 0) 0), f0, q_letE (τ2.1 (q_rf X a 20) (0 : Int32).toNatClampNeg), g0]
    by_cases q : y.toInt < m_c X τ a 0
    · have e1 : (y + 1).toInt = y.toInt + 1 := y_inc (by omega)
      have hh := ah y y0 (by omega)
      have dl : (F_X5_get X σ (q_rf X (q_rf X (q_rf X C 8) 0) 5) y).toInt = m_I (m_c X τ a) y.toInt := (y_getI S G8 w (id := 4) (r := q_rf X (q_rf X (q_rf X C 8) 0) 5) ⟨by decide, by decide⟩ rfl rfl y0 (by rw [n4]; omega)).trans (A.1.1.2.2.2.2.2.2 _ y0 (by omega))
      have ig := gm_inGameOf (X := X) (τ := τ2) (a := a) m2 M.1.1 (v := y) rfl ⟨y0, by omega⟩
      have hb := M.1.1.h80 (p := v.toInt) (k := y.toInt) hv.1 (by omega) y0 (by omega)
      have ib := M.1.1.I_bd y0 (by omega : y.toInt < 10)
      have ub := M.1.1.U_bd hv.1 hv.2 y0 (by omega : y.toInt < 10)
      have ud : m_U (m_c X τ a) v.toInt y.toInt = m_I (m_c X τ a) y.toInt - (m_c X τ a (34 + 10 * v.toInt + y.toInt) + m_A (m_c X τ a) v.toInt y.toInt (m_c X τ a 9).toNat) := rfl
      have ab := M.1.1.A_bd v.toInt y.toInt (m_c X τ a 9).toNat (by have := M.1.1.1.2.2.2.2.2.2.1; omega)
      rw [if_pos q, if_pos q, q_letE (F_X5_get X σ (q_rf X (q_rf X (q_rf X C 8) 0) 5) y), dl, q_letE (F_X12_handOf X τ2 a v y), hh.2]
      by_cases q1 : 0 < m_c X τ a (34 + 10 * v.toInt + y.toInt)
      · rw [if_pos (by omega : 0 < m_I (m_c X τ a) y.toInt), if_pos q1, q_letE (F_X1_heldBy X σ (q_rf X (q_rf X C 8) 1) v y), hh.1, q_letE (F_X12_handOf X τ2 a v y), hh.2, q_letE (F_X12_inGameOf X τ2 a y), ig]
        by_cases q2 : m_c X τ a (34 + 10 * v.toInt + y.toInt) = m_I (m_c X τ a) y.toInt
        · rw [if_pos q2, if_pos q2]
          unfold F_X11_quartet_E65_3
          exact gd rfl
        · rw [if_neg q2, if_neg q2, q_letE (y + 1), q_letE (y + 1)]
          exact ih _ (by omega) (by omega)
      · rw [if_neg q1, q_letE (y + 1)]
        by_cases q3 : 0 < m_I (m_c X τ a) y.toInt
        · rw [if_pos q3, q_letE (F_X1_heldBy X σ (q_rf X (q_rf X C 8) 1) v y), hh.1, if_neg (by omega : ¬ m_c X τ a (34 + 10 * v.toInt + y.toInt) = m_I (m_c X τ a) y.toInt), q_letE (y + 1)]
          exact ih _ (by omega) (by omega)
        · rw [if_neg q3, q_letE (y + 1)]
          exact ih _ (by omega) (by omega)
    · rw [if_neg q, if_neg q]
      unfold F_X11_quartet_E77_2 F_X12_quartet_E67_2
      exact nn 8
theorem ob_quartet (K : al_C X lb C a) (A : al_R X C a σ τ) (M : m_M (m_c X τ a) (τ.1 a 24).toInt n) (v : Int32) : ob_O X C a (F_X11_quartet X σ C v) (F_X12_quartet X τ a v) := by
  obtain ⟨kC, ka, S, lC, G8, G9, GM⟩ := id K
  obtain ⟨m2, s2, t2⟩ := mv_beg S.1 ka (rfl : m_c X τ a = m_c X τ a)
  have pp := an_p K A M m2 v
  unfold F_X11_quartet F_X12_quartet
  rw [q_letE (F_X11_isPlayer X σ C v), pp.1, q_letE (q_si τ a 1 0), q_letE (q_si (q_si τ a 1 0) a 0 0), q_letE (F_X12_isPlayerAt X (q_si (q_si τ a 1 0) a 0 0) a v), pp.2]
  by_cases q : 0 ≤ v.toInt ∧ v.toInt < m_c X τ a 2
  · rw [if_pos q, if_neg (by decide : ¬ (1 : Int) = 0), if_neg (by decide : ¬ (1 : Int) = 0)]
    exact an_quartetL K A M q _ 0 (Nat.lt_succ_self _) (by decide)
  · rw [if_neg q, if_pos rfl, if_pos rfl]
    exact ob_none K A M 2
/-- cards of a player -/
theorem an_cards (K : al_C X lb C a) (A : al_R X C a σ τ) (M : m_M (m_c X τ a) (τ.1 a 24).toInt n) {τ2 : ST} (m2 : m_c X τ2 a = m_c X τ a) {v : Int32} (hv : 0 ≤ v.toInt ∧ v.toInt < 6) : (F_X5_get X σ (q_rf X (q_rf X (q_rf X C 8) 1) 2) v).toInt = m_S (m_c X τ a) (34 + 10 * v.toInt) 10 ∧ (F_X12_cardsOf X τ2 a v).toInt = m_S (m_c X τ a) (34 + 10 * v.toInt) 10 ∧ 0 ≤ m_S (m_c X τ a) (34 + 10 * v.toInt) 10 := by
  obtain ⟨kC, ka, S, lC, G8, G9, GM⟩ := id K
  have w : y_W X lb (q_rf X C 8) 1 σ σ (y_v X (q_rf X C 8) σ) := y_W.rf
  have n9 : ((y_gn 9 : Nat) : Int) = 6 := rfl
  exact ⟨(y_getI S G8 w (id := 9) (r := q_rf X (q_rf X (q_rf X C 8) 1) 2) ⟨by decide, by decide⟩ rfl rfl hv.1 (by rw [n9]; exact hv.2)).trans (A.1.1.2.2.2.1.2 _ hv.1 hv.2), gm_cardsOf m2 M.1.1 rfl hv, (M.1.1.S80 hv.1 hv.2 (k := 10) (by decide) (by decide)).1⟩
/-- fullest -/
theorem an_fullestL (K : al_C X lb C a) (A : al_R X C a σ τ) (M : m_M (m_c X τ a) (τ.1 a 24).toInt n) (fu : Nat) : ∀ x m y : Int32, (2147483647 - y.toInt).toNat < fu → 0 ≤ y.toInt → ((x.toInt = -1 ∧ m.toInt = -1) ∨ ((0 ≤ x.toInt ∧ x.toInt < m_c X τ a 2) ∧ m.toInt = m_S (m_c X τ a) (34 + 10 * x.toInt) 10)) → ob_O X C a (F_X11_fullest_L6_1 X σ C fu x m y) (F_X12_fullest_L14_1 X (q_si (q_si τ a 1 0) a 0 0) a fu x y) := by
  obtain ⟨kC, ka, S, lC, G8, G9, GM⟩ := id K
  obtain ⟨m2, s2, t2⟩ := mv_beg S.1 ka (rfl : m_c X τ a = m_c X τ a)
  have w : y_W X lb (q_rf X C 8) 1 σ σ (y_v X (q_rf X C 8) σ) := y_W.rf
  have h2 := M.1.1.1.2.1
  have f4 : (σ.1 (q_rf X (q_rf X C 8) 0) 4).toInt = m_c X τ a 2 := (w.rd (id := 1) (by decide) 4 rfl).trans A.1.1.1.2.2.2.2.1
  have g2 : ((q_si (q_si τ a 1 0) a 0 0).1 (q_rf X a 20) (2 : Int32).toNatClampNeg).toInt = m_c X τ a 2 := gm_cell (A := 2) m2 rfl
  have gg := fun {z z' : Int32} (h : z.toInt = z'.toInt) (hz : -1 ≤ z.toInt) => ob_gn K A M h hz
  have cc := fun {y : Int32} (h : 0 ≤ y.toInt ∧ y.toInt < 6) => an_cards K A M m2 (v := y) h
  obtain ⟨τ2, e2⟩ : ∃ t, t = q_si (q_si τ a 1 0) a 0 0 := ⟨_, rfl⟩
  rw [← e2] at m2 g2 gg cc ⊢
  induction fu with
  | zero => intro x m y h; exact absurd h (Nat.not_lt_zero _)
  | succ fu ih =>
    intro x m y hf y0 inv
    rw [F_X11_fullest_L6_1_s, F_X12_fullest_L14_1_s]
    unfold F_X11_fullest_B6_1 F_X12_fullest_B14_1
    rw [q_letE (σ.1 (q_rf X (q_rf X C 8) 0) 4), f4, q_letE (τ2.1 (q_rf X a 20) (2 : Int32).toNatClampNeg), g2]
    by_cases q : y.toInt < m_c X τ a 2
    · have e1 : (y + 1).toInt = y.toInt + 1 := y_inc (by omega)
      obtain ⟨c1, c2, c3⟩ := cc (y := y) ⟨y0, by omega⟩
      rw [if_pos q, if_pos q, q_letE (F_X5_get X σ (q_rf X (q_rf X (q_rf X C 8) 1) 2) y), c1]
      rcases inv with ⟨i1, i2⟩ | ⟨i1, i2⟩
      · rw [if_pos (by omega : m.toInt < m_S (m_c X τ a) (34 + 10 * y.toInt) 10), if_pos (by omega : x.toInt < 0), q_letE (F_X5_get X σ (q_rf X (q_rf X (q_rf X C 8) 1) 2) y), q_letE (y + 1), q_letE (y + 1)]
        exact ih _ _ _ (by omega) (by omega) (Or.inr ⟨⟨y0, q⟩, c1⟩)
      · obtain ⟨d1, d2, d3⟩ := cc (y := x) ⟨i1.1, by omega⟩
        rw [if_neg (by omega : ¬ x.toInt < 0), q_letE (F_X12_cardsOf X τ2 a y), q_letE (F_X12_cardsOf X τ2 a x), c2, d2, i2]
        by_cases q1 : m_S (m_c X τ a) (34 + 10 * x.toInt) 10 < m_S (m_c X τ a) (34 + 10 * y.toInt) 10
        · rw [if_pos q1, if_pos q1, q_letE (F_X5_get X σ (q_rf X (q_rf X (q_rf X C 8) 1) 2) y), q_letE (y + 1), q_letE (y + 1)]
          exact ih _ _ _ (by omega) (by omega) (Or.inr ⟨⟨y0, q⟩, c1⟩)
        · rw [if_neg q1, if_neg q1, q_letE (y + 1), q_letE (y + 1)]
          exact ih _ _ _ (by omega) (by omega) (Or.inr ⟨i1, i2⟩)
    · rw [if_neg q, if_neg q]
      unfold F_X11_fullest_E61_2 F_X12_fullest_E49_2
      exact gg rfl (by omega)
theorem ob_fullest (K : al_C X lb C a) (A : al_R X C a σ τ) (M : m_M (m_c X τ a) (τ.1 a 24).toInt n) : ob_O X C a (F_X11_fullest X σ C) (F_X12_fullest X τ a) := by
  unfold F_X11_fullest F_X12_fullest
  rw [q_letE (q_si τ a 1 0), q_letE (q_si (q_si τ a 1 0) a 0 0)]
  exact an_fullestL K A M _ (-1) (-1) 0 (Nat.lt_succ_self _) (by decide) (Or.inl ⟨rfl, rfl⟩)
end QB
