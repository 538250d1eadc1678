/-! FROM 49n.movers.lean.txt -/
/-! LEAVE, DOUBT, BEND CALLED -/
theorem rg.bend {V V' : Nat → Int → Int} {c c' : Int → Int} (R : rg V c) (hV : ∀ (id : Nat) (i : Int), id ≠ 10 → id ≠ 11 → V' id i = V id i) (hc : ∀ j : Int, j < 10 ∨ 22 ≤ j → c' j = c j) (hp : ∀ p : Int, 0 ≤ p → p < 6 → V' 10 p = c' (10 + p) ∧ V' 11 p = c' (16 + p)) : rg V' c' := by
  obtain ⟨⟨t1, t2, t3, t4, t5, t6⟩, ⟨s1, s2, s3, s4⟩, hpp, ⟨h1, h2⟩, ⟨l1, l2, l3⟩, ⟨a1, a2⟩⟩ := R
  obtain ⟨lS, lL, lK, lA, lP⟩ := gm_low (c := c) (c' := c') (fun j hj => hc j (by omega))
  have e9 : c' 9 = c 9 := hc 9 (by decide)
  have e2 : c' 2 = c 2 := hc 2 (by decide)
  have u : ∀ (id : Nat) (i : Int), (id < 10 ∨ 11 < id) → V' id i = V id i := fun id i h => hV id i (by omega) (by omega)
  refine ⟨⟨?_, ?_, ?_, ?_, ?_, ?_⟩, ⟨?_, ?_, ?_, ?_⟩, fun p p0 p1 => ⟨(hp p p0 p1).1, (hp p p0 p1).2, ?_, ?_⟩, ⟨fun j j0 j1 => ?_, fun p p0 p1 => ?_⟩, ⟨?_, ?_, fun k k0 k1 => ?_⟩, ⟨fun p k p0 p1 k0 k1 => ?_, fun k k0 k1 => ?_⟩⟩
  · rw [u 1 0 (by decide), hc 0 (by decide)]; exact t1
  · rw [u 1 1 (by decide), hc 1 (by decide)]; exact t2
  · rw [u 1 2 (by decide), hc 3 (by decide)]; exact t3
  · rw [u 1 3 (by decide), hc 4 (by decide)]; exact t4
  · rw [u 1 4 (by decide), e2]; exact t5
  · rw [hc 3 (by decide)]; exact t6
  · rw [u 0 4 (by decide), hc 5 (by decide)]; exact s1
  · rw [u 0 5 (by decide), e2, hc 6 (by decide)]; exact s2
  · rw [u 0 6 (by decide), hc 8 (by decide)]; exact s3
  · rw [u 0 7 (by decide), hc 7 (by decide)]; exact s4
  · rw [u 12 p (by decide), hc _ (by omega)]; exact (hpp p p0 p1).2.2.1
  · rw [u 13 p (by decide), hc _ (by omega)]; exact (hpp p p0 p1).2.2.2
  · rw [u 7 j (by decide), hc _ (by omega)]; exact h1 j j0 j1
  · rw [u 9 p (by decide), lS _ _ (by omega)]; exact h2 p p0 p1
  · rw [u 2 0 (by decide), e9]; exact l1
  · rw [u 2 1 (by decide), e9, lL]; exact l2
  · rw [e9] at k1
    obtain ⟨y1, y2, y3, y5, y4⟩ := l3 k k0 k1
    rw [u 14 k (by decide), u 15 k (by decide), u 16 k (by decide), hc (94 + 7 * k) (by omega), hc (94 + 7 * k + 1) (by omega), hc (94 + 7 * k + 2) (by omega)]
    refine ⟨y1, y2, y3, y5, fun i i0 i1 => ?_⟩
    rw [u 17 _ (by decide), hc _ (by omega)]
    exact y4 i i0 i1
  · rw [u 8 _ (by decide), e9, lA]; exact a1 p k p0 p1 k0 k1
  · rw [u 4 k (by decide)]
    unfold m_I
    rw [e9, e2, lA, lP _ _ k0]
    exact a2 k k0 k1
section GN
variable {X : XW} {lb : Nat → Nat} {C a : Nat} {σ τ σ1 τ1 : ST} {V V1 : Nat → Int → Int} {c c1 l : Int → Int}
/-- the reference's call begins -/
theorem mv_beg (hT : q_T X) (ha : q_kd X a = 12) (hc : m_c X τ a = c) : m_c X (q_si (q_si τ a 1 0) a 0 0) a = c ∧ (q_si (q_si τ a 1 0) a 0 0).1 a 0 = 0 ∧ tkl (mv_S X a) (fun _ _ => False) τ (q_si (q_si τ a 1 0) a 0 0) := by
  refine ⟨?_, si_eq _ _ _ _, (tkl.rf.si _ (Or.inr (Or.inl ⟨rfl, Or.inr rfl⟩))).si _ (Or.inr (Or.inl ⟨rfl, Or.inl rfl⟩))⟩
  rw [mv_cell hT ha 0 0, mv_cell hT ha 1 0, hc]
theorem mv_leave (Y : y_S X lb) (G : y_G X lb (q_rf X C 8) 1) (hC : lb C / 8192 = 0) (ha : q_kd X a = 12) (R : rg (y_v X (q_rf X C 8) σ) c) (hG : m_G c) (hc : m_c X τ a = c) :
    ∃ (z : Int32) (σ' : ST) (z' : Int32) (τ' : ST), F_X11_leave X σ C = (z, σ') ∧ F_X12_leave X τ a = (z', τ') ∧ z.toInt = z'.toInt ∧ (σ'.1 C 0).toInt = (τ'.1 a 0).toInt ∧ mv_R X lb C a σ σ' τ τ' (y_v X (q_rf X C 8) σ) c := by
  obtain ⟨V, hV⟩ : ∃ V, V = y_v X (q_rf X C 8) σ := ⟨_, rfl⟩
  have w : y_W X lb (q_rf X C 8) 1 σ σ V := by
    rw [hV]; exact y_W.rf
  rw [← hV] at R ⊢
  obtain ⟨b0, b2, b4, b5, b6, b7, b9, b79⟩ := hG.1
  obtain ⟨m2, s2, k2⟩ := mv_beg Y.1 ha hc
  have f1 : (σ.1 (q_rf X C 8) 7).toInt = c 7 := (w.rd (id := 0) (by decide) 7 rfl).trans R.2.1.2.2.2
  unfold F_X11_leave F_X12_leave
  rw [q_letE (σ.1 (q_rf X C 8) 7), f1, q_letE (q_si τ a 1 0), q_letE (q_si (q_si τ a 1 0) a 0 0)]
  obtain ⟨τ2, e2⟩ : ∃ t, t = q_si (q_si τ a 1 0) a 0 0 := ⟨_, rfl⟩
  rw [← e2] at m2 s2 k2 ⊢
  have g7 : (τ2.1 (q_rf X a 20) (7 : Int32).toNatClampNeg).toInt = c 7 := gm_cell (A := 7) m2 rfl
  rw [q_letE (τ2.1 (q_rf X a 20) (7 : Int32).toNatClampNeg), g7]
  by_cases q : c 7 = 0
  · rw [if_pos q, if_pos q, mv_none, mv_refuse]
    exact ⟨-1, _, -1, _, rfl, rfl, rfl, by rw [si_eq, si_eq], mv_mk Y G hC w R (fun _ _ _ => rfl) (fun _ _ _ => rfl) 8 ((mv_cell Y.1 ha 0 8).trans m2) (k2.si _ (Or.inr (Or.inl ⟨rfl, Or.inl rfl⟩)))⟩
  · rw [if_neg q, if_neg q]
    obtain ⟨V', c', w3, m3, t3, R3, hV', hc', -⟩ := gm_letLie Y G ha w R hG m2 (by omega)
    rw [q_letE (F_X0_letLie X σ (q_rf X C 8)), q_letE (F_X12_leaves X τ2 a)]
    obtain ⟨σ3, e3⟩ : ∃ t, t = F_X0_letLie X σ (q_rf X C 8) := ⟨_, rfl⟩
    obtain ⟨τ3, u3⟩ : ∃ t, t = F_X12_leaves X τ2 a := ⟨_, rfl⟩
    rw [← e3] at w3 ⊢
    rw [← u3] at m3 t3 ⊢
    rw [q_letE (σ3.1 (q_rf X C 8) 5), q_letE (τ3.1 (q_rf X a 20) (6 : Int32).toNatClampNeg), mv_good]
    have na0 : a ≠ q_rf X a 20 := Ne.symm (m_ne (tb_k Y.1 ha).1 ha (by decide))
    refine ⟨_, _, _, τ3, rfl, rfl, ?_, ?_, mv_mk Y G hC w3 R3 (fun id i h => hV' id i (by omega)) (fun j j0 h => hc' j (by omega) (by omega) (by omega) (by omega)) 0 m3 (k2.tr (t3.mono (fun b f z => Or.inl z) (fun _ _ z => z)))⟩
    · have z5 := R3.2.1.2.1
      rw [if_neg (by rw [hc' 2 (by decide) (by decide) (by decide) (by decide)]; omega)] at z5
      have f5 : (σ3.1 (q_rf X C 8) 5).toInt = V' 0 5 := w3.rd (id := 0) (by decide) 5 rfl
      exact f5.trans (z5.trans (gm_cell (A := 6) m3 rfl).symm)
    · rw [si_eq, t3.1 a 0 na0, s2]
theorem mv_doubt (Y : y_S X lb) (G : y_G X lb (q_rf X C 8) 1) (hC : lb C / 8192 = 0) (ha : q_kd X a = 12) (R : rg (y_v X (q_rf X C 8) σ) c) (hG : m_G c) (hW : ∀ q : Int, 0 ≤ q → q < 6 → (0 ≤ c (22 + q) ∧ c (22 + q) ≤ 1000000) ∧ 0 ≤ c (28 + q) ∧ c (28 + q) ≤ 1000000) (hc : m_c X τ a = c) (v : Int32) :
    ∃ (z : Int32) (σ' : ST) (z' : Int32) (τ' : ST), F_X11_doubt X σ C v = (z, σ') ∧ F_X12_doubt X τ a v = (z', τ') ∧ z.toInt = z'.toInt ∧ (σ'.1 C 0).toInt = (τ'.1 a 0).toInt ∧ mv_R X lb C a σ σ' τ τ' (y_v X (q_rf X C 8) σ) c := by
  obtain ⟨V, hV⟩ : ∃ V, V = y_v X (q_rf X C 8) σ := ⟨_, rfl⟩
  have w : y_W X lb (q_rf X C 8) 1 σ σ V := by
    rw [hV]; exact y_W.rf
  rw [← hV] at R ⊢
  obtain ⟨b0, b2, b4, b5, b6, b7, b9, b79⟩ := hG.1
  obtain ⟨m2, s2, k2⟩ := mv_beg Y.1 ha hc
  have f7 : (σ.1 (q_rf X C 8) 7).toInt = c 7 := (w.rd (id := 0) (by decide) 7 rfl).trans R.2.1.2.2.2
  have f5 : (σ.1 (q_rf X C 8) 5).toInt = V 0 5 := w.rd (id := 0) (by decide) 5 rfl
  have pc := lk_player w v
  rw [R.1.2.2.2.2.1] at pc
  unfold F_X11_doubt F_X11_doubterStatus F_X12_doubt
  rw [q_letE (F_X11_isPlayer X σ C v), pc, q_letE (q_si τ a 1 0), q_letE (q_si (q_si τ a 1 0) a 0 0)]
  obtain ⟨τ2, e2⟩ : ∃ t, t = q_si (q_si τ a 1 0) a 0 0 := ⟨_, rfl⟩
  rw [← e2] at m2 s2 k2 ⊢
  have pm := lk_playerAt m2 b2 v
  have g7 : (τ2.1 (q_rf X a 20) (7 : Int32).toNatClampNeg).toInt = c 7 := gm_cell (A := 7) m2 rfl
  have g6 : (τ2.1 (q_rf X a 20) (6 : Int32).toNatClampNeg).toInt = c 6 := gm_cell (A := 6) m2 rfl
  rw [q_letE (F_X12_isPlayerAt X τ2 a v), pm]
  have ref : ∀ k : Int32, mv_R X lb C a σ (q_si σ C 0 k) τ (q_si τ2 a 0 k) V c := fun k => mv_mk Y G hC w R (fun _ _ _ => rfl) (fun _ _ _ => rfl) k ((mv_cell Y.1 ha 0 k).trans m2) (k2.si _ (Or.inr (Or.inl ⟨rfl, Or.inl rfl⟩)))
  by_cases q : ¬ (0 ≤ v.toInt ∧ v.toInt < c 2)
  · rw [if_neg q, if_pos rfl, if_pos rfl, q_letE (2 : Int32), if_neg (by decide : ¬ (2 : Int32).toInt = 0), mv_none, mv_refuse]
    exact ⟨-1, _, -1, _, rfl, rfl, rfl, by rw [si_eq, si_eq], ref 2⟩
  have q' := Classical.not_not.mp q
  rw [if_pos q', if_neg (by decide : ¬ (1 : Int) = 0), if_neg (by decide : ¬ (1 : Int) = 0), q_letE (σ.1 (q_rf X C 8) 7), f7, q_letE (τ2.1 (q_rf X a 20) (7 : Int32).toNatClampNeg), g7]
  by_cases q7 : c 7 = 0
  · rw [if_pos q7, if_pos q7, q_letE (8 : Int32), if_neg (by decide : ¬ (8 : Int32).toInt = 0), mv_none, mv_refuse]
    exact ⟨-1, _, -1, _, rfl, rfl, rfl, by rw [si_eq, si_eq], ref 8⟩
  have v5 : V 0 5 = c 6 := by
    have z := R.2.1.2.1
    rw [if_neg (by omega)] at z
    exact z
  rw [if_neg q7, if_neg q7, q_letE (σ.1 (q_rf X C 8) 5), f5, v5, q_letE (τ2.1 (q_rf X a 20) (6 : Int32).toNatClampNeg), g6]
  by_cases q6 : v.toInt = c 6
  · rw [if_pos q6, if_pos q6.symm, q_letE (5 : Int32), if_neg (by decide : ¬ (5 : Int32).toInt = 0), mv_none, mv_refuse]
    exact ⟨-1, _, -1, _, rfl, rfl, rfl, by rw [si_eq, si_eq], ref 5⟩
  rw [if_neg q6, if_neg (fun z => q6 z.symm), q_letE (0 : Int32), if_pos (by decide : (0 : Int32).toInt = 0)]
  obtain ⟨z, z', σ', τ', V', c', t, P, kd, tn, W, u, x1, x2, x3, x4, x5, x6, x7, x8, x9, x10, x11, x12, x13, x14⟩ := gm_doubt2 Y G w R m2 hG (by omega) hW (v := v) (v' := v) rfl rfl q'
  rw [x1, q_biP z σ', mv_good, q_biP z, x2, q_biP z' τ']
  have na0 : a ≠ q_rf X a 20 := Ne.symm (m_ne (tb_k Y.1 ha).1 ha (by decide))
  refine ⟨z, _, z', τ', rfl, rfl, by rw [x3, x4], ?_, mv_mk Y G hC x6 x9 (fun id i h => x11.1 id i (by omega) (by omega) (by omega) (by omega) (by omega) (by omega) (by omega)) (fun j j0 h => x12.1 j j0 (by omega) (by omega) (by omega) (by omega) (by omega) (by omega) (by omega) (by omega)) 0 x7 (k2.tr (x8.mono (fun b f z => Or.inl z) (fun _ _ z => z)))⟩
  rw [si_eq, x8.1 a 0 na0, s2]
theorem mv_bend (Y : y_S X lb) (G : y_G X lb (q_rf X C 8) 1) (hC : lb C / 8192 = 0) (ha : q_kd X a = 12) (R : rg (y_v X (q_rf X C 8) σ) c) (hG : m_G c) (hc : m_c X τ a = c) (v x y : Int32) :
    ∃ (z : Int32) (σ' : ST) (z' : Int32) (τ' : ST), F_X11_bend X σ C v x y = (z, σ') ∧ F_X12_bend X τ a v x y = (z', τ') ∧ z.toInt = z'.toInt ∧ (σ'.1 C 0).toInt = (τ'.1 a 0).toInt ∧ mv_R X lb C a σ σ' τ τ' (y_v X (q_rf X C 8) σ) c := by
  obtain ⟨V, hV⟩ : ∃ V, V = y_v X (q_rf X C 8) σ := ⟨_, rfl⟩
  have w : y_W X lb (q_rf X C 8) 1 σ σ V := by
    rw [hV]; exact y_W.rf
  rw [← hV] at R ⊢
  obtain ⟨b0, b2, b4, b5, b6, b7, b9, b79⟩ := hG.1
  obtain ⟨m2, s2, k2⟩ := mv_beg Y.1 ha hc
  have pc := lk_player w v
  rw [R.1.2.2.2.2.1] at pc
  unfold F_X11_bend F_X12_bend
  rw [q_letE (F_X11_isPlayer X σ C v), pc, q_letE (q_si τ a 1 0), q_letE (q_si (q_si τ a 1 0) a 0 0)]
  obtain ⟨τ2, e2⟩ : ∃ t, t = q_si (q_si τ a 1 0) a 0 0 := ⟨_, rfl⟩
  rw [← e2] at m2 s2 k2 ⊢
  have pm := lk_playerAt m2 b2 v
  rw [q_letE (F_X12_isPlayerAt X τ2 a v), pm]
  have ref : ∀ k : Int32, mv_R X lb C a σ (q_si σ C 0 k) τ (q_si τ2 a 0 k) V c := fun k => mv_mk Y G hC w R (fun _ _ _ => rfl) (fun _ _ _ => rfl) k ((mv_cell Y.1 ha 0 k).trans m2) (k2.si _ (Or.inr (Or.inl ⟨rfl, Or.inl rfl⟩)))
  by_cases q : ¬ (0 ≤ v.toInt ∧ v.toInt < c 2)
  · rw [if_neg q, if_pos rfl, if_pos rfl, mv_no, mv_noM]
    exact ⟨0, _, 0, _, rfl, rfl, rfl, by rw [si_eq, si_eq], ref 2⟩
  have q' := Classical.not_not.mp q
  rw [if_pos q', if_neg (by decide : ¬ (1 : Int) = 0), if_neg (by decide : ¬ (1 : Int) = 0), q_letE (F_X11_isSixteenths X σ x), lk_six, q_letE x.toInt64, q_letE (F_X12_isIn X τ2 x.toInt64 (0 : Int64) (16 : Int64)), lk_sixAt]
  by_cases qx : ¬ (0 ≤ x.toInt ∧ x.toInt ≤ 16)
  · rw [if_neg qx, if_pos rfl, if_pos rfl, mv_no, mv_noM]
    exact ⟨0, _, 0, _, rfl, rfl, rfl, by rw [si_eq, si_eq], ref 5⟩
  have qx' := Classical.not_not.mp qx
  rw [if_pos qx', if_neg (by decide : ¬ (1 : Int) = 0), if_neg (by decide : ¬ (1 : Int) = 0), q_letE (F_X11_isSixteenths X σ y), lk_six, q_letE y.toInt64, q_letE (F_X12_isIn X τ2 y.toInt64 (0 : Int64) (16 : Int64)), lk_sixAt]
  by_cases qy : ¬ (0 ≤ y.toInt ∧ y.toInt ≤ 16)
  · rw [if_neg qy, if_pos rfl, if_pos rfl, mv_no, mv_noM]
    exact ⟨0, _, 0, _, rfl, rfl, rfl, by rw [si_eq, si_eq], ref 5⟩
  have qy' := Classical.not_not.mp qy
  have gn10 : ((y_gn 10 : Nat) : Int) = 6 := rfl
  have gn11 : ((y_gn 11 : Nat) : Int) = 6 := rfl
  have e10 : (10 : Int32).toInt = 10 := rfl
  have e16 : (16 : Int32).toInt = 16 := rfl
  have i10 : ((10 : Int32) + v).toInt = 10 + v.toInt := by rw [ar_add, e10, ar_wr (by omega) (by omega)]
  have i16 : ((16 : Int32) + v).toInt = 16 + v.toInt := by rw [ar_add, e16, ar_wr (by omega) (by omega)]
  have w3 := w.set Y G (id := 10) (r := q_rf X (q_rf X (q_rf X C 8) 1) 3) ⟨by decide, by decide⟩ rfl v x q'.1 (by rw [gn10]; omega)
  have w4 := w3.set Y G (id := 11) (r := q_rf X (q_rf X (q_rf X C 8) 1) 4) ⟨by decide, by decide⟩ rfl v y q'.1 (by rw [gn11]; omega)
  rw [if_pos qy', if_neg (by decide : ¬ (1 : Int) = 0), if_neg (by decide : ¬ (1 : Int) = 0), q_letE (F_X5_set X σ (q_rf X (q_rf X (q_rf X C 8) 1) 3) v x), q_letE (F_X5_set X (F_X5_set X σ (q_rf X (q_rf X (q_rf X C 8) 1) 3) v x) (q_rf X (q_rf X (q_rf X C 8) 1) 4) v y), mv_yes, q_letE ((10 : Int32) + v), q_letE (q_si τ2 (q_rf X a 20) ((10 : Int32) + v).toNatClampNeg x), q_letE ((16 : Int32) + v), q_letE (q_si (q_si τ2 (q_rf X a 20) ((10 : Int32) + v).toNatClampNeg x) (q_rf X a 20) ((16 : Int32) + v).toNatClampNeg y)]
  have m4 : m_c X (q_si (q_si τ2 (q_rf X a 20) ((10 : Int32) + v).toNatClampNeg x) (q_rf X a 20) ((16 : Int32) + v).toNatClampNeg y) a = m_up (m_up c (10 + v.toInt) x.toInt) (16 + v.toInt) y.toInt := by
    rw [m_c_up _ (by omega) i16, m_c_up _ (by omega) i10, m2]
  have na0 : a ≠ q_rf X a 20 := Ne.symm (m_ne (tb_k Y.1 ha).1 ha (by decide))
  have R4 : rg (y_up (y_up V 10 v.toInt x.toInt) 11 v.toInt y.toInt) (m_up (m_up c (10 + v.toInt) x.toInt) (16 + v.toInt) y.toInt) := by
    refine R.bend (fun id i h1 h2 => by rw [y_up_ne (Or.inl h2), y_up_ne (Or.inl h1)]) (fun j h => by rw [m_up_ne (by omega), m_up_ne (by omega)]) (fun p p0 p1 => ⟨?_, ?_⟩)
    · rw [y_up_ne (Or.inl (by decide)), m_up_ne (by omega)]
      by_cases e : p = v.toInt
      · rw [e, y_up_eq, m_up_eq]
      · rw [y_up_ne (Or.inr e), m_up_ne (by omega)]; exact (R.2.2.1 p p0 p1).1
    · by_cases e : p = v.toInt
      · rw [e, y_up_eq, m_up_eq]
      · rw [y_up_ne (Or.inr e), y_up_ne (Or.inl (by decide)), m_up_ne (by omega), m_up_ne (by omega)]; exact (R.2.2.1 p p0 p1).2.1
  refine ⟨1, _, 1, _, rfl, rfl, rfl, ?_, mv_mk Y G hC w4 R4 (fun id i h => by rw [y_up_ne (by omega), y_up_ne (by omega)]) (fun j j0 h => by rw [m_up_ne (by omega), m_up_ne (by omega)]) 0 m4 ((k2.si _ (Or.inl rfl)).si _ (Or.inl rfl))⟩
  rw [si_eq, q_si_ne na0, q_si_ne na0, s2]
end GN
