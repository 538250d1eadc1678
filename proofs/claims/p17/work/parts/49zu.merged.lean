/-! FROM 49zu.wins.lean.txt -/
/-! ROUNDS TRIED: both answer the same, all stays the same -/
theorem pl_pair {α β : Type} {p q : α × β} (h1 : p.1 = q.1) (h2 : p.2 = q.2) : p = q := by
  show (p.1, p.2) = (q.1, q.2)
  rw [h1, h2]
section PJ
variable {X : XW} {lb : Nat → Nat} {a C : Nat} {σ0 σ τ0 τ : ST} {n : Int}
/-- one try: the spare game and the reference's own play the same round -/
theorem tr_step (K : al_C X lb C a) (A : al_R X C a σ0 τ0) (M : m_M (m_c X τ0 a) (τ0.1 a 24).toInt n) (hn : n ≤ 800000) (T : tr_K X lb C a σ0 σ τ0 τ (m_c X τ0 a)) (z : Int32) :
    ∃ (σ1 τ1 : ST) (V1 : Nat → Int → Int) (c1 : Int → Int), F_X7_go X (F_X0_copyFrom X σ (q_rf X C 9) (q_rf X C 8)) (q_rf X C 15) (q_rf X C 9) z = σ1 ∧ F_X12_plays X τ a z = τ1 ∧ y_v X (q_rf X C 9) σ1 = V1 ∧ m_c X τ1 a = c1 ∧ rg V1 c1 ∧ m_G c1 ∧ c1 2 = m_c X τ0 a 2 ∧ (∀ j : Int, 654 ≤ j → c1 j = m_c X τ0 a j) ∧
      (∀ b, lb b / 8192 ≠ 2 → b ≠ q_rf X C 15 → b ≠ pl_T X (q_rf X C 15) → ∀ f, σ1.1 b f = σ0.1 b f) ∧ σ1.2 = σ0.2 ∧ tkl (fun b f => pl_Sq X a b f ∨ b = q_rf X a 21) (fun _ _ => False) τ0 τ1 ∧ ∀ j : Int, 0 ≤ j → j < 654 → (τ1.1 (q_rf X a 21) j.toNat).toInt = m_c X τ0 a j := by
  obtain ⟨kC, ka, S, lC, G8, G9, GM⟩ := id K
  obtain ⟨A1, A2, A3, A4⟩ := id A
  obtain ⟨-, D⟩ := al_run K
  obtain ⟨l15, lT⟩ := al_T15 K
  obtain ⟨T1, T2, T3, T4, T5⟩ := T
  have k21 : q_kd X (q_rf X a 21) = 35 := (S.1.1 a 21 (by rw [ka]; decide)).trans (by rw [ka]; rfl)
  have k28 : q_kd X (q_rf X a 28) = 39 := (S.1.1 a 28 (by rw [ka]; decide)).trans (by rw [ka]; rfl)
  have k20 := (tb_k S.1 ka).1
  have v8 : y_v X (q_rf X C 8) σ = y_v X (q_rf X C 8) σ0 := y_v.k S G8 (fun b hb f => T1 b (by omega) (fun e => by rw [e, l15] at hb; omega) (fun e => by rw [e, lT] at hb; omega) f)
  obtain ⟨ow, o2, oV⟩ := (tb_copy (σ := σ) (g := q_rf X C 8) S G9 G8 (by decide)).cp
  obtain ⟨σ4, es⟩ : ∃ s, s = F_X0_copyFrom X σ (q_rf X C 9) (q_rf X C 8) := ⟨_, rfl⟩
  rw [← es] at ow o2 oV ⊢
  rw [v8] at oV
  have rb9 : rb (y_v X (q_rf X C 9) σ4) (m_c X τ0 a) (m_wd X τ0 a) := A1.x M.1.1 oV (fun _ _ _ => rfl) (fun _ _ _ => rfl)
  obtain ⟨h1, h2, J⟩ := pl_go S G9 D ka hn (rfl : y_v X (q_rf X C 9) σ4 = _) rb9.1 M.1.1 M.1.2 T3 rb9.2.2 z
  obtain ⟨-, -, -, -, -, V1, c1, o1, o2', o3, o4, o5, o6⟩ := J
  refine ⟨_, _, V1, c1, rfl, rfl, o1, o2', o3, o4, o6.2 2 (by decide) (Or.inl (by decide)), fun j hj => o6.2 j (by omega) (Or.inr hj), fun b b1 b2 b3 f => ?_, ?_, T4.tr (h2.mono (fun b f z => Or.inl z) (fun _ _ z => z)), fun j j0 j1 => ?_⟩
  · rw [h1.1 b f (by
      rintro (z | ⟨z, -⟩ | z)
      · exact b1 z
      · exact b2 z
      · exact b3 z), ow b b1 f, T1 b b1 b2 b3 f]
  · have e : (F_X7_go X σ4 (q_rf X C 15) (q_rf X C 9) z).2 = σ4.2 := pl_pair (funext (fun b => funext (fun f => h1.2.1 b f (fun z => z)))) h1.2.2
    rw [e, o2, T2]
  · rw [h2.1 _ _ (by
      rintro (z | z | ⟨z, -⟩)
      · exact m_ne k21 k20 (by decide) z
      · exact m_ne k21 k28 (by decide) z
      · exact m_ne k21 ka (by decide) z)]
    exact T5 j j0 j1
/-- a try taken back -/
theorem tr_next (K : al_C X lb C a) {σ1 τ1 : ST} {c1 : Int → Int} (m1 : m_c X τ1 a = c1) (c654 : ∀ j : Int, 654 ≤ j → c1 j = m_c X τ0 a j) (f1 : ∀ b, lb b / 8192 ≠ 2 → b ≠ q_rf X C 15 → b ≠ pl_T X (q_rf X C 15) → ∀ f, σ1.1 b f = σ0.1 b f) (f2 : σ1.2 = σ0.2) (f3 : tkl (fun b f => pl_Sq X a b f ∨ b = q_rf X a 21) (fun _ _ => False) τ0 τ1) (f4 : ∀ j : Int, 0 ≤ j → j < 654 → (τ1.1 (q_rf X a 21) j.toNat).toInt = m_c X τ0 a j) (L : Nat → Int32 → ST → Int32 × ST) (E : ST → Int32 × ST) (hS : ∀ k x s, L (k + 1) x s = if x.toInt < 654 then q_let (s.1 (q_rf X a 21) x.toNatClampNeg) (fun f => q_let (q_si s (q_rf X a 20) x.toNatClampNeg f) (fun s' => q_let (x + 1) (fun z => L k z s'))) else E s) :
    ∃ τ3 : ST, L ((2147483647 - (0 : Int32).toInt).toNat + 1) 0 τ1 = E τ3 ∧ tr_K X lb C a σ0 σ1 τ0 τ3 (m_c X τ0 a) := by
  obtain ⟨kC, ka, S, lC, G8, G9, GM⟩ := id K
  have k21 : q_kd X (q_rf X a 21) = 35 := (S.1.1 a 21 (by rw [ka]; decide)).trans (by rw [ka]; rfl)
  have k20 := (tb_k S.1 ka).1
  have z0 : (0 : Int32).toInt = 0 := rfl
  obtain ⟨τ3, x1, x2, x3⟩ := tr_back (τ := τ1) (c := m_c X τ0 a) S.1 ka f4 (fun j hj => by rw [m1]; exact c654 j hj) (fun j hj => m_c_neg X τ0 a hj) L E hS ((2147483647 - (0 : Int32).toInt).toNat + 1) 0 τ1 (Nat.lt_succ_self _) (by decide) (by decide) tkl.rf (fun j j0 => by rw [z0, if_neg (by omega)])
  refine ⟨τ3, x1, f1, f2, x3, f3.tr (x2.mono (fun b f z => Or.inl (Or.inl z)) (fun _ _ z => z)), fun j j0 j1 => ?_⟩
  rw [x2.1 _ _ (m_ne k21 k20 (by decide))]
  exact f4 j j0 j1
theorem tr_winsL (K : al_C X lb C a) (A : al_R X C a σ0 τ0) (M : m_M (m_c X τ0 a) (τ0.1 a 24).toInt n) (hn : n ≤ 800000) {v1 v2 v3 : Int32} (h3 : v3.toInt ≤ 20) (fu : Nat) :
    ∀ (fv : Nat) (x y : Int32) (σ τ : ST), (2147483647 - y.toInt).toNat < fu → (2147483647 - y.toInt).toNat < fv → 0 ≤ y.toInt → tr_K X lb C a σ0 σ τ0 τ (m_c X τ0 a) → ∃ (w : Int32) (σ' τ' : ST), F_X11_wins_L27_1 X v3 C v2 v1 fu x y σ = F_X11_tell X σ' C w.toInt64 v3.toInt64 ∧ F_X12_tries_L112_3 X v3 v2 a 1 v1 fv x y τ = F_X12_fraction X τ' a w.toInt64 v3.toInt64 ∧ tr_K X lb C a σ0 σ' τ0 τ' (m_c X τ0 a) := by
  obtain ⟨kC, ka, S, lC, G8, G9, GM⟩ := id K
  induction fu with
  | zero => intro fv x y σ τ h; exact absurd h (Nat.not_lt_zero _)
  | succ fu ih =>
    intro fv x y σ τ hf hfv y0 T
    obtain ⟨fv', efv⟩ : ∃ k, fv = k + 1 := ⟨fv - 1, by omega⟩
    subst efv
    rw [F_X11_wins_L27_1_s, F_X12_tries_L112_3_s]
    unfold F_X11_wins_B27_1 F_X12_tries_B112_3
    by_cases q : y.toInt < v3.toInt
    · have y1 : (y + 1).toInt = y.toInt + 1 := y_inc (by omega)
      obtain ⟨σ1, τ1, V1, c1, e1, e2, p1, p2, p3, p4, p5, p6, p7, p8, p9, p10⟩ := tr_step K A M hn T (v2 + y)
      rw [if_pos q, if_pos q, q_letE (F_X0_copyFrom X σ (q_rf X C 9) (q_rf X C 8)), q_letE (v2 + y), q_letE (F_X7_go X (F_X0_copyFrom X σ (q_rf X C 9) (q_rf X C 8)) (q_rf X C 15) (q_rf X C 9) (v2 + y)), e1, q_letE (v2 + y), q_letE (F_X12_plays X τ a (v2 + y)), e2, if_neg (by decide : ¬ (1 : Int32).toInt = 0)]
      have f18 : (σ1.1 (q_rf X C 9) 6).toInt = c1 8 := ((pl_W (lb := lb) (o := 2) p1).rd (id := 0) (by decide) 6 rfl).trans p3.2.1.2.2.1.1
      have g53 : (τ1.1 (q_rf X a 20) (8 : Int32).toNatClampNeg).toInt = c1 8 := gm_cell (A := 8) p2 rfl
      rw [q_letE (σ1.1 (q_rf X C 9) 6), f18, q_letE (τ1.1 (q_rf X a 20) (8 : Int32).toNatClampNeg), g53]
      by_cases qw : c1 8 = v1.toInt
      · obtain ⟨τ3, x1, x2⟩ := tr_next K p2 p6 p7 p8 p9 p10 (F_X12_tries_L163_9 X a y (F_X12_tries_L112_3 X v3 v2 a 1 v1 fv') (x + 1)) (F_X12_tries_E191_10 X y (F_X12_tries_L112_3 X v3 v2 a 1 v1 fv') (x + 1)) (fun k x s => by
          rw [F_X12_tries_L163_9_s]
          rfl)
        rw [if_pos qw, if_pos qw, q_letE (x + 1), q_letE (y + 1), q_letE (x + 1), x1]
        unfold F_X12_tries_E191_10
        rw [q_letE (y + 1)]
        exact ih fv' (x + 1) (y + 1) σ1 τ3 (by omega) (by omega) (by omega) x2
      · obtain ⟨τ3, x1, x2⟩ := tr_next K p2 p6 p7 p8 p9 p10 (F_X12_tries_L163_7 X a y (F_X12_tries_L112_3 X v3 v2 a 1 v1 fv') (x + 0)) (F_X12_tries_E191_8 X y (F_X12_tries_L112_3 X v3 v2 a 1 v1 fv') (x + 0)) (fun k x s => by
          rw [F_X12_tries_L163_7_s]
          rfl)
        rw [if_neg qw, if_neg qw, q_letE (y + 1), q_letE (x + 0), x1]
        unfold F_X12_tries_E191_8
        rw [q_letE (y + 1), Int32.add_zero]
        exact ih fv' x (y + 1) σ1 τ3 (by omega) (by omega) (by omega) x2
    · rw [if_neg q, if_neg q]
      unfold F_X11_wins_E79_2 F_X12_tries_E197_4
      rw [q_letE x.toInt64, q_letE v3.toInt64, ob_pe, q_letE x.toInt64, q_letE v3.toInt64, ob_pe]
      exact ⟨x, σ, τ, rfl, rfl, T⟩
theorem tr_leftL (K : al_C X lb C a) (A : al_R X C a σ0 τ0) (M : m_M (m_c X τ0 a) (τ0.1 a 24).toInt n) (hn : n ≤ 800000) {v1 v2 v3 : Int32} (h3 : v3.toInt ≤ 20) (h1 : 0 ≤ v1.toInt ∧ v1.toInt < m_c X τ0 a 2) (fu : Nat) :
    ∀ (fv : Nat) (x y : Int32) (σ τ : ST), (2147483647 - y.toInt).toNat < fu → (2147483647 - y.toInt).toNat < fv → 0 ≤ y.toInt → tr_K X lb C a σ0 σ τ0 τ (m_c X τ0 a) → ∃ (w : Int32) (σ' τ' : ST), F_X11_left_L27_1 X v3 C v2 v1 fu x y σ = F_X11_tell X σ' C w.toInt64 v3.toInt64 ∧ F_X12_tries_L112_3 X v3 v2 a 0 v1 fv x y τ = F_X12_fraction X τ' a w.toInt64 v3.toInt64 ∧ tr_K X lb C a σ0 σ' τ0 τ' (m_c X τ0 a) := by
  obtain ⟨kC, ka, S, lC, G8, G9, GM⟩ := id K
  have b2 : 0 ≤ m_c X τ0 a 2 ∧ m_c X τ0 a 2 ≤ 6 := M.1.1.1.2.1
  have n9 : ((y_gn 9 : Nat) : Int) = 6 := rfl
  induction fu with
  | zero => intro fv x y σ τ h; exact absurd h (Nat.not_lt_zero _)
  | succ fu ih =>
    intro fv x y σ τ hf hfv y0 T
    obtain ⟨fv', efv⟩ : ∃ k, fv = k + 1 := ⟨fv - 1, by omega⟩
    subst efv
    rw [F_X11_left_L27_1_s, F_X12_tries_L112_3_s]
    unfold F_X11_left_B27_1 F_X12_tries_B112_3
    by_cases q : y.toInt < v3.toInt
    · have y1 : (y + 1).toInt = y.toInt + 1 := y_inc (by omega)
      obtain ⟨σ1, τ1, V1, c1, e1, e2, p1, p2, p3, p4, p5, p6, p7, p8, p9, p10⟩ := tr_step K A M hn T (v2 + y)
      rw [if_pos q, if_pos q, q_letE (F_X0_copyFrom X σ (q_rf X C 9) (q_rf X C 8)), q_letE (v2 + y), q_letE (F_X7_go X (F_X0_copyFrom X σ (q_rf X C 9) (q_rf X C 8)) (q_rf X C 15) (q_rf X C 9) (v2 + y)), e1, q_letE (v2 + y), q_letE (F_X12_plays X τ a (v2 + y)), e2, if_pos (by decide : (0 : Int32).toInt = 0)]
      have f18 : (F_X5_get X σ1 (q_rf X (q_rf X (q_rf X C 9) 1) 2) v1).toInt = m_S c1 (34 + 10 * v1.toInt) 10 := (y_getI S G9 (pl_W (lb := lb) (o := 2) p1) (id := 9) (r := q_rf X (q_rf X (q_rf X C 9) 1) 2) ⟨by decide, by decide⟩ rfl rfl h1.1 (by rw [n9]; omega)).trans (p3.2.2.2.1.2 _ h1.1 (by omega))
      have g41 := gm_cardsOf (X := X) (a := a) (τ := τ1) p2 p4 (rfl : v1.toInt = _) ⟨h1.1, by omega⟩
      have ee : F_X5_get X σ1 (q_rf X (q_rf X (q_rf X C 9) 1) 2) v1 = F_X12_cardsOf X τ1 a v1 := Int32.toInt_inj.mp (f18.trans g41.symm)
      obtain ⟨τ3, x1, x2⟩ := tr_next K p2 p6 p7 p8 p9 p10 (F_X12_tries_L163_5 X a y (F_X12_tries_L112_3 X v3 v2 a 0 v1 fv') (x + F_X12_cardsOf X τ1 a v1)) (F_X12_tries_E191_6 X y (F_X12_tries_L112_3 X v3 v2 a 0 v1 fv') (x + F_X12_cardsOf X τ1 a v1)) (fun k x s => by
        rw [F_X12_tries_L163_5_s]
        rfl)
      rw [q_letE (F_X5_get X σ1 (q_rf X (q_rf X (q_rf X C 9) 1) 2) v1), ee, q_letE (x + F_X12_cardsOf X τ1 a v1), q_letE (y + 1), q_letE (F_X12_cardsOf X τ1 a v1), q_letE (x + F_X12_cardsOf X τ1 a v1), x1]
      unfold F_X12_tries_E191_6
      rw [q_letE (y + 1)]
      exact ih fv' _ (y + 1) σ1 τ3 (by omega) (by omega) (by omega) x2
    · rw [if_neg q, if_neg q]
      unfold F_X11_left_E84_2 F_X12_tries_E197_4
      rw [q_letE x.toInt64, q_letE v3.toInt64, ob_pe, q_letE x.toInt64, q_letE v3.toInt64, ob_pe]
      exact ⟨x, σ, τ, rfl, rfl, T⟩
/-- behind the tries all is as before -/
theorem tr_K.al (K : al_C X lb C a) (A : al_R X C a σ0 τ0) (M : m_M (m_c X τ0 a) (τ0.1 a 24).toInt n) (T : tr_K X lb C a σ0 σ τ0 τ (m_c X τ0 a)) : al_R X C a σ τ ∧ τ.1 a 0 = τ0.1 a 0 := by
  obtain ⟨kC, ka, S, lC, G8, G9, GM⟩ := id K
  obtain ⟨l15, lT⟩ := al_T15 K
  obtain ⟨T1, T2, T3, T4, T5⟩ := T
  have k21 : q_kd X (q_rf X a 21) = 35 := (S.1.1 a 21 (by rw [ka]; decide)).trans (by rw [ka]; rfl)
  obtain ⟨n80, n8a, n0a⟩ := pl_k28 S.1 ka
  have v8 : y_v X (q_rf X C 8) σ = y_v X (q_rf X C 8) σ0 := y_v.k S G8 (fun b hb f => T1 b (by omega) (fun e => by rw [e, l15] at hb; omega) (fun e => by rw [e, lT] at hb; omega) f)
  have ta : ∀ f, f < 38 → τ.1 a f = τ0.1 a f := fun f h => T4.1 a f (by
    rintro ((z | z | ⟨-, z, -⟩) | z)
    · exact n0a z.symm
    · exact n8a z.symm
    · omega
    · exact m_ne k21 ka (by decide) z.symm)
  refine ⟨A.fr K M v8 T3 A.1.1 pl_fix.rf (fun b hb f => T1 b (by omega) (fun e => by rw [e, l15] at hb; omega) (fun e => by rw [e, lT] at hb; omega) f) (T1 C (by omega) (fun e => by rw [e, l15] at lC; omega) (fun e => by rw [e, lT] at lC; omega) 11) (ta 24 (by decide)) ?_, ta 0 (by decide)⟩
  funext j
  exact congrArg Int64.toInt (T4.2.1 _ _ (fun z => z))
/-- whether seeds can be tried -/
theorem tr_status (K : al_C X lb C a) (A : al_R X C a σ τ) (M : m_M (m_c X τ a) (τ.1 a 24).toInt n) (v1 v2 v3 : Int32) : (F_X11_seedsStatus X σ C v1 v2 v3).toInt = if ¬ (0 ≤ v1.toInt ∧ v1.toInt < m_c X τ a 2) then 2 else if ¬ ((1 ≤ v3.toInt ∧ v3.toInt ≤ 20) ∧ 0 ≤ v2.toInt ∧ v2.toInt ≤ 10000 - v3.toInt) then 5 else if m_c X τ a 654 = 0 then 8 else 0 := by
  obtain ⟨A1, A2, A3, A4⟩ := A
  have w : y_W X lb (q_rf X C 8) 1 σ σ (y_v X (q_rf X C 8) σ) := y_W.rf
  have hP : y_v X (q_rf X C 8) σ 1 4 = m_c X τ a 2 := A1.1.1.2.2.2.2.1
  have p1 := lk_player w v1
  rw [hP] at p1
  have one : (1 : Int32).toInt = 1 := rfl
  have e9 : (9999 : Int32).toInt = 9999 := rfl
  have ef : (σ.1 (q_rf X (q_rf X C 8) 3) 0).toInt = m_c X τ a 654 := (w.rd (id := 3) (by decide) 0 rfl).trans A1.2.2.1
  unfold F_X11_seedsStatus
  rw [q_letE (F_X11_isPlayer X σ C v1), p1]
  by_cases q : 0 ≤ v1.toInt ∧ v1.toInt < m_c X τ a 2
  · rw [if_pos q, if_neg (by decide : ¬ (1 : Int) = 0), if_neg (not_not_intro q)]
    by_cases a1 : v2.toInt < 0
    · rw [if_pos a1, if_pos (by omega : ¬ ((1 ≤ v3.toInt ∧ v3.toInt ≤ 20) ∧ 0 ≤ v2.toInt ∧ v2.toInt ≤ 10000 - v3.toInt))]; rfl
    · rw [if_neg a1]
      by_cases a2 : v3.toInt < 1
      · rw [if_pos a2, if_pos (by omega : ¬ ((1 ≤ v3.toInt ∧ v3.toInt ≤ 20) ∧ 0 ≤ v2.toInt ∧ v2.toInt ≤ 10000 - v3.toInt))]; rfl
      · rw [if_neg a2]
        by_cases a3 : 20 < v3.toInt
        · rw [if_pos a3, if_pos (by omega : ¬ ((1 ≤ v3.toInt ∧ v3.toInt ≤ 20) ∧ 0 ≤ v2.toInt ∧ v2.toInt ≤ 10000 - v3.toInt))]; rfl
        · have e : ((9999 : Int32) - v3 + 1).toInt = 10000 - v3.toInt := by
            rw [ar_add, ar_sub, e9, one, ar_wr (n := 9999 - v3.toInt) (by omega) (by omega), ar_wr (by omega) (by omega)]
            omega
          rw [if_neg a3, q_letE ((9999 : Int32) - v3), q_letE ((9999 : Int32) - v3 + 1), e]
          by_cases a4 : 10000 - v3.toInt < v2.toInt
          · rw [if_pos a4, if_pos (by omega : ¬ ((1 ≤ v3.toInt ∧ v3.toInt ≤ 20) ∧ 0 ≤ v2.toInt ∧ v2.toInt ≤ 10000 - v3.toInt))]; rfl
          · rw [if_neg a4, if_neg (by omega : ¬ ¬ ((1 ≤ v3.toInt ∧ v3.toInt ≤ 20) ∧ 0 ≤ v2.toInt ∧ v2.toInt ≤ 10000 - v3.toInt)), q_letE (σ.1 (q_rf X (q_rf X C 8) 3) 0), ef]
            split <;> rfl
  · rw [if_neg q, if_pos rfl, if_pos q]
    rfl
theorem al_tries (K : al_C X lb C a) (A : al_R X C a σ τ) (M : m_M (m_c X τ a) (τ.1 a 24).toInt n) (hn : n ≤ 800000) (v1 v2 v3 : Int32) : ob_O X C a (F_X11_wins X σ C v1 v2 v3) (F_X12_wins X τ a v1 v2 v3) ∧ ob_O X C a (F_X11_left X σ C v1 v2 v3) (F_X12_left X τ a v1 v2 v3) := by
  obtain ⟨kC, ka, S, lC, G8, G9, GM⟩ := id K
  obtain ⟨m2, s2, t2⟩ := mv_beg S.1 ka (rfl : m_c X τ a = m_c X τ a)
  have b2 : 0 ≤ m_c X τ a 2 ∧ m_c X τ a 2 ≤ 6 := M.1.1.1.2.1
  have st := tr_status K A M v1 v2 v3
  have p2 := lk_playerAt m2 b2 v1
  have one : (1 : Int64).toInt = 1 := rfl
  have e20 : (20 : Int64).toInt = 20 := rfl
  have e0 : (0 : Int64).toInt = 0 := rfl
  have ek : (10000 : Int32).toInt = 10000 := rfl
  have g654 : ((q_si (q_si τ a 1 0) a 0 0).1 (q_rf X a 20) (654 : Int32).toNatClampNeg).toInt = m_c X τ a 654 := gm_cell (A := 654) m2 rfl
  have A' : al_R X C a σ (q_si (q_si τ a 1 0) a 0 0) := by
    refine A.fr K M rfl m2 A.1.1 pl_fix.rf (fun _ _ _ => rfl) rfl ?_ rfl
    rw [si_f (by decide), si_f (by decide)]
  have M' : m_M (m_c X (q_si (q_si τ a 1 0) a 0 0) a) ((q_si (q_si τ a 1 0) a 0 0).1 a 24).toInt n := by
    rw [m2, si_f (by decide), si_f (by decide)]
    exact M
  have noN : ∀ k : Int32, ob_O X C a (q_bi (F_X11_no X σ C k) (fun r s => (r, s))) (q_bi (F_X12_no X (q_si (q_si τ a 1 0) a 0 0) a k) (fun r s => (r, s))) := fun k => by
    rw [ob_pe, ob_pe, mv_no, mv_noM]
    refine ⟨rfl, ?_, (al_st K A M k).2 k⟩
    show ((q_si σ C 0 k).1 C 0).toInt = ((q_si (q_si (q_si τ a 1 0) a 0 0) a 0 k).1 a 0).toInt
    rw [si_eq, si_eq]
  unfold F_X11_wins F_X11_left F_X12_wins F_X12_left F_X12_tries
  rw [q_letE (F_X11_seedsStatus X σ C v1 v2 v3), q_letE (F_X11_seedsStatus X σ C v1 v2 v3), q_letE (q_si τ a 1 0), q_letE (q_si (q_si τ a 1 0) a 0 0), q_letE (q_si τ a 1 0), q_letE (q_si (q_si τ a 1 0) a 0 0)]
  obtain ⟨τ2, et⟩ : ∃ t, t = q_si (q_si τ a 1 0) a 0 0 := ⟨_, rfl⟩
  rw [← et] at m2 s2 p2 g654 A' M' noN ⊢
  have i3 : (F_X12_isIn X τ2 v3.toInt64 (1 : Int64) (20 : Int64)).toInt = if 1 ≤ v3.toInt ∧ v3.toInt ≤ 20 then 1 else 0 := lk_in (X := X) v3 one e20
  rw [q_letE (F_X12_isPlayerAt X τ2 a v1), q_letE (F_X12_isPlayerAt X τ2 a v1), p2]
  obtain ⟨w, ew⟩ : ∃ w, w = F_X11_seedsStatus X σ C v1 v2 v3 := ⟨_, rfl⟩
  rw [← ew] at st ⊢
  by_cases q1 : ¬ (0 ≤ v1.toInt ∧ v1.toInt < m_c X τ a 2)
  · rw [if_pos q1] at st
    have e : w = 2 := Int32.toInt_inj.mp (st.trans rfl)
    rw [e, if_neg (by decide : ¬ (2 : Int32).toInt = 0), if_neg (by decide : ¬ (2 : Int32).toInt = 0), if_neg q1, if_pos rfl, if_pos rfl, ob_pe (q_bi (F_X12_no X τ2 a 2) (fun r s => (r, s)))]
    exact ⟨noN 2, noN 2⟩
  have q1' := Classical.not_not.mp q1
  rw [if_neg q1] at st
  rw [if_pos q1', if_neg (by decide : ¬ (1 : Int) = 0), if_neg (by decide : ¬ (1 : Int) = 0), q_letE v3.toInt64, q_letE v3.toInt64, q_letE (F_X12_isIn X τ2 v3.toInt64 (1 : Int64) (20 : Int64)), q_letE (F_X12_isIn X τ2 v3.toInt64 (1 : Int64) (20 : Int64)), i3]
  by_cases q3 : ¬ (1 ≤ v3.toInt ∧ v3.toInt ≤ 20)
  · rw [if_pos (fun z => q3 z.1)] at st
    have e : w = 5 := Int32.toInt_inj.mp (st.trans rfl)
    rw [e, if_neg (by decide : ¬ (5 : Int32).toInt = 0), if_neg (by decide : ¬ (5 : Int32).toInt = 0), if_neg q3, if_pos rfl, if_pos rfl, ob_pe (q_bi (F_X12_no X τ2 a 5) (fun r s => (r, s)))]
    exact ⟨noN 5, noN 5⟩
  have q3' := Classical.not_not.mp q3
  have ez : ((10000 : Int32) - v3).toInt64.toInt = 10000 - v3.toInt := by rw [ar_i2l, ar_sub, ek, ar_wr (by omega) (by omega)]
  have i2 : (F_X12_isIn X τ2 v2.toInt64 (0 : Int64) ((10000 : Int32) - v3).toInt64).toInt = if 0 ≤ v2.toInt ∧ v2.toInt ≤ 10000 - v3.toInt then 1 else 0 := lk_in (X := X) v2 e0 ez
  rw [if_pos q3', if_neg (by decide : ¬ (1 : Int) = 0), if_neg (by decide : ¬ (1 : Int) = 0), q_letE v2.toInt64, q_letE ((10000 : Int32) - v3), q_letE ((10000 : Int32) - v3).toInt64, q_letE (F_X12_isIn X τ2 v2.toInt64 (0 : Int64) ((10000 : Int32) - v3).toInt64), q_letE v2.toInt64, q_letE ((10000 : Int32) - v3), q_letE ((10000 : Int32) - v3).toInt64, q_letE (F_X12_isIn X τ2 v2.toInt64 (0 : Int64) ((10000 : Int32) - v3).toInt64), i2]
  by_cases q4 : ¬ (0 ≤ v2.toInt ∧ v2.toInt ≤ 10000 - v3.toInt)
  · rw [if_pos (fun z => q4 z.2)] at st
    have e : w = 5 := Int32.toInt_inj.mp (st.trans rfl)
    rw [e, if_neg (by decide : ¬ (5 : Int32).toInt = 0), if_neg (by decide : ¬ (5 : Int32).toInt = 0), if_neg q4, if_pos rfl, if_pos rfl, ob_pe (q_bi (F_X12_no X τ2 a 5) (fun r s => (r, s)))]
    exact ⟨noN 5, noN 5⟩
  have q4' := Classical.not_not.mp q4
  rw [if_neg (fun z => z ⟨q3', q4'⟩)] at st
  rw [if_pos q4', if_neg (by decide : ¬ (1 : Int) = 0), if_neg (by decide : ¬ (1 : Int) = 0), q_letE (τ2.1 (q_rf X a 20) (654 : Int32).toNatClampNeg), q_letE (τ2.1 (q_rf X a 20) (654 : Int32).toNatClampNeg), g654]
  by_cases q5 : m_c X τ a 654 = 0
  · rw [if_pos q5] at st
    have e : w = 8 := Int32.toInt_inj.mp (st.trans rfl)
    rw [e, if_neg (by decide : ¬ (8 : Int32).toInt = 0), if_neg (by decide : ¬ (8 : Int32).toInt = 0), if_pos q5, if_pos q5, ob_pe (q_bi (F_X12_no X τ2 a 8) (fun r s => (r, s)))]
    exact ⟨noN 8, noN 8⟩
  rw [if_neg q5] at st
  rw [if_pos st, if_pos st, if_neg q5, if_neg q5]
  have z0 : (0 : Int32).toInt = 0 := rfl
  have k21 : q_kd X (q_rf X a 21) = 35 := (S.1.1 a 21 (by rw [ka]; decide)).trans (by rw [ka]; rfl)
  have keep : ∀ v4 : Int32, ∃ τ3 : ST, F_X12_tries_L78_1 X a v3 v2 v4 v1 ((2147483647 - (0 : Int32).toInt).toNat + 1) 0 τ2 = F_X12_tries_L112_3 X v3 v2 a v4 v1 ((2147483647 - (0 : Int32).toInt).toNat + 1) 0 0 τ3 ∧ tr_K X lb C a σ σ τ2 τ3 (m_c X τ2 a) := fun v4 => by
    obtain ⟨τ3, x1, x2, x3⟩ := tr_keep (v1 := v1) (v2 := v2) (v3 := v3) (v4 := v4) (c := m_c X τ2 a) S.1 ka rfl ((2147483647 - (0 : Int32).toInt).toNat + 1) 0 τ2 (Nat.lt_succ_self _) (by decide) (by decide) tkl.rf (fun j j0 j1 => by rw [z0] at j1; omega)
    exact ⟨τ3, x1, fun _ _ _ _ _ => rfl, rfl, pl_mc (fun f => x2.1 _ f (m_ne (tb_k S.1 ka).1 k21 (by decide))), x2.mono (fun b f z => Or.inr z) (fun _ _ z => z), x3⟩
  have fin : ∀ (σ' τ' : ST) (x y : Int64), tr_K X lb C a σ σ' τ2 τ' (m_c X τ2 a) → ob_O X C a (F_X11_tell X σ' C x y) (F_X12_fraction X τ' a x y) := fun σ' τ' x y T => by
    obtain ⟨B, b0⟩ := T.al K A' M'
    exact al_told K B (by rw [b0, s2]; rfl) x y x y
  refine ⟨?_, ?_⟩
  · obtain ⟨τ3, x1, x2⟩ := keep 1
    obtain ⟨w', σ', τ', j1, j2, j3⟩ := tr_winsL (v1 := v1) (v2 := v2) (v3 := v3) K A' M' hn q3'.2 ((2147483647 - (0 : Int32).toInt).toNat + 1) ((2147483647 - (0 : Int32).toInt).toNat + 1) 0 0 σ τ3 (Nat.lt_succ_self _) (Nat.lt_succ_self _) (by decide) x2
    rw [j1, x1, j2, ob_pe]
    exact fin σ' τ' _ _ j3
  · obtain ⟨τ3, x1, x2⟩ := keep 0
    obtain ⟨w', σ', τ', j1, j2, j3⟩ := tr_leftL (v1 := v1) (v2 := v2) (v3 := v3) K A' M' hn q3'.2 (by rw [m2]; exact q1') ((2147483647 - (0 : Int32).toInt).toNat + 1) ((2147483647 - (0 : Int32).toInt).toNat + 1) 0 0 σ τ3 (Nat.lt_succ_self _) (Nat.lt_succ_self _) (by decide) x2
    rw [j1, x1, j2, ob_pe]
    exact fin σ' τ' _ _ j3
end PJ
