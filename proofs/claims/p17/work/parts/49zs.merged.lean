/-! FROM 49zs.play.lean.txt -/
/-! A ROUND PLAYED: go and plays; play called -/
section PH
variable {X : XW} {lb : Nat → Nat} {g o a R C : Nat} {σ σ' σ1 τ τ' τ1 : ST} {V0 V V' : Nat → Int → Int} {c0 c c' : Int → Int} {n : Int}
/-- a whole round -/
theorem pl_go (Y : y_S X lb) (G : y_G X lb g o) (D : pl_D X lb o R) (ha : q_kd X a = 12) (hn : n ≤ 800000) (hV : y_v X g σ = V) (Rg : rg V c) (hG : m_G c) (hW : m_W c n) (hc : m_c X τ a = c) (hr : rs V c) (v : Int32) :
    tkl (pl_Sg X lb o R) (fun _ _ => False) σ (F_X7_go X σ R g v) ∧ tkl (pl_Sq X a) (fun _ _ => False) τ (F_X12_plays X τ a v) ∧ pl_J X g a R V c n (F_X7_go X σ R g v) (F_X12_plays X τ a v) := by
  obtain ⟨n80, n8a, n0a⟩ := pl_k28 Y.1 ha
  obtain ⟨r0, r1, r2, ⟨r3, r4⟩, k, fk⟩ := hr
  have qq := hG.2.2.2.2.2.1
  have z0 : (0 : Int32).toInt = 0 := rfl
  unfold F_X7_go F_X12_plays
  -- the class begins
  obtain ⟨σ7, es⟩ : ∃ s, s = q_si (q_si (q_si (q_si (q_si (q_si (q_si σ R 0 0) R 1 0) R 2 0) R 3 0) R 4 0) R 5 0) R 6 v := ⟨_, rfl⟩
  rw [q_letE (q_si σ R 0 0), q_letE (q_si (q_si σ R 0 0) R 1 0), q_letE (q_si (q_si (q_si σ R 0 0) R 1 0) R 2 0), q_letE (q_si (q_si (q_si (q_si σ R 0 0) R 1 0) R 2 0) R 3 0), q_letE (q_si (q_si (q_si (q_si (q_si σ R 0 0) R 1 0) R 2 0) R 3 0) R 4 0), q_letE (q_si (q_si (q_si (q_si (q_si (q_si σ R 0 0) R 1 0) R 2 0) R 3 0) R 4 0) R 5 0), q_letE (q_si (q_si (q_si (q_si (q_si (q_si (q_si σ R 0 0) R 1 0) R 2 0) R 3 0) R 4 0) R 5 0) R 6 v), ← es]
  have s0 : σ7.1 R 0 = 0 := by rw [es, si_f (by decide), si_f (by decide), si_f (by decide), si_f (by decide), si_f (by decide), si_f (by decide), si_eq]
  have s1 : σ7.1 R 1 = 0 := by rw [es, si_f (by decide), si_f (by decide), si_f (by decide), si_f (by decide), si_f (by decide), si_eq]
  have s2 : σ7.1 R 2 = 0 := by rw [es, si_f (by decide), si_f (by decide), si_f (by decide), si_f (by decide), si_eq]
  have s3 : σ7.1 R 3 = 0 := by rw [es, si_f (by decide), si_f (by decide), si_f (by decide), si_eq]
  have s4 : σ7.1 R 4 = 0 := by rw [es, si_f (by decide), si_f (by decide), si_eq]
  have s5 : σ7.1 R 5 = 0 := by rw [es, si_f (by decide), si_eq]
  have s6 : σ7.1 R 6 = v := by rw [es, si_eq]
  have v7 : y_v X g σ7 = V := by
    rw [es, pl_vo Y G D.2.1, pl_vo Y G D.2.1, pl_vo Y G D.2.1, pl_vo Y G D.2.1, pl_vo Y G D.2.1, pl_vo Y G D.2.1, pl_vo Y G D.2.1]
    exact hV
  have S7 : tkl (pl_Sg X lb o R) (fun _ _ => False) σ σ7 := by
    rw [es]
    exact ((((((tkl.rf.si _ (Or.inr (Or.inl ⟨rfl, by decide⟩))).si _ (Or.inr (Or.inl ⟨rfl, by decide⟩))).si _ (Or.inr (Or.inl ⟨rfl, by decide⟩))).si _ (Or.inr (Or.inl ⟨rfl, by decide⟩))).si _ (Or.inr (Or.inl ⟨rfl, by decide⟩))).si _ (Or.inr (Or.inl ⟨rfl, by decide⟩))).si _ (Or.inr (Or.inl ⟨rfl, by decide⟩))
  -- the reference begins
  obtain ⟨τ8, et⟩ : ∃ s, s = q_si (q_si (q_si (q_si (q_si (q_si (q_si (q_si τ a 39 v) a 40 0) a 41 0) a 42 0) a 43 0) a 44 0) a 45 0) a 38 0 := ⟨_, rfl⟩
  rw [q_letE (q_si τ a 39 v), q_letE (q_si (q_si τ a 39 v) a 40 0), q_letE (q_si (q_si (q_si τ a 39 v) a 40 0) a 41 0), q_letE (q_si (q_si (q_si (q_si τ a 39 v) a 40 0) a 41 0) a 42 0), q_letE (q_si (q_si (q_si (q_si (q_si τ a 39 v) a 40 0) a 41 0) a 42 0) a 43 0), q_letE (q_si (q_si (q_si (q_si (q_si (q_si τ a 39 v) a 40 0) a 41 0) a 42 0) a 43 0) a 44 0), q_letE (q_si (q_si (q_si (q_si (q_si (q_si (q_si τ a 39 v) a 40 0) a 41 0) a 42 0) a 43 0) a 44 0) a 45 0), q_letE (q_si (q_si (q_si (q_si (q_si (q_si (q_si (q_si τ a 39 v) a 40 0) a 41 0) a 42 0) a 43 0) a 44 0) a 45 0) a 38 0), ← et]
  have t39 : τ8.1 a 39 = v := by rw [et, si_f (by decide), si_f (by decide), si_f (by decide), si_f (by decide), si_f (by decide), si_f (by decide), si_f (by decide), si_eq]
  have t40 : τ8.1 a 40 = 0 := by rw [et, si_f (by decide), si_f (by decide), si_f (by decide), si_f (by decide), si_f (by decide), si_f (by decide), si_eq]
  have t41 : τ8.1 a 41 = 0 := by rw [et, si_f (by decide), si_f (by decide), si_f (by decide), si_f (by decide), si_f (by decide), si_eq]
  have t42 : τ8.1 a 42 = 0 := by rw [et, si_f (by decide), si_f (by decide), si_f (by decide), si_f (by decide), si_eq]
  have t43 : τ8.1 a 43 = 0 := by rw [et, si_f (by decide), si_f (by decide), si_f (by decide), si_eq]
  have t44 : τ8.1 a 44 = 0 := by rw [et, si_f (by decide), si_f (by decide), si_eq]
  have t45 : τ8.1 a 45 = 0 := by rw [et, si_f (by decide), si_eq]
  have t38 : τ8.1 a 38 = 0 := by rw [et, si_eq]
  have m8 : m_c X τ8 a = c := by
    rw [et, mv_cell Y.1 ha, mv_cell Y.1 ha, mv_cell Y.1 ha, mv_cell Y.1 ha, mv_cell Y.1 ha, mv_cell Y.1 ha, mv_cell Y.1 ha, mv_cell Y.1 ha]
    exact hc
  have T8 : tkl (pl_Sq X a) (fun _ _ => False) τ τ8 := by
    rw [et]
    exact (((((((tkl.rf.si _ (Or.inr (Or.inr ⟨rfl, by decide, by decide⟩))).si _ (Or.inr (Or.inr ⟨rfl, by decide, by decide⟩))).si _ (Or.inr (Or.inr ⟨rfl, by decide, by decide⟩))).si _ (Or.inr (Or.inr ⟨rfl, by decide, by decide⟩))).si _ (Or.inr (Or.inr ⟨rfl, by decide, by decide⟩))).si _ (Or.inr (Or.inr ⟨rfl, by decide, by decide⟩))).si _ (Or.inr (Or.inr ⟨rfl, by decide, by decide⟩))).si _ (Or.inr (Or.inr ⟨rfl, by decide, by decide⟩))
  have J : pl_J X g a R V c n σ7 τ8 := by
    refine ⟨⟨?_, ?_, ?_, ?_⟩, ?_, ?_, ?_, ?_, V, c, v7, m8, Rg, hG, ?_, pl_fix.rf⟩
    · rw [s6, t39]
    · rw [s2, t42]
    · rw [s3, t43]
    · rw [s4, t44]
    · rw [s0, t40]
    · rw [s1, t41]
    · rw [s5, t45]
    · rw [t40, z0]
      decide
    · rw [t40, z0]
      exact hW.le (by omega)
  have on : pl_on a τ8 := ⟨by rw [t38, z0], by rw [t45, z0]⟩
  have g655 : (τ8.1 (q_rf X a 20) (655 : Int32).toNatClampNeg).toInt = c 655 := gm_cell (A := 655) m8 rfl
  rw [q_letE (τ8.1 (q_rf X a 20) (655 : Int32).toNatClampNeg), q_letE (F_X12_doAllN X a 30 τ8 0 (τ8.1 (q_rf X a 20) (655 : Int32).toNatClampNeg))]
  obtain ⟨σ2, a1, a2, a3, a4, a5⟩ := pl_all Y G D ha hn r4 qq.2 30 k 0 (c 655) 0 (V 3 2) (by decide) (by decide) (Int.le_refl _) (by decide) (Int.le_refl _) fk σ7 τ8 0 (τ8.1 (q_rf X a 20) (655 : Int32).toNatClampNeg) 0 0 0 J on rfl g655 rfl (by decide) (by rw [t40]; decide) (by decide)
  have e : pl_L X g R 0 0 σ7 = σ2 := by
    rcases a5 with ⟨-, x', i', b2, -, -, b5⟩ | ⟨-, b2⟩
    · rw [b5]
      exact pl_Lstop (Or.inr (by rw [a3.lines, b2]; exact Int.le_refl _))
    · exact b2
  have e' : F_X7_go_L46_1 X g R ((2147483647 - (0 : Int32).toInt).toNat + 1) 0 0 σ7 = σ2 := e
  rw [e']
  exact ⟨S7.tr a1, T8.tr a2, a3⟩
/-- game and marks behind a change of the game alone -/
theorem al_R.fr (K : al_C X lb C a) (A : al_R X C a σ τ) (M : m_M (m_c X τ a) (τ.1 a 24).toInt n) (v1 : y_v X (q_rf X C 8) σ' = V') (m1 : m_c X τ' a = c') (R' : rg V' c') (F : pl_fix (y_v X (q_rf X C 8) σ) V' (m_c X τ a) c') (fr : ∀ b, 3 ≤ lb b / 8192 → ∀ f, σ'.1 b f = σ.1 b f) (e11 : σ'.1 C 11 = σ.1 C 11) (e24 : τ'.1 a 24 = τ.1 a 24) (w1 : m_wd X τ' a = m_wd X τ a) : al_R X C a σ' τ' := by
  obtain ⟨kC, ka, S, lC, G8, G9, GM⟩ := K
  obtain ⟨⟨A1, A1b, A1c⟩, A2, A3, A4⟩ := A
  obtain ⟨fV, fc⟩ := F
  refine ⟨⟨?_, ?_, ?_⟩, by rw [e11, e24]; exact A2, by rw [e11]; exact A3, fun b b1 b2 => ?_⟩
  · rw [v1, m1]; exact R'
  · rw [v1, m1, w1, fc 2 (by decide) (by decide)]
    intro p p0 p1
    obtain ⟨a1, a2, a3⟩ := A1b p p0 p1
    rw [fV 6 p (by decide)]
    refine ⟨a1, fun i i0 i1 => by rw [fV 5 _ (by decide)]; exact a2 i i0 i1, ?_⟩
    rw [a3]
    refine tx_wv_ext (fun i hi => ?_)
    show y_v X (q_rf X C 8) σ 5 (8 * p + (0 + (i : Int))) = V' 5 (8 * p + (0 + (i : Int)))
    rw [fV 5 _ (by decide)]
  · rw [v1, m1]
    obtain ⟨h1, h2, h3, h4, n, h5⟩ := A1c
    have q := M.1.1.2.2.2.2.2.1
    refine ⟨?_, ?_, ?_, ?_, n, ?_⟩
    · rw [fV 3 0 (by decide), fc 654 (by decide) (by decide)]; exact h1
    · rw [fc 654 (by decide) (by decide)]; exact h2
    · rw [fV 3 1 (by decide), fc 655 (by decide) (by decide)]; exact h3
    · rw [fV 3 2 (by decide)]; exact h4
    · rw [fV 3 2 (by decide), fc 655 (by decide) (by decide)]
      exact fl_x (fun id i i0 i1 j0 j1 => fV id i (by omega)) (fun j j0 j1 => fc j (by omega) (by omega)) n (by decide) q.2 (by decide) h4.2 h5
  · rw [e11] at b2
    have z := A4 b b1 b2
    have gv : y_v X (q_rf X (q_rf X C 10) (b - 1)) σ' = y_v X (q_rf X (q_rf X C 10) (b - 1)) σ := y_v.k S (GM (b - 1) (by omega)) (fun x hx f => fr x (by omega) f)
    refine z.x (M.2 (b : Int) (by omega) (by rw [A2] at b2; exact b2)).1 (fun id i _ => by rw [gv]) (fun j j0 j1 => ?_) (fun j j0 j1 => by rw [w1])
    show m_c X τ' a (930 * (b : Int) + j) = m_c X τ a (930 * (b : Int) + j)
    rw [m1]
    exact fc _ (by omega) (by omega)
/-- both runs of an object -/
theorem al_run (K : al_C X lb C a) : pl_D X lb 1 (q_rf X C 14) ∧ pl_D X lb 2 (q_rf X C 15) := by
  obtain ⟨kC, ka, S, lC, G8, G9, GM⟩ := K
  obtain ⟨T, L, N⟩ := id S
  have k14 : q_kd X (q_rf X C 14) = 7 := (T.1 C 14 (by rw [kC]; decide)).trans (by rw [kC]; rfl)
  have k15 : q_kd X (q_rf X C 15) = 7 := (T.1 C 15 (by rw [kC]; decide)).trans (by rw [kC]; rfl)
  have l14 : lb (q_rf X C 14) = 30 := (L C 14 (by rw [kC]; decide)).trans (by rw [lC]; decide)
  have l15 : lb (q_rf X C 15) = 31 := (L C 15 (by rw [kC]; decide)).trans (by rw [lC]; decide)
  have one : ∀ (r l : Nat), q_kd X r = 7 → lb r = l → y_lc l 7 < 8192 → y_lc (y_lc l 7) 0 < 8192 → q_kd X (pl_T X r) = 20 ∧ q_ln X (pl_T X r) = 60 ∧ lb (pl_T X r) / 8192 = 0 := by
    intro r l kr lr h1 h2
    have k7 : q_kd X (q_rf X r 7) = 5 := (T.1 r 7 (by rw [kr]; decide)).trans (by rw [kr]; rfl)
    have l7 : lb (q_rf X r 7) = y_lc l 7 := (L r 7 (by rw [kr]; decide)).trans (by rw [lr])
    have k70 : q_kd X (q_rf X (q_rf X r 7) 0) = 20 := (T.1 (q_rf X r 7) 0 (by rw [k7]; decide)).trans (by rw [k7]; rfl)
    have l70 : lb (q_rf X (q_rf X r 7) 0) = y_lc (y_lc l 7) 0 := (L (q_rf X r 7) 0 (by rw [k7]; decide)).trans (by rw [l7])
    refine ⟨k70, (N r 7 (by rw [kr]; rfl)).trans (by rw [kr]; rfl), ?_⟩
    show lb (q_rf X (q_rf X r 7) 0) / 8192 = 0
    rw [l70]
    omega
  obtain ⟨p1, p2, p3⟩ := one _ _ k14 l14 (by decide) (by decide)
  obtain ⟨q1, q2, q3⟩ := one _ _ k15 l15 (by decide) (by decide)
  exact ⟨⟨k14, by rw [l14]; decide, by rw [p3]; decide, p1, p2⟩, ⟨k15, by rw [l15]; decide, by rw [q3]; decide, q1, q2⟩⟩
theorem al_T0 (K : al_C X lb C a) : lb (pl_T X (q_rf X C 14)) / 8192 = 0 := by
  obtain ⟨kC, ka, S, lC, G8, G9, GM⟩ := K
  obtain ⟨T, L, N⟩ := id S
  have k14 : q_kd X (q_rf X C 14) = 7 := (T.1 C 14 (by rw [kC]; decide)).trans (by rw [kC]; rfl)
  have l14 : lb (q_rf X C 14) = 30 := (L C 14 (by rw [kC]; decide)).trans (by rw [lC]; decide)
  have k7 : q_kd X (q_rf X (q_rf X C 14) 7) = 5 := (T.1 _ 7 (by rw [k14]; decide)).trans (by rw [k14]; rfl)
  have l7 : lb (q_rf X (q_rf X C 14) 7) = 487 := (L _ 7 (by rw [k14]; decide)).trans (by rw [l14]; decide)
  have l70 : lb (q_rf X (q_rf X (q_rf X C 14) 7) 0) = 7792 := (L _ 0 (by rw [k7]; decide)).trans (by rw [l7]; decide)
  show lb (q_rf X (q_rf X (q_rf X C 14) 7) 0) / 8192 = 0
  rw [l70]
/-- a number within bounds, for the reference -/
theorem lk_in (v : Int32) {x y : Int64} {A B : Int} (hx : x.toInt = A) (hy : y.toInt = B) : (F_X12_isIn X τ v.toInt64 x y).toInt = if A ≤ v.toInt ∧ v.toInt ≤ B then 1 else 0 := by
  rw [tm_isIn, ar_i2l, hx, hy]
/-- what was played, in both -/
def al_P (X : XW) (C a : Nat) (σ τ : ST) : Prop := (σ.1 C 16).toInt = (τ.1 a 37).toInt ∧ ((τ.1 a 37).toInt ≠ 0 → ∀ k : Nat, k < 5 → σ.1 (q_rf X C 14) (k + 1) = τ.1 (q_rf X a 36) k)
theorem al_play (K : al_C X lb C a) (A : al_R X C a σ τ) (M : m_M (m_c X τ a) (τ.1 a 24).toInt n) (hn : n ≤ 800000) (v : Int32) : ob_O X C a (F_X11_play X σ C v) (F_X12_play X τ a v) ∧ (al_P X C a σ τ → al_P X C a (F_X11_play X σ C v).2 (F_X12_play X τ a v).2) := by
  obtain ⟨kC, ka, S, lC, G8, G9, GM⟩ := id K
  obtain ⟨A1, A2, A3, A4⟩ := id A
  obtain ⟨D, -⟩ := al_run K
  obtain ⟨m2, s2, t2⟩ := mv_beg S.1 ka (rfl : m_c X τ a = m_c X τ a)
  obtain ⟨n80, n8a, n0a⟩ := pl_k28 S.1 ka
  have k36 : q_kd X (q_rf X a 36) = 41 := (S.1.1 a 36 (by rw [ka]; decide)).trans (by rw [ka]; rfl)
  have n36a : q_rf X a 36 ≠ a := m_ne k36 ka (by decide)
  have n36c : q_rf X a 36 ≠ q_rf X a 20 := m_ne k36 (tb_k S.1 ka).1 (by decide)
  have k28 : q_kd X (q_rf X a 28) = 39 := (S.1.1 a 28 (by rw [ka]; decide)).trans (by rw [ka]; rfl)
  have n36l : q_rf X a 36 ≠ q_rf X a 28 := m_ne k36 k28 (by decide)
  have nRC : C ≠ q_rf X C 14 := m_ne kC D.1 (by decide)
  have nTC : C ≠ pl_T X (q_rf X C 14) := m_ne kC D.2.2.2.1 (by decide)
  have ef : (σ.1 (q_rf X (q_rf X C 8) 3) 0).toInt = m_c X τ a 654 := ((y_W.rf (X := X) (lb := lb) (g := q_rf X C 8) (o := 1) (σ := σ)).rd (id := 3) (by decide) 0 rfl).trans A1.2.2.1
  -- a refused call
  have nop : ∀ k : Int32, (al_P X C a σ τ → al_P X C a (q_bi (F_X11_none X σ C k) (fun r s => (r, s))).2 (q_bi (F_X12_refuse X (q_si (q_si τ a 1 0) a 0 0) a k) (fun r s => (r, s))).2) := by
    intro k P
    rw [ob_pe, ob_pe, mv_none, mv_refuse]
    have c1 : ∀ f, f ≠ 0 → (q_si σ C 0 k).1 C f = σ.1 C f := fun f h => si_f h _
    have c2 : ∀ f, f ≠ 0 → f ≠ 1 → (q_si (q_si (q_si τ a 1 0) a 0 0) a 0 k).1 a f = τ.1 a f := fun f h1 h2 => (si_f h1 _).trans ((si_f h1 _).trans (si_f h2 _))
    show ((q_si σ C 0 k).1 C 16).toInt = ((q_si (q_si (q_si τ a 1 0) a 0 0) a 0 k).1 a 37).toInt ∧ (((q_si (q_si (q_si τ a 1 0) a 0 0) a 0 k).1 a 37).toInt ≠ 0 → ∀ j : Nat, j < 5 → (q_si σ C 0 k).1 (q_rf X C 14) (j + 1) = (q_si (q_si (q_si τ a 1 0) a 0 0) a 0 k).1 (q_rf X a 36) j)
    rw [c1 16 (by decide), c2 37 (by decide) (by decide)]
    refine ⟨P.1, fun h j hj => ?_⟩
    rw [q_si_ne (Ne.symm nRC), q_si_ne n36a, q_si_ne n36a, q_si_ne n36a]
    exact P.2 h j hj
  have i1 : (F_X12_isIn X (q_si (q_si τ a 1 0) a 0 0) v.toInt64 (0 : Int64) (9999 : Int64)).toInt = if 0 ≤ v.toInt ∧ v.toInt ≤ 9999 then 1 else 0 := lk_in (X := X) v rfl rfl
  unfold F_X11_play F_X12_play
  rw [q_letE (q_si τ a 1 0), q_letE (q_si (q_si τ a 1 0) a 0 0), q_letE v.toInt64, q_letE (F_X12_isIn X (q_si (q_si τ a 1 0) a 0 0) v.toInt64 (0 : Int64) (9999 : Int64)), i1]
  by_cases q0 : v.toInt < 0
  · rw [if_pos q0, if_neg (by omega : ¬ (0 ≤ v.toInt ∧ v.toInt ≤ 9999)), if_pos rfl]
    exact ⟨ob_none K A M 5, nop 5⟩
  by_cases q1 : 9999 < v.toInt
  · rw [if_neg q0, if_pos q1, if_neg (by omega : ¬ (0 ≤ v.toInt ∧ v.toInt ≤ 9999)), if_pos rfl]
    exact ⟨ob_none K A M 5, nop 5⟩
  rw [if_neg q0, if_neg q1, if_pos (⟨by omega, by omega⟩ : 0 ≤ v.toInt ∧ v.toInt ≤ 9999), if_neg (by decide : ¬ (1 : Int) = 0), q_letE (σ.1 (q_rf X (q_rf X C 8) 3) 0), ef]
  have g654 : ((q_si (q_si τ a 1 0) a 0 0).1 (q_rf X a 20) (654 : Int32).toNatClampNeg).toInt = m_c X τ a 654 := gm_cell (A := 654) m2 rfl
  rw [q_letE ((q_si (q_si τ a 1 0) a 0 0).1 (q_rf X a 20) (654 : Int32).toNatClampNeg), g654]
  by_cases q2 : m_c X τ a 654 = 0
  · rw [if_pos q2, if_pos q2]
    exact ⟨ob_none K A M 8, nop 8⟩
  rw [if_neg q2, if_neg q2]
  obtain ⟨h1, h2, J⟩ := pl_go S G8 D ka hn (rfl : y_v X (q_rf X C 8) σ = _) A1.1 M.1.1 M.1.2 m2 A1.2.2 v
  rw [q_letE (F_X7_go X σ (q_rf X C 14) (q_rf X C 8) v), q_letE (F_X12_plays X (q_si (q_si τ a 1 0) a 0 0) a v)]
  obtain ⟨σ9, es⟩ : ∃ s, s = F_X7_go X σ (q_rf X C 14) (q_rf X C 8) v := ⟨_, rfl⟩
  obtain ⟨τ9, et⟩ : ∃ s, s = F_X12_plays X (q_si (q_si τ a 1 0) a 0 0) a v := ⟨_, rfl⟩
  rw [← es] at h1 J ⊢
  rw [← et] at h2 J ⊢
  obtain ⟨⟨k6, k2, k3, k4⟩, j0, j1, j5, jb, V1, c1, o1, o2, o3, o4, o5, o6⟩ := J
  -- the class's end
  have f11 : (q_si σ9 C 16 1).1 (q_rf X C 14) 0 = σ9.1 (q_rf X C 14) 0 := q_si_ne (Ne.symm nRC) 0
  rw [q_letE (q_si σ9 C 16 1), q_letE ((q_si σ9 C 16 1).1 (q_rf X C 14) 0), f11, ob_pe, mv_good]
  have oC : lb C / 8192 ≠ 1 := by rw [lC]; decide
  have kCf : ∀ f, σ9.1 C f = σ.1 C f := fun f => h1.1 C f (by
    rintro (z | ⟨z, -⟩ | z)
    · exact oC z
    · exact nRC z
    · exact nTC z)
  -- the reference's end
  obtain ⟨y1, ey1⟩ : ∃ y, y = q_si τ9 (q_rf X a 36) 0 (τ9.1 a 41) := ⟨_, rfl⟩
  obtain ⟨y2, ey2⟩ : ∃ y, y = q_si y1 (q_rf X a 36) 1 (y1.1 a 42) := ⟨_, rfl⟩
  obtain ⟨y3, ey3⟩ : ∃ y, y = q_si y2 (q_rf X a 36) 2 (y2.1 a 43) := ⟨_, rfl⟩
  obtain ⟨y4, ey4⟩ : ∃ y, y = q_si y3 (q_rf X a 36) 3 (y3.1 a 44) := ⟨_, rfl⟩
  obtain ⟨y5, ey5⟩ : ∃ y, y = q_si y4 (q_rf X a 36) 4 (y4.1 a 45) := ⟨_, rfl⟩
  obtain ⟨y6, ey6⟩ : ∃ y, y = q_si y5 a 37 1 := ⟨_, rfl⟩
  have n0 : (0 : Int32).toNatClampNeg = 0 := rfl
  have n1 : (1 : Int32).toNatClampNeg = 1 := rfl
  have n2 : (2 : Int32).toNatClampNeg = 2 := rfl
  have n3 : (3 : Int32).toNatClampNeg = 3 := rfl
  have n4 : (4 : Int32).toNatClampNeg = 4 := rfl
  rw [n0, n1, n2, n3, n4, q_letE (τ9.1 a 41), q_letE (q_si τ9 (q_rf X a 36) 0 (τ9.1 a 41)), ← ey1, q_letE (y1.1 a 42), q_letE (q_si y1 (q_rf X a 36) 1 (y1.1 a 42)), ← ey2, q_letE (y2.1 a 43), q_letE (q_si y2 (q_rf X a 36) 2 (y2.1 a 43)), ← ey3, q_letE (y3.1 a 44), q_letE (q_si y3 (q_rf X a 36) 3 (y3.1 a 44)), ← ey4, q_letE (y4.1 a 45), q_letE (q_si y4 (q_rf X a 36) 4 (y4.1 a 45)), ← ey5, q_letE (q_si y5 a 37 1), ← ey6, q_letE (y6.1 a 40)]
  have ne : a ≠ q_rf X a 36 := Ne.symm n36a
  have a1 : ∀ f, y1.1 a f = τ9.1 a f := fun f => by rw [ey1]; exact q_si_ne ne f
  have a2 : ∀ f, y2.1 a f = τ9.1 a f := fun f => by rw [ey2, q_si_ne ne]; exact a1 f
  have a3 : ∀ f, y3.1 a f = τ9.1 a f := fun f => by rw [ey3, q_si_ne ne]; exact a2 f
  have a4 : ∀ f, y4.1 a f = τ9.1 a f := fun f => by rw [ey4, q_si_ne ne]; exact a3 f
  have a5 : ∀ f, y5.1 a f = τ9.1 a f := fun f => by rw [ey5, q_si_ne ne]; exact a4 f
  have a6 : ∀ f, f ≠ 37 → y6.1 a f = τ9.1 a f := fun f h => by rw [ey6, si_f h]; exact a5 f
  have a37 : y6.1 a 37 = 1 := by rw [ey6, si_eq]
  have m6 : m_c X y6 a = c1 := by
    rw [ey6, mv_cell S.1 ka]
    exact (pl_mc (fun f => by rw [ey5, q_si_ne (Ne.symm n36c), ey4, q_si_ne (Ne.symm n36c), ey3, q_si_ne (Ne.symm n36c), ey2, q_si_ne (Ne.symm n36c), ey1, q_si_ne (Ne.symm n36c)])).trans o2
  have l6 : y6.2 = τ9.2 := by rw [ey6, ey5, ey4, ey3, ey2, ey1]; rfl
  have p0 : y6.1 (q_rf X a 36) 0 = τ9.1 a 41 := by rw [ey6, q_si_ne n36a, ey5, si_f (by decide), ey4, si_f (by decide), ey3, si_f (by decide), ey2, si_f (by decide), ey1, si_eq]
  have p1 : y6.1 (q_rf X a 36) 1 = τ9.1 a 42 := by rw [ey6, q_si_ne n36a, ey5, si_f (by decide), ey4, si_f (by decide), ey3, si_f (by decide), ey2, si_eq, a1]
  have p2 : y6.1 (q_rf X a 36) 2 = τ9.1 a 43 := by rw [ey6, q_si_ne n36a, ey5, si_f (by decide), ey4, si_f (by decide), ey3, si_eq, a2]
  have p3 : y6.1 (q_rf X a 36) 3 = τ9.1 a 44 := by rw [ey6, q_si_ne n36a, ey5, si_f (by decide), ey4, si_eq, a3]
  have p4 : y6.1 (q_rf X a 36) 4 = τ9.1 a 45 := by rw [ey6, q_si_ne n36a, ey5, si_eq, a4]
  -- all together
  have q9 : y_v X (q_rf X C 8) (q_si (q_si σ9 C 16 1) C 0 0) = V1 := (pl_vo S G8 oC 0 0).trans ((pl_vo S G8 oC 16 1).trans o1)
  have kt : ∀ f, f < 38 → f ≠ 0 → f ≠ 1 → τ9.1 a f = τ.1 a f := fun f h h0 h1 => (h2.1 a f (by
    rintro (z | z | ⟨-, z, -⟩)
    · exact n0a z.symm
    · exact n8a z.symm
    · omega)).trans ((si_f h0 _).trans (si_f h1 _))
  have s0 : τ9.1 a 0 = 0 := (h2.1 a 0 (by
    rintro (z | z | ⟨-, z, -⟩)
    · exact n0a z.symm
    · exact n8a z.symm
    · omega)).trans s2
  refine ⟨⟨?_, ?_, ?_⟩, fun _ => ⟨?_, fun _ k hk => ?_⟩⟩
  · show (σ9.1 (q_rf X C 14) 0).toInt = (y6.1 a 40).toInt
    rw [a6 40 (by decide), j0]
  · show ((q_si (q_si σ9 C 16 1) C 0 0).1 C 0).toInt = (y6.1 a 0).toInt
    rw [si_eq, a6 0 (by decide), s0]
  · refine A.fr K M q9 m6 o3 o6 (fun b hb f => ?_) ?_ ?_ ?_
    · have nb : b ≠ C := fun e => by rw [e, lC] at hb; omega
      rw [q_si_ne nb, q_si_ne nb]
      refine h1.1 b f ?_
      have w0 := D.2.2.1
      rintro (z | ⟨z, -⟩ | z)
      · omega
      · have := (S.2.1 C 14 (by rw [kC]; decide))
        rw [← z, lC] at this
        have e : y_lc 1 14 = 30 := by decide
        rw [e] at this
        omega
      · exact absurd (al_T0 K) (by rw [← z]; omega)
    · rw [si_f (by decide), si_f (by decide), kCf]
    · rw [a6 24 (by decide), kt 24 (by decide) (by decide) (by decide)]
    · funext j
      show (y6.2.1 (q_rf X a 23) j.toNat).toInt = (τ.2.1 (q_rf X a 23) j.toNat).toInt
      rw [l6, h2.2.1 _ _ (fun z => z)]
      rfl
  · show ((q_si (q_si σ9 C 16 1) C 0 0).1 C 16).toInt = (y6.1 a 37).toInt
    rw [si_f (by decide), si_eq, a37]
  · show (q_si (q_si σ9 C 16 1) C 0 0).1 (q_rf X C 14) (k + 1) = y6.1 (q_rf X a 36) k
    rw [q_si_ne (Ne.symm nRC), q_si_ne (Ne.symm nRC)]
    rcases (by omega : k = 0 ∨ k = 1 ∨ k = 2 ∨ k = 3 ∨ k = 4) with e | e | e | e | e <;> subst e
    · rw [p0]; exact j1
    · rw [p1]; exact k2
    · rw [p2]; exact k3
    · rw [p3]; exact k4
    · rw [p4]; exact j5
end PH
