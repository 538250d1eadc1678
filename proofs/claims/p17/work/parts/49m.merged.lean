/-! FROM 49m.mvlay.lean.txt -/
/-! A LAYING CALLED: both -/
/-- behind a call both games are the same, and what else stands as it was -/
def mv_R (X : XW) (lb : Nat → Nat) (C a : Nat) (σ σ' τ τ' : ST) (V : Nat → Int → Int) (c : Int → Int) : Prop :=
  ∃ (V' : Nat → Int → Int) (c' : Int → Int), y_v X (q_rf X C 8) σ' = V' ∧ m_c X τ' a = c' ∧ rg V' c' ∧ (∀ (id : Nat) (i : Int), id = 1 ∨ id = 3 ∨ id = 5 ∨ id = 6 ∨ 18 ≤ id ∧ id < 23 → V' id i = V id i) ∧ (∀ j : Int, 0 ≤ j → j ≤ 4 ∨ 654 ≤ j → c' j = c j) ∧ (∀ b, lb b / 8192 ≠ 1 → b ≠ C → ∀ f, σ'.1 b f = σ.1 b f) ∧ (∀ f, f ≠ 0 → σ'.1 C f = σ.1 C f) ∧ σ'.2 = σ.2 ∧ tkl (mv_S X a) (fun _ _ => False) τ τ'
section GM
variable {X : XW} {lb : Nat → Nat} {C a : Nat} {σ τ σ1 τ1 : ST} {V V1 : Nat → Int → Int} {c c1 l : Int → Int}
theorem mv_mk (Y : y_S X lb) (G : y_G X lb (q_rf X C 8) 1) (hC : lb C / 8192 = 0) (w : y_W X lb (q_rf X C 8) 1 σ σ1 V1) (R1 : rg V1 c1) (hV : ∀ (id : Nat) (i : Int), id = 1 ∨ id = 3 ∨ id = 5 ∨ id = 6 ∨ 18 ≤ id ∧ id < 23 → V1 id i = V id i) (hc : ∀ j : Int, 0 ≤ j → j ≤ 4 ∨ 654 ≤ j → c1 j = c j) (k : Int32) (hm : m_c X τ1 a = c1) (ht : tkl (mv_S X a) (fun _ _ => False) τ τ1) : mv_R X lb C a σ (q_si σ1 C 0 k) τ τ1 V c := by
  have hC1 : lb C / 8192 ≠ 1 := by omega
  refine ⟨V1, c1, ?_, hm, R1, hV, hc, fun b b1 b2 f => ?_, fun f f0 => ?_, w.2.1, ht⟩
  · rw [← w.2.2]
    funext id i
    unfold y_v
    by_cases q : id < 25 ∧ 0 ≤ i
    · rw [if_pos q, if_pos q, q_si_ne (Ne.symm (y_gA_ne Y G q.1 hC1))]
    · rw [if_neg q, if_neg q]
  · rw [q_si_ne b2]; exact w.1 b b1 f
  · rw [si_f f0]; exact w.1 C hC1 f
theorem mv_cell (hT : q_T X) (ha : q_kd X a = 12) (f : Nat) (v : Int32) : m_c X (q_si τ a f v) a = m_c X τ a := by
  have k := (tb_k hT ha).1
  funext j
  exact congrArg Int32.toInt (q_si_ne (m_ne k ha (by decide)) _)
theorem mv_none (σ : ST) (k : Int32) : F_X11_none X σ C k = (-1, q_si σ C 0 k) := by
  unfold F_X11_none
  rw [q_letE]
theorem mv_refuse (τ : ST) (k : Int32) : F_X12_refuse X τ a k = (-1, q_si τ a 0 k) := by
  unfold F_X12_refuse
  rw [q_letE]
theorem mv_good (σ : ST) (v : Int32) : F_X11_good X σ C v = (v, q_si σ C 0 0) := by
  unfold F_X11_good
  rw [q_letE]
theorem mv_yes (σ : ST) : F_X11_yes X σ C = (1, q_si σ C 0 0) := by
  unfold F_X11_yes
  rw [q_letE]
theorem mv_no (σ : ST) (k : Int32) : F_X11_no X σ C k = (0, q_si σ C 0 k) := by
  unfold F_X11_no
  rw [q_letE]
theorem mv_noM (τ : ST) (k : Int32) : F_X12_no X τ a k = (0, q_si τ a 0 k) := by
  unfold F_X12_no
  rw [q_letE]
/-- the reference looks whether it is all in the hand -/
theorem lr_holdL (hc : m_c X τ a = c) (hl : ∀ j : Int, 0 ≤ j → j < 10 → (τ.1 (q_rf X a 28) j.toNat).toInt = l j) {P : Int} (hP : c 6 = P) (bP : 0 ≤ P ∧ P < 6) (fu : Nat) : ∀ x : Int32, (2147483647 - x.toInt).toNat < fu → 0 ≤ x.toInt → x.toInt ≤ 10 → ((∀ k : Int, x.toInt ≤ k → k < 10 → l k ≤ c (34 + 10 * P + k)) ∧ F_X12_lay_L292_5 X τ a fu x = F_X12_lay_E335_6 X τ a) ∨ ((∃ k : Int, x.toInt ≤ k ∧ k < 10 ∧ c (34 + 10 * P + k) < l k) ∧ F_X12_lay_L292_5 X τ a fu x = (-1, q_si τ a 0 9)) := by
  have f6 : (τ.1 (q_rf X a 20) (6 : Int32).toNatClampNeg).toInt = P := (gm_cell (A := 6) hc rfl).trans hP
  induction fu with
  | zero => intro x h; exact absurd h (Nat.not_lt_zero _)
  | succ fu ih =>
    intro x hf x0 x1
    rw [F_X12_lay_L292_5_s]
    unfold F_X12_lay_B292_5
    by_cases q : x.toInt < 10
    · have hh := gm_handOf hc f6 (y := x) rfl bP ⟨x0, q⟩
      have hx : (τ.1 (q_rf X a 28) x.toNatClampNeg).toInt = l x.toInt := hl x.toInt x0 q
      have ex : (x + 1).toInt = x.toInt + 1 := y_inc (by omega)
      rw [if_pos q, q_letE (τ.1 (q_rf X a 28) x.toNatClampNeg), q_letE (τ.1 (q_rf X a 20) (6 : Int32).toNatClampNeg), q_letE (F_X12_handOf X τ a (τ.1 (q_rf X a 20) (6 : Int32).toNatClampNeg) x), hh, hx]
      by_cases q2 : c (34 + 10 * P + x.toInt) < l x.toInt
      · rw [if_pos q2]
        unfold F_X12_lay_E322_7
        rw [mv_refuse]
        exact Or.inr ⟨⟨x.toInt, Int.le_refl _, q, q2⟩, rfl⟩
      · rw [if_neg q2, q_letE (x + 1)]
        rcases ih (x + 1) (by omega) (by omega) (by omega) with ⟨i1, i2⟩ | ⟨⟨k, i1, i2, i3⟩, i4⟩
        · refine Or.inl ⟨fun k k0 k1 => ?_, i2⟩
          by_cases e : k = x.toInt
          · rw [e]; omega
          · exact i1 k (by omega) k1
        · exact Or.inr ⟨⟨k, by omega, i2, i3⟩, i4⟩
    · rw [if_neg q]
      exact Or.inl ⟨fun k k0 k1 => by omega, rfl⟩
theorem mv_lay (Y : y_S X lb) (G : y_G X lb (q_rf X C 8) 1) (hC : lb C / 8192 = 0) (ha : q_kd X a = 12) (R : rg (y_v X (q_rf X C 8) σ) c) (hG : m_G c) (hc : m_c X τ a = c) (p q r s : Int32) :
    ∃ (z : Int32) (σ' : ST) (z' : Int32) (τ' : ST), F_X11_lay X σ C p q r s = (z, σ') ∧ F_X12_lay X τ a p q r s = (z', τ') ∧ z.toInt = z'.toInt ∧ (σ'.1 C 0).toInt = (τ'.1 a 0).toInt ∧ mv_R X lb C a σ σ' τ τ' (y_v X (q_rf X C 8) σ) c := by
  obtain ⟨V, hV⟩ : ∃ V, V = y_v X (q_rf X C 8) σ := ⟨_, rfl⟩
  have w : y_W X lb (q_rf X C 8) 1 σ σ V := by
    rw [hV]; exact y_W.rf
  rw [← hV] at R ⊢
  obtain ⟨b0, b2, b4, b5, b6, b7, b9, b79⟩ := hG.1
  have hT := Y.1
  have t1 := R.1.1
  have t4 := R.1.2.2.2.1
  have t5 := R.1.2.2.2.2.1
  have s2 := R.2.1.2.1
  have s3 := R.2.1.2.2.1
  have s4 := R.2.1.2.2.2
  have kn : ∀ v : Int32, (F_X11_isKindOrNone X σ C v).toInt = if ly_ok (c 0) v.toInt then 1 else 0 := fun v => by
    rw [lk_kindNone w v, t1]
  have hV0 : ∀ (id : Nat) (i : Int), id = 1 ∨ id = 3 ∨ id = 5 ∨ id = 6 ∨ 18 ≤ id ∧ id < 23 → V id i = V id i := fun _ _ _ => rfl
  have hc0 : ∀ j : Int, 0 ≤ j → j ≤ 4 ∨ 654 ≤ j → c j = c j := fun _ _ _ => rfl
  rcases lr_asked (X := X) (τ := τ) hT ha hc b0 p q r s with ⟨nok, τ1, e1, m1, k1⟩ | ⟨⟨op, oq, or_, os⟩, n, g, τ1, e1, hn, hg, m1, st1, k1, hl⟩
  · refine ⟨-1, q_si σ C 0 2, -1, q_si τ1 a 0 2, ?_, e1, rfl, by rw [si_eq, si_eq], mv_mk Y G hC w R hV0 hc0 2 ((mv_cell hT ha 0 2).trans m1) (k1.si _ (Or.inr (Or.inl ⟨rfl, Or.inl rfl⟩)))⟩
    unfold F_X11_lay
    rw [q_letE (F_X11_isKindOrNone X σ C p), kn p]
    by_cases op : ly_ok (c 0) p.toInt
    · rw [if_pos op, if_neg (by decide : ¬ (1 : Int) = 0), q_letE (F_X11_isKindOrNone X σ C q), kn q]
      by_cases oq : ly_ok (c 0) q.toInt
      · rw [if_pos oq, if_neg (by decide : ¬ (1 : Int) = 0), q_letE (F_X11_isKindOrNone X σ C r), kn r]
        by_cases or_ : ly_ok (c 0) r.toInt
        · rw [if_pos or_, if_neg (by decide : ¬ (1 : Int) = 0), q_letE (F_X11_isKindOrNone X σ C s), kn s, if_neg (fun os => nok ⟨op, oq, or_, os⟩), if_pos rfl, mv_none]
          rfl
        · rw [if_neg or_, if_pos rfl, mv_none]
          rfl
      · rw [if_neg oq, if_pos rfl, mv_none]
        rfl
    · rw [if_neg op, if_pos rfl, mv_none]
      rfl
  -- all of them kinds or none
  have m10 : ∀ v : Int, ly_ok (c 0) v → ly_ok 10 v := fun v h => by
    unfold ly_ok at h ⊢
    omega
  have np : p.toInt = -1 ∧ ly_n p.toInt = 0 ∨ p.toInt ≠ -1 ∧ ly_n p.toInt = 1 := by
    unfold ly_n
    split
    · exact Or.inl ⟨by assumption, rfl⟩
    · exact Or.inr ⟨by assumption, rfl⟩
  have nq : q.toInt = -1 ∧ ly_n q.toInt = 0 ∨ q.toInt ≠ -1 ∧ ly_n q.toInt = 1 := by
    unfold ly_n
    split
    · exact Or.inl ⟨by assumption, rfl⟩
    · exact Or.inr ⟨by assumption, rfl⟩
  have nr : r.toInt = -1 ∧ ly_n r.toInt = 0 ∨ r.toInt ≠ -1 ∧ ly_n r.toInt = 1 := by
    unfold ly_n
    split
    · exact Or.inl ⟨by assumption, rfl⟩
    · exact Or.inr ⟨by assumption, rfl⟩
  have ns : s.toInt = -1 ∧ ly_n s.toInt = 0 ∨ s.toInt ≠ -1 ∧ ly_n s.toInt = 1 := by
    unfold ly_n
    split
    · exact Or.inl ⟨by assumption, rfl⟩
    · exact Or.inr ⟨by assumption, rfl⟩
  have cls : F_X11_lay X σ C p q r s = if p.toInt ≠ -1 ∧ (q.toInt = -1 → r.toInt = -1) ∧ (r.toInt = -1 → s.toInt = -1) then F_X11_lay_J71_2 X σ C p q r s else (-1, q_si σ C 0 5) := by
    unfold F_X11_lay
    rw [q_letE (F_X11_isKindOrNone X σ C p), kn p, if_pos op, if_neg (by decide : ¬ (1 : Int) = 0), q_letE (F_X11_isKindOrNone X σ C q), kn q, if_pos oq, if_neg (by decide : ¬ (1 : Int) = 0), q_letE (F_X11_isKindOrNone X σ C r), kn r, if_pos or_, if_neg (by decide : ¬ (1 : Int) = 0), q_letE (F_X11_isKindOrNone X σ C s), kn s, if_pos os, if_neg (by decide : ¬ (1 : Int) = 0)]
    by_cases qp : p.toInt = -1
    · rw [if_pos qp, if_neg (fun z => z.1 qp), mv_none]
      rfl
    · rw [if_neg qp]
      have j54 : F_X11_lay_J54_1 X r s σ C p q = if r.toInt = -1 → s.toInt = -1 then F_X11_lay_J71_2 X σ C p q r s else (-1, q_si σ C 0 5) := by
        unfold F_X11_lay_J54_1
        by_cases qr : r.toInt = -1
        · rw [if_pos qr]
          by_cases qs : s.toInt = -1
          · rw [if_pos qs, if_pos (fun _ => qs)]
          · rw [if_neg qs, if_neg (fun z => qs (z qr)), mv_none]
            rfl
        · rw [if_neg qr, if_pos (fun z => absurd z qr)]
      by_cases qq : q.toInt = -1
      · rw [if_pos qq]
        by_cases qr : r.toInt = -1
        · rw [if_pos qr, j54]
          by_cases e : r.toInt = -1 → s.toInt = -1
          · rw [if_pos e, if_pos ⟨qp, fun _ => qr, e⟩]
          · rw [if_neg e, if_neg (fun z => e z.2.2)]
        · rw [if_neg qr, if_neg (fun z => qr (z.2.1 qq)), mv_none]
          rfl
      · rw [if_neg qq, j54]
        by_cases e : r.toInt = -1 → s.toInt = -1
        · rw [if_pos e, if_pos ⟨qp, fun z => absurd z qq, e⟩]
        · rw [if_neg e, if_neg (fun z => e z.2.2)]
  have mref : ∀ k : Int32, m_c X (q_si τ1 a 0 k) a = c := fun k => (mv_cell hT ha 0 k).trans m1
  have tref : ∀ k : Int32, tkl (mv_S X a) (fun _ _ => False) τ (q_si τ1 a 0 k) := fun k => k1.si _ (Or.inr (Or.inl ⟨rfl, Or.inl rfl⟩))
  rw [e1, cls]
  by_cases ord : ¬ (p.toInt ≠ -1 ∧ (q.toInt = -1 → r.toInt = -1) ∧ (r.toInt = -1 → s.toInt = -1))
  · rw [if_neg ord]
    refine ⟨-1, q_si σ C 0 5, -1, q_si τ1 a 0 5, rfl, ?_, rfl, by rw [si_eq, si_eq], mv_mk Y G hC w R hV0 hc0 5 (mref 5) (tref 5)⟩
    unfold F_X12_lay_E217_7
    by_cases n0 : n.toInt = 0
    · rw [if_pos n0, mv_refuse]
      rfl
    · rw [if_neg n0]
      by_cases g0 : g.toInt = 0
      · exfalso
        have h := hg.mp g0
        clear hg hl cls kn hV0 hc0 mref tref m10 e1
        omega
      · rw [if_neg g0, mv_refuse]
        rfl
  have ord' := Classical.not_not.mp ord
  rw [if_pos ord']
  have n1 : 1 ≤ n.toInt ∧ n.toInt ≤ 4 := by
    clear hg hl cls kn hV0 hc0 mref tref m10 e1
    omega
  have g0 : g.toInt = 0 := hg.mpr (by
    clear hg hl cls kn hV0 hc0 mref tref m10 e1
    omega)
  -- what is wanted
  have gn23 : ((y_gn 23 : Nat) : Int) = 10 := rfl
  obtain ⟨σ4, e4, V4, w4, v4, v23, v9⟩ : ∃ σ4 : ST, σ4 = F_X0_want X (F_X0_want X (F_X0_want X (F_X0_want X (F_X0_clearWanted X σ (q_rf X C 8)) (q_rf X C 8) p 1) (q_rf X C 8) q 1) (q_rf X C 8) r 1) (q_rf X C 8) s 1 ∧ ∃ V4 : Nat → Int → Int, y_W X lb (q_rf X C 8) 1 σ σ4 V4 ∧ (∀ (id : Nat) (i : Int), id ≠ 23 → (id ≠ 0 ∨ i ≠ 9) → V4 id i = V id i) ∧ (∀ j : Int, 0 ≤ j → j < 10 → V4 23 j = ly_l p.toInt q.toInt r.toInt s.toInt j) ∧ V4 0 9 = n.toInt := by
    refine ⟨_, rfl, ?_⟩
    have z0 : (0 : Int32).toInt = 0 := rfl
    have dc : F_X0_clearWanted X σ (q_rf X C 8) = q_si (F_X5_clear X σ (q_rf X (q_rf X C 8) 8)) (q_rf X C 8) 9 0 := by
      unfold F_X0_clearWanted
      rw [q_letE, q_letE]
    have wa := w.clear Y G (id := 23) (r := q_rf X (q_rf X C 8) 8) ⟨by decide, by decide⟩ rfl
    have wb : y_W X lb (q_rf X C 8) 1 σ (q_si (F_X5_clear X σ (q_rf X (q_rf X C 8) 8)) (q_rf X C 8) 9 0) (y_up (y_bl V 23 ((y_gn 23 : Nat) : Int) (fun _ => 0)) 0 9 0) := wa.si Y G (id := 0) (by decide) 9 0
    rw [← dc] at wb
    have x23 : ∀ j : Int, 0 ≤ j → j < 10 → y_up (y_bl V 23 ((y_gn 23 : Nat) : Int) (fun _ => 0)) 0 9 0 23 j = 0 := fun j j0 j1 => (y_up_ne (Or.inl (by decide))).trans (if_pos ⟨rfl, j0, by rw [gn23]; exact j1⟩)
    have x9 : y_up (y_bl V 23 ((y_gn 23 : Nat) : Int) (fun _ => 0)) 0 9 0 0 9 = 0 := y_up_eq _ _ _ _
    have xs : ∀ (id : Nat) (i : Int), id ≠ 23 → (id ≠ 0 ∨ i ≠ 9) → y_up (y_bl V 23 ((y_gn 23 : Nat) : Int) (fun _ => 0)) 0 9 0 id i = V id i := fun id i i23 i0 => (y_up_ne i0).trans (if_neg (fun z => i23 z.1))
    obtain ⟨Vb, hVb⟩ : ∃ v, v = y_up (y_bl V 23 ((y_gn 23 : Nat) : Int) (fun _ => 0)) 0 9 0 := ⟨_, rfl⟩
    rw [← hVb] at wb x23 x9 xs
    obtain ⟨Vp, wp, sp, p23, p9⟩ := ly_want Y G wb (m10 _ op) (fun j j0 j1 => by rw [x23 j j0 j1]; omega) (by rw [x9]; omega)
    obtain ⟨Vq, wq, sq, q23, q9⟩ := ly_want Y G wp (m10 _ oq) (fun j j0 j1 => by rw [p23 j j0 j1, x23 j j0 j1]; have := ly_1b p.toInt j; omega) (by rw [p9, x9]; omega)
    obtain ⟨Vr, wr, sr, r23, r9⟩ := ly_want Y G wq (m10 _ or_) (fun j j0 j1 => by rw [q23 j j0 j1, p23 j j0 j1, x23 j j0 j1]; have := ly_1b p.toInt j; have := ly_1b q.toInt j; omega) (by rw [q9, p9, x9]; omega)
    obtain ⟨Vs, ws, ss, s23, s9⟩ := ly_want Y G wr (m10 _ os) (fun j j0 j1 => by rw [r23 j j0 j1, q23 j j0 j1, p23 j j0 j1, x23 j j0 j1]; have := ly_1b p.toInt j; have := ly_1b q.toInt j; have := ly_1b r.toInt j; omega) (by rw [r9, q9, p9, x9]; omega)
    refine ⟨Vs, ws, fun id i i23 i0 => ?_, fun j j0 j1 => ?_, ?_⟩
    · rw [ss id i i23 i0, sr id i i23 i0, sq id i i23 i0, sp id i i23 i0, xs id i i23 i0]
    · rw [s23 j j0 j1, r23 j j0 j1, q23 j j0 j1, p23 j j0 j1, x23 j j0 j1]
      unfold ly_l
      omega
    · rw [s9, r9, q9, p9, x9, hn]; omega
  have R4 : rg V4 c := R.w hG (fun id i i23 i24 i0 => v4 id i i23 (by omega))
  have hV4 : ∀ (id : Nat) (i : Int), id = 1 ∨ id = 3 ∨ id = 5 ∨ id = 6 ∨ 18 ≤ id ∧ id < 23 → V4 id i = V id i := fun id i h => v4 id i (by omega) (by omega)
  have cref : ∀ k : Int32, mv_R X lb C a σ (q_si σ4 C 0 k) τ (q_si τ1 a 0 k) V c := fun k => mv_mk Y G hC w4 R4 hV4 hc0 k (mref k) (tref k)
  have f40 : (σ4.1 (q_rf X C 8) 9).toInt = n.toInt := (w4.rd (id := 0) (by decide) 9 rfl).trans v9
  have f41 : (σ4.1 (q_rf X (q_rf X C 8) 0) 3).toInt = c 4 := (w4.rd (id := 1) (by decide) 3 rfl).trans R4.1.2.2.2.1
  have f43 : (σ4.1 (q_rf X C 8) 7).toInt = c 7 := (w4.rd (id := 0) (by decide) 7 rfl).trans R4.2.1.2.2.2
  have f48 : (σ4.1 (q_rf X C 8) 6).toInt = c 8 := (w4.rd (id := 0) (by decide) 6 rfl).trans R4.2.1.2.2.1.1
  have f53 : (σ4.1 (q_rf X (q_rf X C 8) 0) 4).toInt = c 2 := (w4.rd (id := 1) (by decide) 4 rfl).trans R4.1.2.2.2.2.1
  have g4 : (τ1.1 (q_rf X a 20) (4 : Int32).toNatClampNeg).toInt = c 4 := gm_cell (A := 4) m1 rfl
  have g7 : (τ1.1 (q_rf X a 20) (7 : Int32).toNatClampNeg).toInt = c 7 := gm_cell (A := 7) m1 rfl
  have g8 : (τ1.1 (q_rf X a 20) (8 : Int32).toNatClampNeg).toInt = c 8 := gm_cell (A := 8) m1 rfl
  have g6 : (τ1.1 (q_rf X a 20) (6 : Int32).toNatClampNeg).toInt = c 6 := gm_cell (A := 6) m1 rfl
  unfold F_X11_lay_J71_2 F_X12_lay_E217_7
  rw [q_letE (F_X0_clearWanted X σ (q_rf X C 8)), q_letE (F_X0_want X (F_X0_clearWanted X σ (q_rf X C 8)) (q_rf X C 8) p 1), q_letE (F_X0_want X (F_X0_want X (F_X0_clearWanted X σ (q_rf X C 8)) (q_rf X C 8) p 1) (q_rf X C 8) q 1), q_letE (F_X0_want X (F_X0_want X (F_X0_want X (F_X0_clearWanted X σ (q_rf X C 8)) (q_rf X C 8) p 1) (q_rf X C 8) q 1) (q_rf X C 8) r 1), q_letE (F_X0_want X (F_X0_want X (F_X0_want X (F_X0_want X (F_X0_clearWanted X σ (q_rf X C 8)) (q_rf X C 8) p 1) (q_rf X C 8) q 1) (q_rf X C 8) r 1) (q_rf X C 8) s 1), ← e4]
  rw [q_letE (σ4.1 (q_rf X C 8) 9), q_letE (σ4.1 (q_rf X (q_rf X C 8) 0) 3), f40, f41, if_neg (by omega : ¬ n.toInt = 0), if_pos g0, q_letE (τ1.1 (q_rf X a 20) (4 : Int32).toNatClampNeg), g4]
  by_cases qm : c 4 < n.toInt
  · rw [if_pos qm, if_pos qm, mv_none, mv_refuse]
    exact ⟨-1, _, -1, _, rfl, rfl, rfl, by rw [si_eq, si_eq], cref 7⟩
  rw [if_neg qm, if_neg qm, q_letE (σ4.1 (q_rf X C 8) 7), f43, q_letE (τ1.1 (q_rf X a 20) (7 : Int32).toNatClampNeg), g7]
  by_cases q7 : c 7 = 1
  · rw [if_neg (by omega : ¬ c 7 = 0), if_pos q7, mv_none, mv_refuse]
    exact ⟨-1, _, -1, _, rfl, rfl, rfl, by rw [si_eq, si_eq], cref 9⟩
  rw [if_pos (by omega : c 7 = 0), if_neg q7, q_letE (σ4.1 (q_rf X C 8) 6), f48, q_letE (τ1.1 (q_rf X a 20) (8 : Int32).toNatClampNeg), g8]
  by_cases q8 : ¬ c 8 = -1
  · rw [if_neg q8, if_neg (by have := s3.2; omega : ¬ c 8 < 0), mv_none, mv_refuse]
    exact ⟨-1, _, -1, _, rfl, rfl, rfl, by rw [si_eq, si_eq], cref 9⟩
  have q8' := Classical.not_not.mp q8
  rw [if_pos q8', if_pos (by omega : c 8 < 0), q_letE (σ4.1 (q_rf X (q_rf X C 8) 0) 4), f53, q_letE (τ1.1 (q_rf X a 20) (6 : Int32).toNatClampNeg), g6]
  by_cases q2 : c 2 = 0
  · rw [if_pos q2, if_pos (by omega : c 6 < 0), mv_none, mv_refuse]
    exact ⟨-1, _, -1, _, rfl, rfl, rfl, by rw [si_eq, si_eq], cref 9⟩
  rw [if_neg q2, if_neg (by omega : ¬ c 6 < 0)]
  have hP : 0 ≤ c 6 ∧ c 6 < c 2 := by omega
  have p5 : V4 0 5 = c 6 := by
    have z := R4.2.1.2.1
    rw [if_neg q2] at z
    exact z
  have zero : (0 : Int32).toInt = 0 := rfl
  have ho := ly_holdL Y G w4 (N := c 0) R4.1.1 ⟨by omega, by omega⟩ p5 ⟨hP.1, by omega⟩ ((2147483647 - (0 : Int32).toInt).toNat + 1) 0 (by decide) (by decide) (by rw [zero]; omega)
  have hm := lr_holdL (X := X) (τ := τ1) (l := ly_l p.toInt q.toInt r.toInt s.toInt) m1 hl rfl ⟨hP.1, by omega⟩ ((2147483647 - (0 : Int32).toInt).toNat + 1) 0 (by decide) (by decide) (by decide)
  obtain ⟨FU, hFU⟩ : ∃ f, f = (2147483647 - (0 : Int32).toInt).toNat + 1 := ⟨_, rfl⟩
  rw [← hFU, zero] at ho hm
  -- cards of kinds that are not there are not wanted
  have lz : ∀ k : Int, c 0 ≤ k → k < 10 → ly_l p.toInt q.toInt r.toInt s.toInt k = 0 := fun k k0 k1 => by
    have h1 : ∀ v : Int, ly_ok (c 0) v → ly_1 v k = 0 := fun v h => by
      unfold ly_ok at h
      unfold ly_1
      rw [if_neg (by omega)]
    unfold ly_l
    rw [h1 _ op, h1 _ oq, h1 _ or_, h1 _ os]
    rfl
  have lnn : ∀ k : Int, 0 ≤ ly_l p.toInt q.toInt r.toInt s.toInt k := fun k => by
    have h1 := ly_1b p.toInt k
    have h2 := ly_1b q.toInt k
    have h3 := ly_1b r.toInt k
    have h4 := ly_1b s.toInt k
    unfold ly_l
    omega
  have v7 : ∀ k : Int, 0 ≤ k → k < 10 → V4 7 (10 * c 6 + k) = c (34 + 10 * c 6 + k) := fun k k0 k1 => by
    have z := R4.2.2.2.1.1 (10 * c 6 + k) (by omega) (by omega)
    have e : (34 : Int) + (10 * c 6 + k) = 34 + 10 * c 6 + k := by omega
    rw [e] at z
    exact z
  have hw : F_X0_holdsWanted X σ4 (q_rf X C 8) = F_X0_holdsWanted_L2_1 X σ4 (q_rf X C 8) ((2147483647 - (0 : Int32).toInt).toNat + 1) 0 := rfl
  rw [q_letE (F_X0_holdsWanted X σ4 (q_rf X C 8)), hw, ← hFU]
  rcases hm with ⟨hall, em⟩ | ⟨⟨k, k0, k1, kl⟩, em⟩
  · have h1 := ho.2.mpr (fun k k0 k1 => by rw [v23 k k0 (by omega), v7 k k0 (by omega)]; exact hall k k0 (by omega))
    rw [h1, if_neg (by decide : ¬ (1 : Int) = 0), em]
    have sl : m_S (ly_l p.toInt q.toInt r.toInt s.toInt) 0 10 = n.toInt := by
      rw [ly_S (m10 _ op) (m10 _ oq) (m10 _ or_) (m10 _ os), hn]
    have lo : m_lo c (ly_l p.toInt q.toInt r.toInt s.toInt) (c 6) := ⟨hG, ⟨hP.1, by omega⟩, fun k k0 k1 => ⟨lnn k, hall k k0 k1⟩, by rw [sl]; exact n1⟩
    have b79' := lo.c9
    have s80 := hG.S80 (p := c 6) (k := 10) hP.1 (by omega) (by decide) (by decide)
    have z10 : m_S c (34 + 10 * c 6) (10 : Int).toNat = m_S c (34 + 10 * c 6) 10 := rfl
    have l80 := hG.L80 b9.1 (Int.le_refl (c 9))
    have gp : gl_p V4 (ly_l p.toInt q.toInt r.toInt s.toInt) (c 6) (c 9) (c 0) := by
      refine ⟨p5, R4.1.1, ⟨hP.1, by omega⟩, ⟨by omega, by omega⟩, ⟨by omega, by omega⟩, fun t t0 t1 => ⟨v23 t t0 t1, lnn t⟩, by rw [sl]; exact n1.2, ?_, fun t t0 t1 => ⟨?_, ?_⟩, ?_⟩
      · rw [R4.2.2.2.2.1.2.1]; omega
      · rw [v7 t t0 t1]
        have := hG.h80 (p := c 6) (k := t) hP.1 (by omega) t0 t1
        omega
      · rw [R4.2.2.2.2.2.1 (c 6) t hP.1 (by omega) t0 t1]
        have := hG.A_bd (c 6) t (c 9).toNat (by omega)
        omega
      · rw [R4.2.2.2.1.2 (c 6) hP.1 (by omega)]; omega
    obtain ⟨V5, w5, gv⟩ := gm_layWanted Y G w4 gp R4.2.2.2.2.1.1
    unfold F_X12_lay_E335_6
    rw [q_letE (F_X0_layWanted X σ4 (q_rf X C 8)), q_letE (τ1.1 (q_rf X a 20) (6 : Int32).toNatClampNeg)]
    obtain ⟨c', mc, tc, gr, gG⟩ := gm_laysDown (X := X) (τ := τ1) hT ha m1 lo rfl (v1 := τ1.1 (q_rf X a 20) (6 : Int32).toNatClampNeg) g6 hl
    rw [q_letE (F_X12_laysDown X τ1 a (τ1.1 (q_rf X a 20) (6 : Int32).toNatClampNeg) (q_rf X a 28))]
    obtain ⟨σ5, e5⟩ : ∃ t, t = F_X0_layWanted X σ4 (q_rf X C 8) := ⟨_, rfl⟩
    obtain ⟨τ5, u5⟩ : ∃ t, t = F_X12_laysDown X τ1 a (τ1.1 (q_rf X a 20) (6 : Int32).toNatClampNeg) (q_rf X a 28) := ⟨_, rfl⟩
    rw [← e5] at w5 ⊢
    rw [← u5] at mc tc ⊢
    have R5 := rg.lay R4 lo rfl gv gr
    rw [q_letE (σ5.1 (q_rf X (q_rf X C 8) 2) 1), mv_good, q_letE (F_X12_heapMany X τ5 a)]
    have na0 : a ≠ q_rf X a 20 := Ne.symm (m_ne (tb_k hT ha).1 ha (by decide))
    refine ⟨_, _, _, τ5, rfl, rfl, ?_, ?_, mv_mk Y G hC w5 R5 (fun id i h => ?_) (fun j j0 h => ?_) 0 mc (k1.tr (tc.mono (fun b f z => Or.inl z) (fun _ _ z => z)))⟩
    · rw [lk_heap mc gG]
      exact (w5.rd (id := 2) (by decide) 1 rfl).trans R5.2.2.2.2.1.2.1
    · rw [si_eq, tc.1 a 0 na0, st1]
      rfl
    · rw [y_up_ne (by omega), gv.1 id i (by omega) (by omega) (by omega) (by omega) (by omega) (by omega) (by omega) (by omega)]
      exact hV4 id i h
    · exact gr.1 j j0 (by omega) (by omega) (by omega) (by omega)
  · have h1 : (F_X0_holdsWanted_L2_1 X σ4 (q_rf X C 8) FU 0).toInt = 0 := by
      rcases ho.1 with h | h
      · have z := ho.2.mp h k k0 (by
          by_cases e : c 0 ≤ k
          · have y := lz k e k1
            have x := hG.h80 (p := c 6) (k := k) hP.1 (by omega) k0 k1
            omega
          · omega)
        rw [v23 k k0 k1, v7 k k0 k1] at z
        omega
      · exact h
    rw [h1, if_pos rfl, em, mv_none]
    exact ⟨-1, _, -1, _, rfl, rfl, rfl, by rw [si_eq, si_eq], cref 9⟩
end GM
