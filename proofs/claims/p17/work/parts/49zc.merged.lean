/-! FROM 49zc.ends.lean.txt -/
/-! A ROUND READ: begin, end, what is copied -/
section RC
variable {X : XW} {lb : Nat → Nat} {R T a g : Nat} {σ τ : ST} {n : Int} {B : Int → Int}
/-- the class's script goes into the game -/
theorem rr_cp (Y : y_S X lb) (D : rd_D X lb R T) (G : y_G X lb g 1) : ∃ V' : Nat → Int → Int, y_W X lb g 1 σ (F_X8_copyFrom X σ (q_rf X g 3) (q_rf X R 8)) V' ∧ V' 3 0 = rv X R σ 0 0 ∧ V' 3 1 = rv X R σ 0 1 ∧ V' 3 2 = rv X R σ 0 2 ∧ (∀ (id : Nat) (i : Int), 18 ≤ id → id < 23 → 0 ≤ i → i < 60 → V' id i = rv X R σ (id - 17) i) ∧ ∀ (id : Nat) (i : Int), id < 3 ∨ 3 < id ∧ id < 18 ∨ 22 < id → V' id i = y_v X g σ id i := by
  have own : ∀ id, id < 7 → lb (rdA X R id) / 8192 ≠ 1 := fun id hid => by
    rw [(D.2.2.2.2 id hid).1]
    have := (rdL_o id hid).1
    omega
  have src : ∀ (ρ : ST) (V : Nat → Int → Int), y_W X lb g 1 σ ρ V → ∀ id, id < 7 → ∀ f, ρ.1 (rdA X R id) f = σ.1 (rdA X R id) f := fun ρ V w id hid f => w.1 _ (own id hid) f
  have ln : ∀ id, 1 ≤ id → id < 6 → q_ln X (rdA X R id) = 60 := fun id h0 h1 => ((D.2.2.2.2 id (by omega)).2 h0).1.trans (by rcases (by omega : id = 1 ∨ id = 2 ∨ id = 3 ∨ id = 4 ∨ id = 5) with e | e | e | e | e <;> subst e <;> rfl)
  have nb : ∀ id k, id < 7 → k < 25 → rdA X R id ≠ y_gA X g k := fun id k h0 h1 => y_gA_ne Y G h1 (own id h0)
  have rw_ : ∀ (ρ : ST) (V : Nat → Int → Int), y_W X lb g 1 σ ρ V → ∀ id, id < 7 → ∀ i : Int, 0 ≤ i → (ρ.1 (rdA X R id) i.toNat).toInt = rv X R σ id i := fun ρ V w id hid i i0 => by
    rw [src ρ V w id hid]
    unfold rv
    rw [if_pos ⟨hid, i0⟩]
  unfold F_X8_copyFrom
  have w0 : y_W X lb g 1 σ σ (y_v X g σ) := y_W.rf
  have w1 := w0.si Y G (id := 3) (by decide) 0 (σ.1 (q_rf X R 8) 0)
  rw [q_letE (σ.1 (q_rf X R 8) 0), q_letE (q_si σ (q_rf X g 3) 0 (σ.1 (q_rf X R 8) 0))]
  obtain ⟨σ1, e1⟩ : ∃ t, t = q_si σ (q_rf X g 3) 0 (σ.1 (q_rf X R 8) 0) := ⟨_, rfl⟩
  have e1' : q_si σ (y_gA X g 3) 0 (σ.1 (q_rf X R 8) 0) = σ1 := e1.symm
  rw [← e1]
  rw [e1'] at w1
  have w2 := w1.si Y G (id := 3) (by decide) 1 (σ1.1 (q_rf X R 8) 1)
  rw [q_letE (σ1.1 (q_rf X R 8) 1), q_letE (q_si σ1 (q_rf X g 3) 1 (σ1.1 (q_rf X R 8) 1))]
  obtain ⟨σ2, e2⟩ : ∃ t, t = q_si σ1 (q_rf X g 3) 1 (σ1.1 (q_rf X R 8) 1) := ⟨_, rfl⟩
  have e2' : q_si σ1 (y_gA X g 3) 1 (σ1.1 (q_rf X R 8) 1) = σ2 := e2.symm
  rw [← e2]
  rw [e2'] at w2
  have w3 := w2.si Y G (id := 3) (by decide) 2 (σ2.1 (q_rf X R 8) 2)
  rw [q_letE (σ2.1 (q_rf X R 8) 2), q_letE (q_si σ2 (q_rf X g 3) 2 (σ2.1 (q_rf X R 8) 2))]
  obtain ⟨σ3, e3⟩ : ∃ t, t = q_si σ2 (q_rf X g 3) 2 (σ2.1 (q_rf X R 8) 2) := ⟨_, rfl⟩
  have e3' : q_si σ2 (y_gA X g 3) 2 (σ2.1 (q_rf X R 8) 2) = σ3 := e3.symm
  rw [← e3]
  rw [e3'] at w3
  have c0 : (σ.1 (q_rf X R 8) 0).toInt = rv X R σ 0 0 := rw_ σ _ w0 0 (by decide) 0 (by decide)
  have c1 : (σ1.1 (q_rf X R 8) 1).toInt = rv X R σ 0 1 := rw_ σ1 _ w1 0 (by decide) 1 (by decide)
  have c2 : (σ2.1 (q_rf X R 8) 2).toInt = rv X R σ 0 2 := rw_ σ2 _ w2 0 (by decide) 2 (by decide)
  have w4 := w3.copy Y G (id := 18) (r := q_rf X (q_rf X g 3) 3) (r' := q_rf X (q_rf X R 8) 3) ⟨by decide, by decide⟩ rfl (ln 1 (by decide) (by decide)) (nb 1 18 (by decide) (by decide))
  rw [q_letE (F_X5_copyFrom X σ3 (q_rf X (q_rf X g 3) 3) (q_rf X (q_rf X R 8) 3))]
  obtain ⟨σ4, e4⟩ : ∃ t, t = F_X5_copyFrom X σ3 (q_rf X (q_rf X g 3) 3) (q_rf X (q_rf X R 8) 3) := ⟨_, rfl⟩
  rw [← e4] at w4 ⊢
  have w5 := w4.copy Y G (id := 19) (r := q_rf X (q_rf X g 3) 4) (r' := q_rf X (q_rf X R 8) 4) ⟨by decide, by decide⟩ rfl (ln 2 (by decide) (by decide)) (nb 2 19 (by decide) (by decide))
  rw [q_letE (F_X5_copyFrom X σ4 (q_rf X (q_rf X g 3) 4) (q_rf X (q_rf X R 8) 4))]
  obtain ⟨σ5, e5⟩ : ∃ t, t = F_X5_copyFrom X σ4 (q_rf X (q_rf X g 3) 4) (q_rf X (q_rf X R 8) 4) := ⟨_, rfl⟩
  rw [← e5] at w5 ⊢
  have w6 := w5.copy Y G (id := 20) (r := q_rf X (q_rf X g 3) 5) (r' := q_rf X (q_rf X R 8) 5) ⟨by decide, by decide⟩ rfl (ln 3 (by decide) (by decide)) (nb 3 20 (by decide) (by decide))
  rw [q_letE (F_X5_copyFrom X σ5 (q_rf X (q_rf X g 3) 5) (q_rf X (q_rf X R 8) 5))]
  obtain ⟨σ6, e6⟩ : ∃ t, t = F_X5_copyFrom X σ5 (q_rf X (q_rf X g 3) 5) (q_rf X (q_rf X R 8) 5) := ⟨_, rfl⟩
  rw [← e6] at w6 ⊢
  have w7 := w6.copy Y G (id := 21) (r := q_rf X (q_rf X g 3) 6) (r' := q_rf X (q_rf X R 8) 6) ⟨by decide, by decide⟩ rfl (ln 4 (by decide) (by decide)) (nb 4 21 (by decide) (by decide))
  rw [q_letE (F_X5_copyFrom X σ6 (q_rf X (q_rf X g 3) 6) (q_rf X (q_rf X R 8) 6))]
  obtain ⟨σ7, e7⟩ : ∃ t, t = F_X5_copyFrom X σ6 (q_rf X (q_rf X g 3) 6) (q_rf X (q_rf X R 8) 6) := ⟨_, rfl⟩
  rw [← e7] at w7 ⊢
  have w8 := w7.copy Y G (id := 22) (r := q_rf X (q_rf X g 3) 7) (r' := q_rf X (q_rf X R 8) 7) ⟨by decide, by decide⟩ rfl (ln 5 (by decide) (by decide)) (nb 5 22 (by decide) (by decide))
  rw [q_letE (F_X5_copyFrom X σ7 (q_rf X (q_rf X g 3) 7) (q_rf X (q_rf X R 8) 7))]
  have n60 : ∀ k, k = 18 ∨ k = 19 ∨ k = 20 ∨ k = 21 ∨ k = 22 → ((y_gn k : Nat) : Int) = 60 := fun k h => by rcases h with e | e | e | e | e <;> subst e <;> rfl
  refine ⟨_, w8, ?_, ?_, ?_, fun id i h0 h1 i0 i1 => ?_, fun id i h => ?_⟩
  · rw [y_bl_ne (by decide), y_bl_ne (by decide), y_bl_ne (by decide), y_bl_ne (by decide), y_bl_ne (by decide), y_up_ne (Or.inr (by decide)), y_up_ne (Or.inr (by decide))]
    exact (y_up_eq _ _ _ _).trans c0
  · rw [y_bl_ne (by decide), y_bl_ne (by decide), y_bl_ne (by decide), y_bl_ne (by decide), y_bl_ne (by decide), y_up_ne (Or.inr (by decide))]
    exact (y_up_eq _ _ _ _).trans c1
  · rw [y_bl_ne (by decide), y_bl_ne (by decide), y_bl_ne (by decide), y_bl_ne (by decide), y_bl_ne (by decide)]
    exact (y_up_eq _ _ _ _).trans c2
  · rcases (by omega : id = 18 ∨ id = 19 ∨ id = 20 ∨ id = 21 ∨ id = 22) with e | e | e | e | e <;> subst e
    · rw [y_bl_ne (by decide), y_bl_ne (by decide), y_bl_ne (by decide), y_bl_ne (by decide), y_bl_in i0 (by rw [n60 18 (by decide)]; exact i1)]
      exact rw_ σ3 _ w3 1 (by decide) i i0
    · rw [y_bl_ne (by decide), y_bl_ne (by decide), y_bl_ne (by decide), y_bl_in i0 (by rw [n60 19 (by decide)]; exact i1)]
      exact rw_ σ4 _ w4 2 (by decide) i i0
    · rw [y_bl_ne (by decide), y_bl_ne (by decide), y_bl_in i0 (by rw [n60 20 (by decide)]; exact i1)]
      exact rw_ σ5 _ w5 3 (by decide) i i0
    · rw [y_bl_ne (by decide), y_bl_in i0 (by rw [n60 21 (by decide)]; exact i1)]
      exact rw_ σ6 _ w6 4 (by decide) i i0
    · rw [y_bl_in i0 (by rw [n60 22 (by decide)]; exact i1)]
      exact rw_ σ7 _ w7 5 (by decide) i i0
  · rw [y_bl_ne (by omega), y_bl_ne (by omega), y_bl_ne (by omega), y_bl_ne (by omega), y_bl_ne (by omega), y_up_ne (Or.inl (by omega)), y_up_ne (Or.inl (by omega)), y_up_ne (Or.inl (by omega))]
/-- the class begins -/
theorem rr_beg (D : rd_D X lb R T) (hTl : q_ln X T = 900) {v : Int32} (hv : v.toInt = n) (hn : 0 ≤ n ∧ n ≤ 900) (hB : ∀ p : Int, 0 ≤ p → p < n → (σ.1 T p.toNat).toInt = B p ∧ -128 ≤ B p ∧ B p ≤ 127) (r3 : Nat) :
    ∃ (ρ : ST) (U : Nat → Int → Int), F_X4_takes X σ R T v r3 = F_X4_takes_L21_1 X R r3 ((2147483647 - (0 : Int32).toInt).toNat + 1) 0 (F_X3_advance X ρ R) ∧ rd_S X R T ρ n B U 0 ∧ U 0 0 = 0 ∧ U 0 1 = 0 ∧ U 0 2 = 0 ∧ (ρ.1 R 3).toInt = 0 ∧ (ρ.1 R 6).toInt = 0 ∧ (ρ.1 R 7).toInt = -1 ∧ ∀ b, b ≠ R → (∀ i, i < 7 → b ≠ rdA X R i) → ∀ f, ρ.1 b f = σ.1 b f := by
  have nR : ∀ id, id < 7 → rdA X R id ≠ R ∧ rdA X R id ≠ T := fun id h => D.nR h
  have n0 := nR 0 (by decide)
  have hTR : T ≠ R := m_ne D.2.2.1 D.1 (by decide)
  unfold F_X4_takes F_X8_clear
  rw [q_letE (q_si σ (q_rf X R 8) 0 0), q_letE (q_si (q_si σ (q_rf X R 8) 0 0) (q_rf X R 8) 1 0), q_letE (q_si (q_si (q_si σ (q_rf X R 8) 0 0) (q_rf X R 8) 1 0) (q_rf X R 8) 2 0), q_letE (q_si (q_si (q_si σ (q_rf X R 8) 0 0) (q_rf X R 8) 1 0) (q_rf X R 8) 2 0), q_letE (q_si (q_si (q_si (q_si σ (q_rf X R 8) 0 0) (q_rf X R 8) 1 0) (q_rf X R 8) 2 0) R 10 0)]
  obtain ⟨σ3, e3⟩ : ∃ t, t = q_si (q_si (q_si (q_si σ (q_rf X R 8) 0 0) (q_rf X R 8) 1 0) (q_rf X R 8) 2 0) R 10 0 := ⟨_, rfl⟩
  rw [← e3]
  have r8 : q_rf X R 8 = rdA X R 0 := rfl
  have fr : ∀ b, b ≠ R → b ≠ rdA X R 0 → ∀ f, σ3.1 b f = σ.1 b f := fun b b1 b2 f => by
    rw [e3, q_si_ne b1, r8, q_si_ne b2, q_si_ne b2, q_si_ne b2]
  obtain ⟨ρ, e, E, c3, c6, c7, t⟩ := tc_start (σ := σ3) (D := R) hTl hTR hv hn (fun p p0 p1 => by rw [fr T hTR (Ne.symm n0.2)]; exact hB p p0 p1)
  rw [e, q_letE]
  have tR : ∀ b, b ≠ R → ∀ f, ρ.1 b f = σ3.1 b f := fun b hb f => t.1 b f (fun z => hb z.1)
  have cu : ∀ i : Nat, i = 0 ∨ i = 1 ∨ i = 2 → rv X R ρ 0 (i : Int) = 0 := fun i hi => by
    rw [← rv_n (by decide) i, tR _ n0.1, e3, q_si_ne n0.1, r8]
    rcases hi with h | h | h <;> subst h
    · rw [si_f (by decide), si_f (by decide), si_eq]; rfl
    · rw [si_f (by decide), si_eq]; rfl
    · rw [si_eq]; rfl
  refine ⟨ρ, rv X R ρ, rfl, ⟨E, rfl, ?_⟩, cu 0 (by decide), cu 1 (by decide), cu 2 (by decide), c3, c6, c7, fun b b1 b2 f => ?_⟩
  · rw [t.1 R 10 (fun z => absurd z.2 (by decide)), e3, si_eq]
    rfl
  · rw [tR b b1, fr b b1 (b2 0 (by decide))]
/-- the reference's round ends with a fault -/
theorem rr_end0 (h : 0 < (τ.1 a 12).toInt) : ∃ τ' : ST, F_X12_round_J50_2 X τ a = (-1, τ') ∧ τ'.1 a 10 = τ.1 a 12 ∧ τ'.1 a 11 = τ.1 a 13 ∧ (τ'.1 a 0).toInt = 10 ∧ tkl (fun b f => b = a ∧ (f = 0 ∨ f = 10 ∨ f = 11)) (fun _ _ => False) τ τ' := by
  have e12 : (q_si τ a 10 (τ.1 a 12)).1 a 12 = τ.1 a 12 := si_f (by decide) a
  have e12' : (q_si (q_si τ a 10 (τ.1 a 12)) a 11 ((q_si τ a 10 (τ.1 a 12)).1 a 13)).1 a 12 = τ.1 a 12 := (si_f (by decide) a).trans e12
  unfold F_X12_round_J50_2 F_X12_isWell F_X12_no
  rw [q_letE (τ.1 a 12), q_letE (q_si τ a 10 (τ.1 a 12)), q_letE ((q_si τ a 10 (τ.1 a 12)).1 a 12), e12, if_neg (by omega), q_letE, q_letE, q_letE, e12', if_neg (by omega), q_letE, q_biP (0 : Int32) (q_si (q_si (q_si τ a 10 (τ.1 a 12)) a 11 ((q_si τ a 10 (τ.1 a 12)).1 a 13)) a 0 10), if_pos (by decide : (0 : Int32).toInt = 0), q_biP (0 : Int32), if_pos (by decide : (0 : Int32).toInt = 0)]
  refine ⟨_, rfl, ?_, ?_, ?_, ?_⟩
  · rw [si_f (by decide), si_f (by decide), si_eq]
  · rw [si_f (by decide), si_eq, si_f (by decide)]
  · rw [si_eq]
    rfl
  · exact ((tkl.rf.si _ ⟨rfl, Or.inr (Or.inl rfl)⟩).si _ ⟨rfl, Or.inr (Or.inr rfl)⟩).si _ ⟨rfl, Or.inl rfl⟩
/-- the steps go to their place -/
theorem rr_L82 (hT : q_T X) (ha : q_kd X a = 12) {s : Int} (hs : 0 ≤ s ∧ s ≤ 30) (fu : Nat) : ∀ (x : Int32) (τ : ST), (τ.1 a 27).toInt = s → 0 ≤ x.toInt → x.toInt ≤ 9 * s → (9 * s - x.toInt).toNat < fu → ∃ (z : Int32) (τ' : ST), F_X12_round_L82_3 X a fu x τ = (z, τ') ∧ z.toInt = s ∧ tkl (fun b _ => b = q_rf X a 20) (fun _ _ => False) τ τ' ∧ ∀ j : Int, 0 ≤ j → m_c X τ' a j = if 656 + x.toInt ≤ j ∧ j < 656 + 9 * s then m_c X τ a (j + 3720) else m_c X τ a j := by
  have na : a ≠ q_rf X a 20 := Ne.symm (m_ne (tb_k hT ha).1 ha (by decide))
  have e9 : (9 : Int32).toInt = 9 := rfl
  have one : (1 : Int32).toInt = 1 := rfl
  have e656 : (656 : Int32).toInt = 656 := rfl
  have e4376 : (4376 : Int32).toInt = 4376 := rfl
  induction fu with
  | zero => intro x τ _ _ _ h; omega
  | succ fu ih =>
    intro x τ h27 h0 h1 hf
    have e99 : ((9 : Int32) * τ.1 a 27).toInt = 9 * s := by rw [ar_mul, e9, h27, ar_wr (by omega) (by omega)]
    rw [F_X12_round_L82_3_s]
    unfold F_X12_round_B82_3
    rw [q_letE (τ.1 a 27), q_letE ((9 : Int32) * τ.1 a 27), e99]
    by_cases q : x.toInt < 9 * s
    · rw [if_pos q, q_letE ((656 : Int32) + x), q_letE ((4376 : Int32) + x), q_letE (τ.1 (q_rf X a 20) ((4376 : Int32) + x).toNatClampNeg)]
      have i1 : ((656 : Int32) + x).toInt = 656 + x.toInt := by rw [ar_add, e656, ar_wr (by omega) (by omega)]
      have i2 : ((4376 : Int32) + x).toInt = 4376 + x.toInt := by rw [ar_add, e4376, ar_wr (by omega) (by omega)]
      have i3 : (x + 1).toInt = x.toInt + 1 := by rw [ar_add, one, ar_wr (by omega) (by omega)]
      have val := m_rd (X := X) (σ := τ) (a := a) (i := (4376 : Int32) + x) (A := 4376 + x.toInt) rfl i2
      obtain ⟨f, hf7⟩ : ∃ f, f = τ.1 (q_rf X a 20) ((4376 : Int32) + x).toNatClampNeg := ⟨_, rfl⟩
      rw [← hf7] at val ⊢
      have mc := m_c_up (X := X) (a := a) (τ := τ) (656 + x.toInt) (by omega) (v := f) i1
      rw [q_letE (q_si τ (q_rf X a 20) ((656 : Int32) + x).toNatClampNeg f), q_letE (x + 1)]
      have t1 : tkl (fun b _ => b = q_rf X a 20) (fun _ _ => False) τ (q_si τ (q_rf X a 20) ((656 : Int32) + x).toNatClampNeg f) := tkl.rf.si _ rfl
      obtain ⟨τ1, e1⟩ : ∃ t, t = q_si τ (q_rf X a 20) ((656 : Int32) + x).toNatClampNeg f := ⟨_, rfl⟩
      rw [← e1] at mc t1 ⊢
      obtain ⟨z, τ', y1, y2, y3, y4⟩ := ih (x + 1) τ1 (by rw [t1.1 a 27 na]; exact h27) (by omega) (by omega) (by omega)
      refine ⟨z, τ', y1, y2, t1.tr y3, fun j j0 => ?_⟩
      rw [y4 j j0, i3, mc]
      by_cases q1 : 656 + (x.toInt + 1) ≤ j ∧ j < 656 + 9 * s
      · rw [if_pos q1, if_pos (by omega), m_up_ne (by omega)]
      · rw [if_neg q1]
        by_cases q2 : j = 656 + x.toInt
        · rw [if_pos (by omega), q2, m_up_eq, val]
          congr 1
          omega
        · rw [if_neg (by omega), m_up_ne q2]
    · rw [if_neg q]
      unfold F_X12_round_E119_4
      rw [q_letE]
      exact ⟨_, _, rfl, h27, tkl.rf, fun j j0 => by rw [if_neg (by omega)]⟩
/-- the reference's round ends well -/
theorem rr_end1 (hT : q_T X) (ha : q_kd X a = 12) (h : (τ.1 a 12).toInt = 0) {s : Int} (hs : 0 ≤ s ∧ s ≤ 30) (h27 : (τ.1 a 27).toInt = s) : ∃ (z : Int32) (τ' : ST), F_X12_round_J50_2 X τ a = (z, τ') ∧ z.toInt = s ∧ (τ'.1 a 10).toInt = 0 ∧ (τ'.1 a 11).toInt = -1 ∧ tkl (fun b f => b = q_rf X a 20 ∨ b = a ∧ (f = 10 ∨ f = 11)) (fun _ _ => False) τ τ' ∧
    m_c X τ' a 654 = 1 ∧ m_c X τ' a 655 = s ∧ ∀ j : Int, 0 ≤ j → j ≠ 654 → j ≠ 655 → m_c X τ' a j = if 656 ≤ j ∧ j < 656 + 9 * s then m_c X τ a (j + 3720) else m_c X τ a j := by
  have na : a ≠ q_rf X a 20 := Ne.symm (m_ne (tb_k hT ha).1 ha (by decide))
  have m1 : ((-1) : Int32).toInt = -1 := rfl
  have e12 : (q_si τ a 10 (τ.1 a 12)).1 a 12 = τ.1 a 12 := si_f (by decide) a
  have e12' : (q_si (q_si τ a 10 (τ.1 a 12)) a 11 (-1)).1 a 12 = τ.1 a 12 := (si_f (by decide) a).trans e12
  unfold F_X12_round_J50_2 F_X12_isWell
  rw [q_letE (τ.1 a 12), q_letE (q_si τ a 10 (τ.1 a 12)), q_letE ((q_si τ a 10 (τ.1 a 12)).1 a 12), e12, if_pos h, q_letE (q_si (q_si τ a 10 (τ.1 a 12)) a 11 (-1)), q_letE ((q_si (q_si τ a 10 (τ.1 a 12)) a 11 (-1)).1 a 12), e12', if_pos h, q_biP (1 : Int32) (q_si (q_si τ a 10 (τ.1 a 12)) a 11 (-1)), if_neg (by decide : ¬ (1 : Int32).toInt = 0)]
  have t1 : tkl (fun b f => b = q_rf X a 20 ∨ b = a ∧ (f = 10 ∨ f = 11)) (fun _ _ => False) τ (q_si (q_si τ a 10 (τ.1 a 12)) a 11 (-1)) := (tkl.rf.si _ (Or.inr ⟨rfl, Or.inl rfl⟩)).si _ (Or.inr ⟨rfl, Or.inr rfl⟩)
  have d10 : ((q_si (q_si τ a 10 (τ.1 a 12)) a 11 (-1)).1 a 10).toInt = 0 := by rw [si_f (by decide), si_eq]; exact h
  have d11 : ((q_si (q_si τ a 10 (τ.1 a 12)) a 11 (-1)).1 a 11).toInt = -1 := by rw [si_eq]; exact m1
  have mc1 : m_c X (q_si (q_si τ a 10 (τ.1 a 12)) a 11 (-1)) a = m_c X τ a := (mv_cell hT ha 11 (-1)).trans (mv_cell hT ha 10 _)
  have d27 : ((q_si (q_si τ a 10 (τ.1 a 12)) a 11 (-1)).1 a 27).toInt = s := by rw [si_f (by decide), si_f (by decide)]; exact h27
  obtain ⟨τ1, e1⟩ : ∃ t, t = q_si (q_si τ a 10 (τ.1 a 12)) a 11 (-1) := ⟨_, rfl⟩
  rw [← e1] at t1 d10 d11 mc1 d27 ⊢
  have mc2 := m_c_up (X := X) (a := a) (τ := τ1) 654 (by decide) (i := 654) (v := 1) rfl
  have t2 := t1.si (a := q_rf X a 20) (f := (654 : Int32).toNatClampNeg) (1 : Int32) (Or.inl rfl)
  rw [q_letE (q_si τ1 (q_rf X a 20) (654 : Int32).toNatClampNeg 1)]
  have f27 : (q_si τ1 (q_rf X a 20) (654 : Int32).toNatClampNeg 1).1 a 27 = τ1.1 a 27 := q_si_ne na _
  rw [q_letE ((q_si τ1 (q_rf X a 20) (654 : Int32).toNatClampNeg 1).1 a 27), f27]
  have a10 : ((q_si τ1 (q_rf X a 20) (654 : Int32).toNatClampNeg 1).1 a 10) = τ1.1 a 10 := q_si_ne na _
  have a11 : ((q_si τ1 (q_rf X a 20) (654 : Int32).toNatClampNeg 1).1 a 11) = τ1.1 a 11 := q_si_ne na _
  obtain ⟨τ2, e2⟩ : ∃ t, t = q_si τ1 (q_rf X a 20) (654 : Int32).toNatClampNeg 1 := ⟨_, rfl⟩
  rw [← e2] at mc2 t2 f27 a10 a11 ⊢
  have mc3 := m_c_up (X := X) (a := a) (τ := τ2) 655 (by decide) (i := 655) (v := τ1.1 a 27) rfl
  have t3 := t2.si (a := q_rf X a 20) (f := (655 : Int32).toNatClampNeg) (τ1.1 a 27) (Or.inl rfl)
  rw [q_letE (q_si τ2 (q_rf X a 20) (655 : Int32).toNatClampNeg (τ1.1 a 27))]
  have g27 : ((q_si τ2 (q_rf X a 20) (655 : Int32).toNatClampNeg (τ1.1 a 27)).1 a 27).toInt = s := by rw [q_si_ne na, f27]; exact d27
  have b10 : ((q_si τ2 (q_rf X a 20) (655 : Int32).toNatClampNeg (τ1.1 a 27)).1 a 10).toInt = 0 := by rw [q_si_ne na, a10]; exact d10
  have b11 : ((q_si τ2 (q_rf X a 20) (655 : Int32).toNatClampNeg (τ1.1 a 27)).1 a 11).toInt = -1 := by rw [q_si_ne na, a11]; exact d11
  obtain ⟨τ3, e3⟩ : ∃ t, t = q_si τ2 (q_rf X a 20) (655 : Int32).toNatClampNeg (τ1.1 a 27) := ⟨_, rfl⟩
  rw [← e3] at mc3 t3 g27 b10 b11 ⊢
  have z0 : (0 : Int32).toInt = 0 := rfl
  obtain ⟨z, τ', y1, y2, y3, y4⟩ := rr_L82 hT ha hs ((2147483647 - (0 : Int32).toInt).toNat + 1) 0 τ3 g27 (by decide) (by omega) (by omega)
  have o1 : (1 : Int32).toInt = 1 := rfl
  rw [mc2, mc1, o1, d27] at mc3
  rw [mc3, z0] at y4
  refine ⟨z, τ', y1, y2, ?_, ?_, t3.tr (y3.mono (fun _ _ z => Or.inl z) (fun _ _ z => z)), ?_, ?_, fun j j0 j1 j2 => ?_⟩
  · rw [y3.1 a 10 na]; exact b10
  · rw [y3.1 a 11 na]; exact b11
  · rw [y4 654 (by decide), if_neg (by omega), m_up_ne (by decide), m_up_eq]
  · rw [y4 655 (by decide), if_neg (by omega), m_up_eq]
  · rw [y4 j j0]
    by_cases q : 656 ≤ j ∧ j < 656 + 9 * s
    · rw [if_pos (by omega), if_pos q, m_up_ne (by omega), m_up_ne (by omega)]
    · rw [if_neg (by omega), if_neg q, m_up_ne j2, m_up_ne j1]
end RC
