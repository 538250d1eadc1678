/-! OBSERVERS: who will say a kind first -/
theorem fa_hit {c : Int → Int} (hG : m_G c) (h3 : 0 ≤ c 3 ∧ c 3 ≤ 2) (h : c 3 ≠ 2) {v : Int} (hv : 0 ≤ v ∧ v < c 0) (s : Int) : ∃ t, s ≤ t ∧ t < s + c 0 ∧ fa_K c t = v := by
  have h0 := hG.1.1
  by_cases q : c 3 = 0
  · have a1 := Int.emod_nonneg (v - c 5 - s) (by omega : c 0 ≠ 0)
    have a2 := Int.emod_lt_of_pos (v - c 5 - s) (by omega : 0 < c 0)
    refine ⟨s + (v - c 5 - s) % c 0, by omega, by omega, ?_⟩
    unfold fa_K
    rw [if_neg h, if_pos q, ← Int.add_assoc, Int.add_emod_emod]
    have e : c 5 + s + (v - c 5 - s) = v := by omega
    rw [e]
    exact Int.emod_eq_of_lt hv.1 hv.2
  · have a1 := Int.emod_nonneg (c 5 - v - s) (by omega : c 0 ≠ 0)
    have a2 := Int.emod_lt_of_pos (c 5 - v - s) (by omega : 0 < c 0)
    refine ⟨s + (c 5 - v - s) % c 0, by omega, by omega, ?_⟩
    unfold fa_K
    have e0 : c 5 - (s + (c 5 - v - s) % c 0) = c 5 - s - (c 5 - v - s) % c 0 := by omega
    rw [if_neg h, if_neg q, e0, Int.sub_emod_emod]
    have e : c 5 - s - (c 5 - v - s) = v := by omega
    rw [e]
    exact Int.emod_eq_of_lt hv.1 hv.2
theorem fa_who {c : Int → Int} (hG : m_G c) (h2 : 1 ≤ c 2) {i : Int} (hi : 0 ≤ i) : fa_k c ((c 6 + c 7 + i) % c 2) (i / c 2) = fa_K c (i + c 7) := by
  unfold fa_k fa_w
  have e1 : (c 6 + c 7 + i) % c 2 - c 6 - c 7 = (c 6 + c 7 + i) % c 2 - (c 6 + c 7) := by omega
  have e2 : c 6 + c 7 + i - (c 6 + c 7) = i := by omega
  rw [e1, Int.emod_sub_emod, e2]
  have e3 := Int.mul_ediv_add_emod i (c 2)
  rw [Int.mul_comm] at e3
  congr 1
  omega
section QJ
variable {X : XW} {lb : Nat → Nat} {C a : Nat} {σ τ : ST} {n : Int}
theorem sy_eq (σ : ST) (v : Int32) (fu : Nat) : F_X11_sayer_L52_4 X σ C v fu = F_X11_sayer_L52_1 X σ C v fu := by
  induction fu with
  | zero => rfl
  | succ fu ih =>
    show F_X11_sayer_B52_4 X σ C v (F_X11_sayer_L52_4 X σ C v fu) = F_X11_sayer_B52_1 X σ C v (F_X11_sayer_L52_1 X σ C v fu)
    rw [ih]
    rfl
theorem sy_noC (K : al_C X lb C a) (A : al_R X C a σ τ) (M : m_M (m_c X τ a) (τ.1 a 24).toInt n) {v : Int32} (h : ∀ t : Int, fa_K (m_c X τ a) t ≠ v.toInt) (fu : Nat) : ∀ x : Int32, (2147483647 - x.toInt).toNat < fu → 0 ≤ x.toInt → F_X11_sayer_L52_1 X σ C v fu x = q_bi (F_X11_none X σ C 8) (fun r s => (r, s)) := by
  obtain ⟨kC, ka, S, lC, G8, G9, GM⟩ := id K
  have w : y_W X lb (q_rf X C 8) 1 σ σ (y_v X (q_rf X C 8) σ) := y_W.rf
  have h0 := M.1.1.1.1
  have f0 : (σ.1 (q_rf X (q_rf X C 8) 0) 0).toInt = m_c X τ a 0 := (w.rd (id := 1) (by decide) 0 rfl).trans A.1.1.1.1
  have f4 : (σ.1 (q_rf X C 8) 4).toInt = m_c X τ a 5 := (w.rd (id := 0) (by decide) 4 rfl).trans A.1.1.2.1.1
  induction fu with
  | zero => intro x h; exact absurd h (Nat.not_lt_zero _)
  | succ fu ih =>
    intro x hf x0
    rw [F_X11_sayer_L52_1_s]
    unfold F_X11_sayer_B52_1
    rw [q_letE (σ.1 (q_rf X (q_rf X C 8) 0) 0), f0]
    by_cases q : m_c X τ a 0 < x.toInt
    · rw [if_pos q]
      rfl
    · have e1 : (x + 1).toInt = x.toInt + 1 := y_inc (by omega)
      have ka' := fa_kindAfter S G8 (rfl : y_v X (q_rf X C 8) σ = _) A.1.1 M.1.1 (x := σ.1 (q_rf X C 8) 4) (y := x) f4 rfl ⟨x0, by omega⟩
      rw [if_neg q, q_letE (σ.1 (q_rf X C 8) 4), q_letE (F_X6_kindAfter X σ (q_rf X (q_rf X C 8) 0) (σ.1 (q_rf X C 8) 4) x), ka', if_neg (h x.toInt), q_letE (x + 1)]
      exact ih _ (by omega) (by omega)
/-- the reference's step: who, and what falls to them -/
theorem sy_stepM (K : al_C X lb C a) (A : al_R X C a σ τ) (M : m_M (m_c X τ a) (τ.1 a 24).toInt n) {τ2 : ST} (m2 : m_c X τ2 a = m_c X τ a) (v i : Int32) (h2 : 1 ≤ m_c X τ a 2) (i0 : 0 ≤ i.toInt) (ic : i.toInt < m_c X τ a 0 * m_c X τ a 2) (Bf : Int32 → Int32 × ST) : ∃ z : Int32, z.toInt = (m_c X τ a 6 + m_c X τ a 7 + i.toInt) % m_c X τ a 2 ∧ F_X12_sayer_B26_1 X τ2 a v Bf i = if fa_K (m_c X τ a) (i.toInt + m_c X τ a 7) = v.toInt then (z, τ2) else Bf (i + 1) := by
  obtain ⟨kC, ka, S, lC, G8, G9, GM⟩ := id K
  obtain ⟨b0, b2, b4, b5, b6, b7, b9, b79⟩ := M.1.1.1
  have one : (1 : Int32).toInt = 1 := rfl
  have mm := m_mulI (a := m_c X τ a 0) (A := 10) (b := m_c X τ a 2) (B := 6) (by omega) b0.2 (by omega) b2.2
  have g0 : (τ2.1 (q_rf X a 20) (0 : Int32).toNatClampNeg).toInt = m_c X τ a 0 := gm_cell (A := 0) m2 rfl
  have g2 : (τ2.1 (q_rf X a 20) (2 : Int32).toNatClampNeg).toInt = m_c X τ a 2 := gm_cell (A := 2) m2 rfl
  have g6 : (τ2.1 (q_rf X a 20) (6 : Int32).toNatClampNeg).toInt = m_c X τ a 6 := gm_cell (A := 6) m2 rfl
  have g7 : (τ2.1 (q_rf X a 20) (7 : Int32).toNatClampNeg).toInt = m_c X τ a 7 := gm_cell (A := 7) m2 rfl
  have z10 : (τ2.1 (q_rf X a 20) (0 : Int32).toNatClampNeg * τ2.1 (q_rf X a 20) (2 : Int32).toNatClampNeg).toInt = m_c X τ a 0 * m_c X τ a 2 := by rw [ar_mul, g0, g2, ar_wr (by omega) (by omega)]
  have md : ∀ (z : Int32) (y : Int), z.toInt = y → 0 ≤ y → (z % τ2.1 (q_rf X a 20) (2 : Int32).toNatClampNeg).toInt = y % m_c X τ a 2 := fun z y h1 h2 => by
    rw [Int32.toInt_mod, h1, g2, Int.tmod_eq_emod_of_nonneg h2]
  have dv := m_div (x := i) (y := τ2.1 (q_rf X a 20) (2 : Int32).toNatClampNeg) rfl i0 (by rw [g2]; omega)
  rw [g2] at dv
  have d60 : i.toInt / m_c X τ a 2 ≤ 60 := by
    have := Int.ediv_le_self (m_c X τ a 2) i0
    omega
  have w := fa_who M.1.1 h2 i0
  obtain ⟨p, hp⟩ : ∃ p, p = (m_c X τ a 6 + m_c X τ a 7 + i.toInt) % m_c X τ a 2 := ⟨_, rfl⟩
  have pb : 0 ≤ p ∧ p < m_c X τ a 2 := by
    rw [hp]
    exact ⟨Int.emod_nonneg _ (by omega), Int.emod_lt_of_pos _ (by omega)⟩
  rw [← hp] at w ⊢
  have J : ∀ z : Int32, z.toInt = p → F_X12_sayer_J91_3 X τ2 a i v Bf z = if fa_K (m_c X τ a) (i.toInt + m_c X τ a 7) = v.toInt then (z, τ2) else Bf (i + 1) := fun z hz => by
    unfold F_X12_sayer_J91_3
    have ft := fa_fallsTo S M.1.1 A.1.1.1.2.2.2.2.2 m2 (v := z) (x := i / τ2.1 (q_rf X a 20) (2 : Int32).toNatClampNeg) hz pb dv.2.2 ⟨by omega, by omega⟩
    rw [q_letE (τ2.1 (q_rf X a 20) (2 : Int32).toNatClampNeg), q_letE (i / τ2.1 (q_rf X a 20) (2 : Int32).toNatClampNeg), q_letE (F_X12_fallsTo X τ2 a z (i / τ2.1 (q_rf X a 20) (2 : Int32).toNatClampNeg)), ft, w, q_letE (i + 1)]
  unfold F_X12_sayer_B26_1
  rw [q_letE (τ2.1 (q_rf X a 20) (0 : Int32).toNatClampNeg), q_letE (τ2.1 (q_rf X a 20) (2 : Int32).toNatClampNeg), q_letE (τ2.1 (q_rf X a 20) (0 : Int32).toNatClampNeg * τ2.1 (q_rf X a 20) (2 : Int32).toNatClampNeg), z10, if_pos ic, q_letE (τ2.1 (q_rf X a 20) (7 : Int32).toNatClampNeg), g7]
  by_cases q7 : m_c X τ a 7 = 1
  · have e : (τ2.1 (q_rf X a 20) (6 : Int32).toNatClampNeg + 1 + i).toInt = m_c X τ a 6 + m_c X τ a 7 + i.toInt := by
      rw [ar_add, ar_add, g6, one, ar_wr (n := m_c X τ a 6 + 1) (by omega) (by omega), ar_wr (by omega) (by omega)]
      omega
    have z := (md _ _ e (by omega)).trans hp.symm
    refine ⟨_, z, ?_⟩
    rw [if_pos q7, q_letE (τ2.1 (q_rf X a 20) (6 : Int32).toNatClampNeg), q_letE (τ2.1 (q_rf X a 20) (6 : Int32).toNatClampNeg + 1), q_letE (τ2.1 (q_rf X a 20) (6 : Int32).toNatClampNeg + 1 + i), q_letE (τ2.1 (q_rf X a 20) (2 : Int32).toNatClampNeg), q_letE]
    exact J _ z
  · have e : (τ2.1 (q_rf X a 20) (6 : Int32).toNatClampNeg + i).toInt = m_c X τ a 6 + m_c X τ a 7 + i.toInt := by
      rw [ar_add, g6, ar_wr (by omega) (by omega)]
      omega
    have z := (md _ _ e (by omega)).trans hp.symm
    refine ⟨_, z, ?_⟩
    rw [if_neg q7, q_letE (τ2.1 (q_rf X a 20) (6 : Int32).toNatClampNeg), q_letE (τ2.1 (q_rf X a 20) (6 : Int32).toNatClampNeg + i), q_letE (τ2.1 (q_rf X a 20) (2 : Int32).toNatClampNeg), q_letE]
    exact J _ z
theorem sy_endM (M : m_M (m_c X τ a) (τ.1 a 24).toInt n) {τ2 : ST} (m2 : m_c X τ2 a = m_c X τ a) (v i : Int32) (ic : ¬ i.toInt < m_c X τ a 0 * m_c X τ a 2) (Bf : Int32 → Int32 × ST) : F_X12_sayer_B26_1 X τ2 a v Bf i = q_bi (F_X12_refuse X τ2 a 8) (fun r s => (r, s)) := by
  obtain ⟨b0, b2, b4, b5, b6, b7, b9, b79⟩ := M.1.1.1
  have mm := m_mulI (a := m_c X τ a 0) (A := 10) (b := m_c X τ a 2) (B := 6) (by omega) b0.2 (by omega) b2.2
  have g0 : (τ2.1 (q_rf X a 20) (0 : Int32).toNatClampNeg).toInt = m_c X τ a 0 := gm_cell (A := 0) m2 rfl
  have g2 : (τ2.1 (q_rf X a 20) (2 : Int32).toNatClampNeg).toInt = m_c X τ a 2 := gm_cell (A := 2) m2 rfl
  have z10 : (τ2.1 (q_rf X a 20) (0 : Int32).toNatClampNeg * τ2.1 (q_rf X a 20) (2 : Int32).toNatClampNeg).toInt = m_c X τ a 0 * m_c X τ a 2 := by rw [ar_mul, g0, g2, ar_wr (by omega) (by omega)]
  unfold F_X12_sayer_B26_1
  rw [q_letE (τ2.1 (q_rf X a 20) (0 : Int32).toNatClampNeg), q_letE (τ2.1 (q_rf X a 20) (2 : Int32).toNatClampNeg), q_letE (τ2.1 (q_rf X a 20) (0 : Int32).toNatClampNeg * τ2.1 (q_rf X a 20) (2 : Int32).toNatClampNeg), z10, if_neg ic]
  rfl
theorem sy_noM (K : al_C X lb C a) (A : al_R X C a σ τ) (M : m_M (m_c X τ a) (τ.1 a 24).toInt n) {τ2 : ST} (m2 : m_c X τ2 a = m_c X τ a) {v : Int32} (h2 : 1 ≤ m_c X τ a 2) (h : ∀ t : Int, fa_K (m_c X τ a) t ≠ v.toInt) (fu : Nat) : ∀ i : Int32, (2147483647 - i.toInt).toNat < fu → 0 ≤ i.toInt → F_X12_sayer_L26_1 X τ2 a v fu i = q_bi (F_X12_refuse X τ2 a 8) (fun r s => (r, s)) := by
  obtain ⟨b0, b2, b4, b5, b6, b7, b9, b79⟩ := M.1.1.1
  have mm := m_mulI (a := m_c X τ a 0) (A := 10) (b := m_c X τ a 2) (B := 6) (by omega) b0.2 (by omega) b2.2
  induction fu with
  | zero => intro i h; exact absurd h (Nat.not_lt_zero _)
  | succ fu ih =>
    intro i hf i0
    rw [F_X12_sayer_L26_1_s]
    by_cases q : i.toInt < m_c X τ a 0 * m_c X τ a 2
    · have e1 : (i + 1).toInt = i.toInt + 1 := y_inc (by omega)
      obtain ⟨z, -, e⟩ := sy_stepM K A M m2 v i h2 i0 q (F_X12_sayer_L26_1 X τ2 a v fu)
      rw [e, if_neg (h _)]
      exact ih _ (by omega) (by omega)
    · exact sy_endM M m2 v i q _
theorem sy_loop (K : al_C X lb C a) (A : al_R X C a σ τ) (M : m_M (m_c X τ a) (τ.1 a 24).toInt n) {v : Int32} (hv : 0 ≤ v.toInt ∧ v.toInt < m_c X τ a 0) (h2 : 1 ≤ m_c X τ a 2) (fu : Nat) : ∀ (fv : Nat) (x i : Int32), (2147483647 - x.toInt).toNat < fu → (2147483647 - i.toInt).toNat < fv → x.toInt = i.toInt + m_c X τ a 7 → 0 ≤ i.toInt → (∀ t : Int, m_c X τ a 7 ≤ t → t < x.toInt → fa_K (m_c X τ a) t ≠ v.toInt) → ob_O X C a (F_X11_sayer_L52_1 X σ C v fu x) (F_X12_sayer_L26_1 X (q_si (q_si τ a 1 0) a 0 0) a v fv i) := by
  obtain ⟨kC, ka, S, lC, G8, G9, GM⟩ := id K
  obtain ⟨m2, s2, t2⟩ := mv_beg S.1 ka (rfl : m_c X τ a = m_c X τ a)
  obtain ⟨b0, b2, b4, b5, b6, b7, b9, b79⟩ := M.1.1.1
  have w : y_W X lb (q_rf X C 8) 1 σ σ (y_v X (q_rf X C 8) σ) := y_W.rf
  have mm := m_mulI (a := m_c X τ a 0) (A := 10) (b := m_c X τ a 2 - 1) (B := 5) (by omega) b0.2 (by omega) (by omega)
  rw [Int.mul_sub, Int.mul_one] at mm
  have f0 : (σ.1 (q_rf X (q_rf X C 8) 0) 0).toInt = m_c X τ a 0 := (w.rd (id := 1) (by decide) 0 rfl).trans A.1.1.1.1
  have f4 : (σ.1 (q_rf X C 8) 4).toInt = m_c X τ a 5 := (w.rd (id := 0) (by decide) 4 rfl).trans A.1.1.2.1.1
  have v5 : y_v X (q_rf X C 8) σ 0 5 = m_c X τ a 6 := by
    have z := A.1.1.2.1.2.1
    rw [if_neg (by omega)] at z
    exact z
  have f5 : (σ.1 (q_rf X C 8) 5).toInt = m_c X τ a 6 := (w.rd (id := 0) (by decide) 5 rfl).trans v5
  induction fu with
  | zero => intro fv x i h; exact absurd h (Nat.not_lt_zero _)
  | succ fu ih =>
    intro fv x i hf hfv hx i0 hn
    by_cases q : i.toInt < m_c X τ a 0
    · obtain ⟨fv', efv⟩ : ∃ j, fv = j + 1 := ⟨fv - 1, by omega⟩
      subst efv
      have e1 : (x + 1).toInt = x.toInt + 1 := y_inc (by omega)
      have e2 : (i + 1).toInt = i.toInt + 1 := y_inc (by omega)
      have ka' := fa_kindAfter S G8 (rfl : y_v X (q_rf X C 8) σ = _) A.1.1 M.1.1 (x := σ.1 (q_rf X C 8) 4) (y := x) f4 rfl ⟨by omega, by omega⟩
      obtain ⟨z, hz, e⟩ := sy_stepM K A M m2 v i h2 i0 (by omega) (F_X12_sayer_L26_1 X (q_si (q_si τ a 1 0) a 0 0) a v fv')
      rw [F_X11_sayer_L52_1_s, F_X12_sayer_L26_1_s, e, ← hx]
      unfold F_X11_sayer_B52_1
      rw [q_letE (σ.1 (q_rf X (q_rf X C 8) 0) 0), f0, if_neg (by omega), q_letE (σ.1 (q_rf X C 8) 4), q_letE (F_X6_kindAfter X σ (q_rf X (q_rf X C 8) 0) (σ.1 (q_rf X C 8) 4) x), ka']
      by_cases q1 : fa_K (m_c X τ a) x.toInt = v.toInt
      · rw [if_pos q1, if_pos q1]
        unfold F_X11_sayer_E88_3
        have pa := pl_after (X := X) S G8 (rfl : y_v X (q_rf X C 8) σ = _) A.1.1 M.1.1 h2 (x := σ.1 (q_rf X C 8) 5) (y := x) f5 rfl ⟨by omega, b6.2.1⟩ ⟨by omega, by omega⟩
        rw [q_letE (σ.1 (q_rf X C 8) 5), q_letE (F_X6_playerAfter X σ (q_rf X (q_rf X C 8) 0) (σ.1 (q_rf X C 8) 5) x)]
        refine ob_good K A M ?_
        rw [pa, hz, hx]
        congr 1
        omega
      · rw [if_neg q1, if_neg q1, q_letE (x + 1)]
        refine ih fv' (x + 1) (i + 1) (by omega) (by omega) (by omega) (by omega) (fun t t1 t2 => ?_)
        by_cases ht : t = x.toInt
        · rw [ht]; exact q1
        · exact hn t t1 (by omega)
    · have all : ∀ t : Int, fa_K (m_c X τ a) t ≠ v.toInt := by
        by_cases q3 : m_c X τ a 3 = 2
        · intro t
          have z := hn (m_c X τ a 7) (by omega) (by omega)
          unfold fa_K at z ⊢
          rw [if_pos q3] at z ⊢
          exact z
        · obtain ⟨t, t1, t2, t3⟩ := fa_hit M.1.1 A.1.1.1.2.2.2.2.2 q3 hv (m_c X τ a 7)
          exact absurd t3 (hn t t1 (by omega))
      rw [sy_noC K A M all _ x hf (by omega), sy_noM K A M m2 h2 all _ i hfv i0]
      exact ob_none K A M 8
theorem ob_sayer (K : al_C X lb C a) (A : al_R X C a σ τ) (M : m_M (m_c X τ a) (τ.1 a 24).toInt n) (v : Int32) : ob_O X C a (F_X11_sayer X σ C v) (F_X12_sayer X τ a v) := by
  obtain ⟨kC, ka, S, lC, G8, G9, GM⟩ := id K
  obtain ⟨m2, s2, t2⟩ := mv_beg S.1 ka (rfl : m_c X τ a = m_c X τ a)
  obtain ⟨b0, b2, b4, b5, b6, b7, b9, b79⟩ := M.1.1.1
  have w : y_W X lb (q_rf X C 8) 1 σ σ (y_v X (q_rf X C 8) σ) := y_W.rf
  have z0 : (0 : Int32).toInt = 0 := rfl
  have one : (1 : Int32).toInt = 1 := rfl
  have kk := an_k K A M m2 v
  have f7 : (σ.1 (q_rf X C 8) 7).toInt = m_c X τ a 7 := (w.rd (id := 0) (by decide) 7 rfl).trans A.1.1.2.1.2.2.2
  have f4 : (σ.1 (q_rf X (q_rf X C 8) 0) 4).toInt = m_c X τ a 2 := (w.rd (id := 1) (by decide) 4 rfl).trans A.1.1.1.2.2.2.2.1
  unfold F_X11_sayer F_X12_sayer
  rw [q_letE (F_X11_isKind X σ C v), kk.1, q_letE (q_si τ a 1 0), q_letE (q_si (q_si τ a 1 0) a 0 0), q_letE (F_X12_isKindAt X (q_si (q_si τ a 1 0) a 0 0) a v), kk.2]
  by_cases q : 0 ≤ v.toInt ∧ v.toInt < m_c X τ a 0
  · rw [if_pos q, if_neg (by decide : ¬ (1 : Int) = 0), if_neg (by decide : ¬ (1 : Int) = 0), q_letE (σ.1 (q_rf X (q_rf X C 8) 0) 4), f4]
    by_cases q2 : m_c X τ a 2 = 0
    · rw [if_pos q2, F_X12_sayer_L26_1_s, sy_endM M m2 v 0 (by rw [q2, Int.mul_zero]; decide)]
      exact ob_none K A M 8
    · rw [if_neg q2, q_letE (σ.1 (q_rf X C 8) 7), f7]
      by_cases q7 : m_c X τ a 7 = 0
      · rw [if_pos q7]
        exact sy_loop K A M q (by omega) _ _ 0 0 (Nat.lt_succ_self _) (Nat.lt_succ_self _) (by rw [z0]; omega) (by decide) (fun t t1 t2 => by omega)
      · rw [if_neg q7, sy_eq]
        exact sy_loop K A M q (by omega) _ _ 1 0 (Nat.lt_succ_self _) (Nat.lt_succ_self _) (by rw [z0, one]; omega) (by decide) (fun t t1 t2 => by omega)
  · rw [if_neg q, if_pos rfl, if_pos rfl]
    exact ob_none K A M 2
end QJ
