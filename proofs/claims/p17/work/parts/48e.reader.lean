/-! THE CLASS'S READER -/
/-- a token's cells of the reader R -/
def tc_S (R : Nat) : Nat → Nat → Prop := fun b f => b = R ∧ 2 ≤ f ∧ f ≤ 5
/-- R reads the first n bytes B of the tape T -/
def tc_E (X : XW) (σ : ST) (R T : Nat) (n : Int) (B : Int → Int) : Prop := σ.2.2 R = T ∧ (σ.1 R 1).toInt = n ∧ (0 ≤ n ∧ n ≤ 900) ∧ T ≠ R ∧ q_ln X T = 900 ∧ ∀ p : Int, 0 ≤ p → p < n → (σ.1 T p.toNat).toInt = B p ∧ -128 ≤ B p ∧ B p ≤ 127
section TC
variable {X : XW} {σ τ : ST} {R T : Nat} {n : Int} {B : Int → Int}
theorem tc_E.k {S : Nat → Nat → Prop} (E : tc_E X σ R T n B) (h : tk S σ τ) (hs : ∀ b f, S b f → b ≠ T ∧ ¬ (b = R ∧ f = 1)) : tc_E X τ R T n B := by
  obtain ⟨E1, E2, E3, E4, E5, E6⟩ := E
  refine ⟨?_, ?_, E3, E4, E5, fun p p0 p1 => ?_⟩
  · rw [h.2]; exact E1
  · rw [h.1 R 1 (fun q => (hs _ _ q).2 ⟨rfl, rfl⟩)]; exact E2
  · rw [h.1 T p.toNat (fun q => (hs _ _ q).1 rfl)]; exact E6 p p0 p1
theorem tc_E.kS (E : tc_E X σ R T n B) (h : tk (tc_S R) σ τ) : tc_E X τ R T n B := E.k h (fun b f q => ⟨fun e => E.2.2.2.1 (e.symm.trans q.1), fun e => absurd q.2.1 (by rw [e.2]; decide)⟩)
theorem tc_len (h : q_ln X T = 900) : (q_len X T).toInt = 900 := by
  unfold q_len
  rw [h]
  rfl
theorem tc_sig (E : tc_E X σ R T n B) {b : Int} (hb : (σ.1 R 2).toInt = b) (h0 : 0 ≤ b ∧ b ≤ 900) {v : Int32} {i : Int} (hv : v.toInt = i) (hi : 0 ≤ i ∧ i ≤ 900) : (F_X3_signAt X σ R v).toInt = tx_D B n (b + i) := by
  obtain ⟨E1, E2, E3, E4, E5, E6⟩ := E
  subst hv
  have e : (σ.1 R 2 + v).toInt = b + v.toInt := by rw [ar_add, hb, ar_wr (by omega) (by omega)]
  simp only [F_X3_signAt, ↓q_letE]
  rw [e, if_neg (by omega), E1, E2]
  unfold tx_D
  by_cases q : b + v.toInt < n
  · rw [if_pos q, if_pos (by rw [tc_len E5]; omega), if_pos ⟨by omega, q⟩, ar_cl, e]
    exact (E6 _ (by omega) q).1
  · rw [if_neg q, if_neg (fun h => q h.2)]
    rfl
theorem tx_D_in {p : Int} (h0 : 0 ≤ p) (h : p < n) : tx_D B n p = B p := if_pos ⟨h0, h⟩
theorem tx_run_cons {P : Int → Prop} {b e : Int} (h : tx_run P n (b + 1) e) (q : b < n) (hp : P b) : tx_run P n b e := by
  obtain ⟨h1, h2, h3⟩ := h
  refine ⟨by omega, fun j a c => ?_, h3⟩
  by_cases hj : j = b
  · subst hj; exact ⟨q, hp⟩
  · exact h2 j (by omega) c
theorem tx_run_nil {P : Int → Prop} {b : Int} (h : ¬ (b < n ∧ P b)) : tx_run P n b b := ⟨Int.le_refl _, fun j a c => by omega, h⟩
theorem tc_eorL (E : tc_E X σ R T n B) (lo hi : Int32) (k : Nat) : ∀ x : Int32, (2147483647 - x.toInt).toNat < k → 0 ≤ x.toInt → x.toInt ≤ n → tx_run (fun j => lo.toInt ≤ B j ∧ B j ≤ hi.toInt) n x.toInt (F_X3_endOfRun_L5_1 X σ R lo hi k x).toInt := by
  obtain ⟨E1, E2, E3, E4, E5, E6⟩ := id E
  induction k with
  | zero => intro x hm; exact absurd hm (Nat.not_lt_zero _)
  | succ k ih =>
    intro x hm h0 h1
    rw [F_X3_endOfRun_L5_1_s]
    simp only [F_X3_endOfRun_B5_1, ↓q_letE]
    rw [E1, E2, tc_len E5]
    by_cases q : x.toInt < n
    · rw [if_pos q, if_pos (by omega), ar_cl, (E6 x.toInt h0 q).1]
      by_cases q1 : B x.toInt < lo.toInt
      · rw [if_pos q1]
        exact tx_run_nil (fun h => by have := h.2; omega)
      · rw [if_neg q1]
        by_cases q2 : hi.toInt < B x.toInt
        · rw [if_pos q2]
          exact tx_run_nil (fun h => by have := h.2; omega)
        · rw [if_neg q2]
          have e1 : (x + 1).toInt = x.toInt + 1 := y_inc (by omega)
          have z := ih (x + 1) (by omega) (by omega) (by omega)
          rw [e1] at z
          exact tx_run_cons z q ⟨by omega, by omega⟩
    · rw [if_neg q]
      exact tx_run_nil (fun h => q h.1)
theorem tc_eor (E : tc_E X σ R T n B) {b : Int} (hb : (σ.1 R 2).toInt = b) (h0 : 0 ≤ b ∧ b ≤ n) (lo hi : Int32) : tx_run (fun j => lo.toInt ≤ B j ∧ B j ≤ hi.toInt) n b (F_X3_endOfRun X σ R lo hi).toInt := by
  simp only [F_X3_endOfRun, ↓q_letE]
  obtain ⟨k, hk⟩ : ∃ k, k = (2147483647 - (σ.1 R 2).toInt).toNat + 1 := ⟨_, rfl⟩
  rw [← hk]
  have z := tc_eorL E lo hi k (σ.1 R 2) (by omega) (by omega) (by omega)
  rw [hb] at z
  exact z
theorem tc_adv8 (E : tc_E X σ R T n B) (k : Nat) : ∀ τ : ST, tk (tc_S R) σ τ → (2147483647 - (τ.1 R 2).toInt).toNat < k → 0 ≤ (τ.1 R 2).toInt → (τ.1 R 2).toInt ≤ n → ∃ τ' : ST, F_X3_advance_L8_1 X R k τ = F_X3_advance_J52_2 X τ' R ∧ tk (tc_S R) σ τ' ∧ tx_run (fun j => tx_bl (B j)) n (τ.1 R 2).toInt (τ'.1 R 2).toInt := by
  have E3 := E.2.2.1
  induction k with
  | zero => intro τ _ hm; exact absurd hm (Nat.not_lt_zero _)
  | succ k ih =>
    intro τ ht hm h0 h1
    have Eτ := E.kS ht
    obtain ⟨b, hb⟩ : ∃ b, (τ.1 R 2).toInt = b := ⟨_, rfl⟩
    rw [hb] at hm h0 h1 ⊢
    have sg := tc_sig Eτ hb ⟨h0, by omega⟩ (v := 0) (i := 0) rfl ⟨by decide, by decide⟩
    rw [Int.add_zero] at sg
    rw [F_X3_advance_L8_1_s]
    simp only [F_X3_advance_B8_1, ↓q_letE]
    rw [Eτ.2.1, sg, hb]
    by_cases q : b < n
    · rw [if_pos q, tx_D_in h0 q]
      have e1 : ((q_si τ R 2 (τ.1 R 2 + 1)).1 R 2).toInt = b + 1 := by rw [si_eq, y_inc (by omega), hb]
      have st : tx_bl (B b) → ∃ τ' : ST, F_X3_advance_L8_1 X R k (q_si τ R 2 (τ.1 R 2 + 1)) = F_X3_advance_J52_2 X τ' R ∧ tk (tc_S R) σ τ' ∧ tx_run (fun j => tx_bl (B j)) n b (τ'.1 R 2).toInt := by
        intro hbl
        obtain ⟨τ', a1, a2, a3⟩ := ih (q_si τ R 2 (τ.1 R 2 + 1)) (ht.si _ ⟨rfl, by decide, by decide⟩) (by rw [e1]; omega) (by rw [e1]; omega) (by rw [e1]; omega)
        rw [e1] at a3
        exact ⟨τ', a1, a2, tx_run_cons a3 q hbl⟩
      by_cases q1 : B b = 10
      · rw [if_pos q1]
        exact st (Or.inl q1)
      · rw [if_neg q1]
        by_cases q2 : B b = 32
        · rw [if_pos q2]
          exact st (Or.inr q2)
        · rw [if_neg q2]
          exact ⟨τ, rfl, ht, by rw [hb]; exact tx_run_nil (fun h => h.2.elim q1 q2)⟩
    · rw [if_neg q]
      exact ⟨τ, rfl, ht, by rw [hb]; exact tx_run_nil (fun h => q h.1)⟩
/-- the number's value, place by place -/
theorem tc_adv165 (E : tc_E X σ R T n B) {b e : Int} (hb0 : 0 ≤ b) (hbe : b ≤ e) (he : e ≤ n) (hd : ∀ j, b ≤ j → j < e → tx_di (B j)) (k : Nat) : ∀ (x : Int32) (τ : ST), (2147483647 - x.toInt).toNat < k → 0 ≤ x.toInt → x.toInt ≤ 4 → x.toInt ≤ e - b → tk (tc_S R) σ τ → (τ.1 R 2).toInt = b → (τ.1 R 3).toInt = e → (τ.1 R 5).toInt = tx_nv B b x.toInt.toNat → (0 ≤ tx_nv B b x.toInt.toNat ∧ tx_nv B b x.toInt.toNat < 10 ^ x.toInt.toNat) →
    ∃ τ' : ST, F_X3_advance_L165_4 X R k x τ = τ' ∧ tk (tc_S R) σ τ' ∧ (τ'.1 R 2).toInt = b ∧ (τ'.1 R 3).toInt = e ∧ τ'.1 R 4 = τ.1 R 4 ∧ (e - b ≤ 4 → (τ'.1 R 5).toInt = tx_nv B b (e - b).toNat) := by
  have E3 := E.2.2.1
  induction k with
  | zero => intro x τ hm; exact absurd hm (Nat.not_lt_zero _)
  | succ k ih =>
    intro x τ hm h0 h4 h5 ht hb he3 hv hvb
    have Eτ := E.kS ht
    have sz : (F_X3_size X τ R).toInt = e - b := by
      simp only [F_X3_size, ↓q_letE]
      rw [ar_sub, he3, hb, ar_wr (by omega) (by omega)]
    rw [F_X3_advance_L165_4_s]
    simp only [F_X3_advance_B165_4, ↓q_letE]
    rw [sz]
    by_cases q : x.toInt < 4
    · rw [if_pos q]
      by_cases q1 : x.toInt < e - b
      · rw [if_pos q1]
        have sg := tc_sig Eτ hb ⟨by omega, by omega⟩ (v := x) rfl ⟨h0, by omega⟩
        rw [tx_D_in (by omega) (by omega)] at sg
        have dg := hd (b + x.toInt) (by omega) (by omega)
        unfold tx_di at dg
        have p4 : (10 : Int) ^ x.toInt.toNat ≤ 1000 := by
          have : x.toInt.toNat = 0 ∨ x.toInt.toNat = 1 ∨ x.toInt.toNat = 2 ∨ x.toInt.toNat = 3 := by omega
          rcases this with q | q | q | q <;> rw [q] <;> decide
        have e10 : (10 : Int32).toInt = 10 := rfl
        have e48 : (48 : Int32).toInt = 48 := rfl
        have ev : (τ.1 R 5 * 10 + F_X3_signAt X τ R x - 48).toInt = tx_nv B b x.toInt.toNat * 10 + B (b + x.toInt) - 48 := by
          rw [ar_sub, ar_add, ar_mul, hv, sg, e10, e48, ar_wr (n := tx_nv B b x.toInt.toNat * 10) (by omega) (by omega), ar_wr (n := tx_nv B b x.toInt.toNat * 10 + B (b + x.toInt)) (by omega) (by omega), ar_wr (by omega) (by omega)]
        have e1 : (x + 1).toInt = x.toInt + 1 := y_inc (by omega)
        have e2 : (x.toInt + 1).toNat = x.toInt.toNat + 1 := by omega
        have e3 : ((x.toInt.toNat : Nat) : Int) = x.toInt := by omega
        have nv : tx_nv B b (x.toInt + 1).toNat = tx_nv B b x.toInt.toNat * 10 + B (b + x.toInt) - 48 := by
          rw [e2]
          show tx_nv B b x.toInt.toNat * 10 + B (b + ((x.toInt.toNat : Nat) : Int)) - 48 = _
          rw [e3]
        have pw : (10 : Int) ^ (x.toInt + 1).toNat = 10 ^ x.toInt.toNat * 10 := by rw [e2, Int.pow_succ]
        obtain ⟨τ', a1, a2, a3, a4, a5, a6⟩ := ih (x + 1) (q_si τ R 5 (τ.1 R 5 * 10 + F_X3_signAt X τ R x - 48)) (by omega) (by omega) (by omega) (by omega) (ht.si _ ⟨rfl, by decide, by decide⟩) (by rw [si_f (by decide)]; exact hb) (by rw [si_f (by decide)]; exact he3) (by rw [si_eq, ev, e1, nv]) (by rw [e1, nv, pw]; omega)
        exact ⟨τ', a1, a2, a3, a4, by rw [a5, si_f (by decide)], a6⟩
      · rw [if_neg q1]
        refine ⟨τ, rfl, ht, hb, he3, rfl, fun _ => ?_⟩
        have : x.toInt = e - b := by omega
        rw [hv, this]
    · rw [if_neg q]
      refine ⟨τ, rfl, ht, hb, he3, rfl, fun h => ?_⟩
      have : x.toInt = e - b := by omega
      rw [hv, this]
theorem tc_165 (k : Nat) : F_X3_advance_L165_7 X R k = F_X3_advance_L165_4 X R k := by
  induction k with
  | zero => rfl
  | succ k ih =>
    show F_X3_advance_B165_7 X R (F_X3_advance_L165_7 X R k) = F_X3_advance_B165_4 X R (F_X3_advance_L165_4 X R k)
    rw [ih]
    rfl
/-- what advance leaves, its blanks passed: the token's cells of R -/
def tc_Q (σ : ST) (R : Nat) (n : Int) (B : Int → Int) (b : Int) (τ' : ST) : Prop := tk (tc_S R) σ τ' ∧ (τ'.1 R 2).toInt = b ∧ tx_cls B n b (τ'.1 R 3).toInt (τ'.1 R 4).toInt (τ'.1 R 5).toInt
theorem tc_J117 (E : tc_E X σ R T n B) {ρ : ST} (ht : tk (tc_S R) σ ρ) {b : Int} (hb : (ρ.1 R 2).toInt = b) (h0 : 0 ≤ b) (q : b < n) {r : Int32} (hr : r.toInt = B b) (hl : ¬ tx_le (B b)) : tc_Q σ R n B b (F_X3_advance_J117_3 X r ρ R) := by
  have E3 := E.2.2.1
  have Eρ := E.kS ht
  have sgn : ∀ ty : Int32, ¬ tx_di (B b) → (tx_sg (B b) ∧ ty.toInt = 3 ∨ ¬ tx_sg (B b) ∧ ty.toInt = 4) → tc_Q σ R n B b (q_si (q_si ρ R 4 ty) R 3 ((q_si ρ R 4 ty).1 R 2 + 1)) := by
    intro ty hd hs
    have e2 : (q_si ρ R 4 ty).1 R 2 = ρ.1 R 2 := si_f (by decide) R
    have e1 : ((q_si ρ R 4 ty).1 R 2 + 1).toInt = b + 1 := by rw [e2, y_inc (by omega), hb]
    refine ⟨(ht.si _ ⟨rfl, by decide, by decide⟩).si _ ⟨rfl, by decide, by decide⟩, by rw [si_f (by decide), si_f (by decide)]; exact hb, Or.inr (Or.inr (Or.inr ⟨q, hl, hd, by rw [si_eq, e1], ?_⟩))⟩
    rw [si_f (by decide), si_eq]
    exact hs
  simp only [F_X3_advance_J117_3, ↓q_letE]
  rw [hr]
  unfold tx_le at hl
  by_cases c1 : B b < 48
  · rw [if_pos c1]
    repeat' split
    all_goals first
      | exact sgn 3 (by unfold tx_di; omega) (Or.inl ⟨by unfold tx_sg; omega, rfl⟩)
      | exact sgn 4 (by unfold tx_di; omega) (Or.inr ⟨by unfold tx_sg; omega, rfl⟩)
  · rw [if_neg c1]
    by_cases c2 : 57 < B b
    · rw [if_pos c2]
      repeat' split
      all_goals first
        | exact sgn 3 (by unfold tx_di; omega) (Or.inl ⟨by unfold tx_sg; omega, rfl⟩)
        | exact sgn 4 (by unfold tx_di; omega) (Or.inr ⟨by unfold tx_sg; omega, rfl⟩)
    · rw [if_neg c2]
      have hd : tx_di (B b) := ⟨by omega, by omega⟩
      have run := tc_eor Eρ hb ⟨h0, by omega⟩ 48 57
      have r48 : (48 : Int32).toInt = 48 := rfl
      have r57 : (57 : Int32).toInt = 57 := rfl
      rw [r48, r57] at run
      obtain ⟨w, hw⟩ : ∃ w, w = F_X3_endOfRun X ρ R 48 57 := ⟨_, rfl⟩
      rw [← hw] at run ⊢
      have hbe := run.1
      have hen := tx_run_le run (by omega)
      have t3 : tk (tc_S R) σ (q_si ρ R 3 w) := ht.si _ ⟨rfl, by decide, by decide⟩
      have b3 : ((q_si ρ R 3 w).1 R 2).toInt = b := by rw [si_f (by decide)]; exact hb
      have sz : (F_X3_size X (q_si ρ R 3 w) R).toInt = w.toInt - b := by
        simp only [F_X3_size, ↓q_letE]
        rw [ar_sub, b3, si_eq, ar_wr (by omega) (by omega)]
      rw [sz]
      have go : ∀ ty : Int32, (4 < w.toInt - b ∧ ty.toInt = 4 ∨ w.toInt - b ≤ 4 ∧ ty.toInt = 2) → tc_Q σ R n B b (F_X3_advance_L165_4 X R ((2147483647 - (0 : Int32).toInt).toNat + 1) 0 (q_si (q_si (q_si ρ R 3 w) R 4 ty) R 5 0)) := by
        intro ty hty
        obtain ⟨τ', a1, a2, a3, a4, a5, a6⟩ := tc_adv165 E h0 hbe hen (fun j j0 j1 => (run.2.1 j j0 j1).2) ((2147483647 - (0 : Int32).toInt).toNat + 1) 0 (q_si (q_si (q_si ρ R 3 w) R 4 ty) R 5 0) (by decide) (by decide) (by decide) (by show (0 : Int) ≤ _; omega) ((t3.si _ ⟨rfl, by decide, by decide⟩).si _ ⟨rfl, by decide, by decide⟩) (by rw [si_f (by decide), si_f (by decide)]; exact b3) (by rw [si_f (by decide), si_f (by decide), si_eq]) (by rw [si_eq]; rfl) (by show (0 : Int) ≤ 0 ∧ (0 : Int) < 10 ^ 0; decide)
        rw [a1]
        refine ⟨a2, a3, Or.inr (Or.inr (Or.inl ⟨q, hd, by rw [a4]; exact run, ?_⟩))⟩
        rw [a4, a5, si_f (by decide), si_eq]
        rcases hty with ⟨h1, h2⟩ | ⟨h1, h2⟩
        · exact Or.inl ⟨h1, h2⟩
        · exact Or.inr ⟨h1, h2, a6 h1⟩
      by_cases c3 : 4 < w.toInt - b
      · rw [if_pos c3, tc_165]
        exact go 4 (Or.inl ⟨c3, rfl⟩)
      · rw [if_neg c3]
        exact go 2 (Or.inr ⟨by omega, rfl⟩)
theorem tc_J52 (E : tc_E X σ R T n B) {τ : ST} (ht : tk (tc_S R) σ τ) {b : Int} (hb : (τ.1 R 2).toInt = b) (h0 : 0 ≤ b) (h1 : b ≤ n) : tc_Q σ R n B b (F_X3_advance_J52_2 X τ R) := by
  have E3 := E.2.2.1
  simp only [F_X3_advance_J52_2, ↓q_letE]
  obtain ⟨ρ, hρ⟩ : ∃ ρ, ρ = q_si τ R 3 (τ.1 R 2) := ⟨_, rfl⟩
  rw [← hρ]
  have ht2 : tk (tc_S R) σ ρ := by rw [hρ]; exact ht.si _ ⟨rfl, by decide, by decide⟩
  have hb2 : (ρ.1 R 2).toInt = b := by rw [hρ, si_f (by decide)]; exact hb
  have he2 : (ρ.1 R 3).toInt = b := by rw [hρ, si_eq]; exact hb
  have Eρ := E.kS ht2
  have sg := tc_sig Eρ hb2 ⟨h0, by omega⟩ (v := 0) (i := 0) rfl ⟨by decide, by decide⟩
  rw [Int.add_zero] at sg
  rw [Eρ.2.1, hb2, sg]
  by_cases q : b < n
  · rw [if_pos q]
    have sg2 := sg
    rw [tx_D_in h0 q] at sg2 ⊢
    by_cases q1 : B b < 97
    · rw [if_pos q1]
      exact tc_J117 E ht2 hb2 h0 q sg2 (fun h => by have := h.1; omega)
    · rw [if_neg q1]
      by_cases q2 : 122 < B b
      · rw [if_pos q2]
        exact tc_J117 E ht2 hb2 h0 q sg2 (fun h => by have := h.2; omega)
      · rw [if_neg q2]
        have t4 : tk (tc_S R) σ (q_si ρ R 4 1) := ht2.si _ ⟨rfl, by decide, by decide⟩
        have b4 : ((q_si ρ R 4 1).1 R 2).toInt = b := by rw [si_f (by decide)]; exact hb2
        have run := tc_eor (E.kS t4) b4 ⟨h0, h1⟩ 97 122
        have r97 : (97 : Int32).toInt = 97 := rfl
        have r122 : (122 : Int32).toInt = 122 := rfl
        rw [r97, r122] at run
        refine ⟨t4.si _ ⟨rfl, by decide, by decide⟩, by rw [si_f (by decide)]; exact b4, Or.inr (Or.inl ⟨q, ⟨by omega, by omega⟩, by rw [si_f (by decide), si_eq]; rfl, ?_⟩)⟩
        rw [si_eq]
        exact run
  · rw [if_neg q]
    exact ⟨ht2.si _ ⟨rfl, by decide, by decide⟩, by rw [si_f (by decide)]; exact hb2, Or.inl ⟨by omega, by rw [si_eq]; rfl, by rw [si_f (by decide)]; exact he2⟩⟩
/-- the class's advance -/
theorem tc_adv (E : tc_E X σ R T n B) {p : Int} (hp : (σ.1 R 3).toInt = p) (h0 : 0 ≤ p ∧ p ≤ n) : tk (tc_S R) σ (F_X3_advance X σ R) ∧ tx_tok B n p ((F_X3_advance X σ R).1 R 2).toInt ((F_X3_advance X σ R).1 R 3).toInt ((F_X3_advance X σ R).1 R 4).toInt ((F_X3_advance X σ R).1 R 5).toInt := by
  have E3 := E.2.2.1
  simp only [F_X3_advance, ↓q_letE]
  obtain ⟨τ, hτ⟩ : ∃ τ, τ = q_si σ R 2 (σ.1 R 3) := ⟨_, rfl⟩
  rw [← hτ]
  have ht : tk (tc_S R) σ τ := by rw [hτ]; exact tk.rf.si _ ⟨rfl, by decide, by decide⟩
  have hb : (τ.1 R 2).toInt = p := by rw [hτ, si_eq]; exact hp
  obtain ⟨k, hk⟩ : ∃ k, k = (2147483647 - (τ.1 R 2).toInt).toNat + 1 := ⟨_, rfl⟩
  rw [← hk]
  obtain ⟨τ', a1, a2, a3⟩ := tc_adv8 E k τ ht (by omega) (by omega) (by omega)
  rw [a1]
  rw [hb] at a3
  have hb2 : p ≤ (τ'.1 R 2).toInt := a3.1
  have hb3 : (τ'.1 R 2).toInt ≤ n := tx_run_le a3 h0.2
  obtain ⟨c1, c2, c3⟩ := tc_J52 E a2 rfl (by omega) hb3
  refine ⟨c1, ?_⟩
  rw [c2]
  exact ⟨a3, c3⟩
end TC
