/-! FROM 48e.reader.lean.txt -/
section
/-! THE CLASS'S READER -/
/-- a token's cells of the reader R -/
def tc_S (R : Nat) : Nat → Nat → Prop := fun b f => b = R ∧ 2 ≤ f ∧ f ≤ 5
/-- R reads the first n bytes B of the tape T -/
def tc_E (X : XW) (σ : ST) (R T : Nat) (n : Int) (B : Int → Int) : Prop := σ.2.2 R = T ∧ (σ.1 R 1).toInt = n ∧ (0 ≤ n ∧ n ≤ 900) ∧ T ≠ R ∧ q_ln X T = 900 ∧ ∀ p : Int, 0 ≤ p → p < n → (σ.1 T p.toNat).toInt = B p ∧ -128 ≤ B p ∧ B p ≤ 127
section TC
variable {X : XW} {σ τ : ST} {R T : Nat} {n : Int} {B : Int → Int}
theorem tc_E.k {S : Nat → Nat → Prop} (E : tc_E X σ R T n B) (h : tk S σ τ) (hs : ∀ b f, S b f → b ≠ T ∧ ¬ (b = R ∧ f = 1)) : tc_E X τ R T n B := by
  obtain ⟨E1, E2, E3, E4, E5, E6⟩ := E
  refine ⟨?_, ?_, E3, E4, E5, fun p p0 p1 => ?_⟩
  · rw [h.2]; exact E1
  · rw [h.1 R 1 (fun q => (hs _ _ q).2 ⟨rfl, rfl⟩)]; exact E2
  · rw [h.1 T p.toNat (fun q => (hs _ _ q).1 rfl)]; exact E6 p p0 p1
theorem tc_E.kS (E : tc_E X σ R T n B) (h : tk (tc_S R) σ τ) : tc_E X τ R T n B := E.k h (fun b f q => ⟨fun e => E.2.2.2.1 (e.symm.trans q.1), fun e => absurd q.2.1 (by rw [e.2]; decide)⟩)
theorem tc_len (h : q_ln X T = 900) : (q_len X T).toInt = 900 := by
  unfold q_len
  rw [h]
  rfl
theorem tc_sig (E : tc_E X σ R T n B) {b : Int} (hb : (σ.1 R 2).toInt = b) (h0 : 0 ≤ b ∧ b ≤ 900) {v : Int32} {i : Int} (hv : v.toInt = i) (hi : 0 ≤ i ∧ i ≤ 900) : (F_X3_signAt X σ R v).toInt = tx_D B n (b + i) := by
  obtain ⟨E1, E2, E3, E4, E5, E6⟩ := E
  subst hv
  have e : (σ.1 R 2 + v).toInt = b + v.toInt := by rw [ar_add, hb, ar_wr (by omega) (by omega)]
  simp only [F_X3_signAt, ↓q_letE]
  rw [e, if_neg (by omega), E1, E2]
  unfold tx_D
  by_cases q : b + v.toInt < n
  · rw [if_pos q, if_pos (by rw [tc_len E5]; omega), if_pos ⟨by omega, q⟩, ar_cl, e]
    exact (E6 _ (by omega) q).1
  · rw [if_neg q, if_neg (fun h => q h.2)]
    rfl
theorem tx_D_in {p : Int} (h0 : 0 ≤ p) (h : p < n) : tx_D B n p = B p := if_pos ⟨h0, h⟩
theorem tx_run_cons {P : Int → Prop} {b e : Int} (h : tx_run P n (b + 1) e) (q : b < n) (hp : P b) : tx_run P n b e := by
  obtain ⟨h1, h2, h3⟩ := h
  refine ⟨by omega, fun j a c => ?_, h3⟩
  by_cases hj : j = b
  · subst hj; exact ⟨q, hp⟩
  · exact h2 j (by omega) c
theorem tx_run_nil {P : Int → Prop} {b : Int} (h : ¬ (b < n ∧ P b)) : tx_run P n b b := ⟨Int.le_refl _, fun j a c => by omega, h⟩
theorem tc_eorL (E : tc_E X σ R T n B) (lo hi : Int32) (k : Nat) : ∀ x : Int32, (2147483647 - x.toInt).toNat < k → 0 ≤ x.toInt → x.toInt ≤ n → tx_run (fun j => lo.toInt ≤ B j ∧ B j ≤ hi.toInt) n x.toInt (F_X3_endOfRun_L5_1 X σ R lo hi k x).toInt := by
  obtain ⟨E1, E2, E3, E4, E5, E6⟩ := id E
  induction k with
  | zero => intro x hm; exact absurd hm (Nat.not_lt_zero _)
  | succ k ih =>
    intro x hm h0 h1
    rw [F_X3_endOfRun_L5_1_s]
    simp only [F_X3_endOfRun_B5_1, ↓q_letE]
    rw [E1, E2, tc_len E5]
    by_cases q : x.toInt < n
    · rw [if_pos q, if_pos (by omega), ar_cl, (E6 x.toInt h0 q).1]
      by_cases q1 : B x.toInt < lo.toInt
      · rw [if_pos q1]
        exact tx_run_nil (fun h => by have := h.2; omega)
      · rw [if_neg q1]
        by_cases q2 : hi.toInt < B x.toInt
        · rw [if_pos q2]
          exact tx_run_nil (fun h => by have := h.2; omega)
        · rw [if_neg q2]
          have e1 : (x + 1).toInt = x.toInt + 1 := y_inc (by omega)
          have z := ih (x + 1) (by omega) (by omega) (by omega)
          rw [e1] at z
          exact tx_run_cons z q ⟨by omega, by omega⟩
    · rw [if_neg q]
      exact tx_run_nil (fun h => q h.1)
theorem tc_eor (E : tc_E X σ R T n B) {b : Int} (hb : (σ.1 R 2).toInt = b) (h0 : 0 ≤ b ∧ b ≤ n) (lo hi : Int32) : tx_run (fun j => lo.toInt ≤ B j ∧ B j ≤ hi.toInt) n b (F_X3_endOfRun X σ R lo hi).toInt := by
  simp only [F_X3_endOfRun, ↓q_letE]
  obtain ⟨k, hk⟩ : ∃ k, k = (2147483647 - (σ.1 R 2).toInt).toNat + 1 := ⟨_, rfl⟩
  rw [← hk]
  have z := tc_eorL E lo hi k (σ.1 R 2) (by omega) (by omega) (by omega)
  rw [hb] at z
  exact z
theorem tc_adv8 (E : tc_E X σ R T n B) (k : Nat) : ∀ τ : ST, tk (tc_S R) σ τ → (2147483647 - (τ.1 R 2).toInt).toNat < k → 0 ≤ (τ.1 R 2).toInt → (τ.1 R 2).toInt ≤ n → ∃ τ' : ST, F_X3_advance_L8_1 X R k τ = F_X3_advance_J52_2 X τ' R ∧ tk (tc_S R) σ τ' ∧ tx_run (fun j => tx_bl (B j)) n (τ.1 R 2).toInt (τ'.1 R 2).toInt := by
  have E3 := E.2.2.1
  induction k with
  | zero => intro τ _ hm; exact absurd hm (Nat.not_lt_zero _)
  | succ k ih =>
    intro τ ht hm h0 h1
    have Eτ := E.kS ht
    obtain ⟨b, hb⟩ : ∃ b, (τ.1 R 2).toInt = b := ⟨_, rfl⟩
    rw [hb] at hm h0 h1 ⊢
    have sg := tc_sig Eτ hb ⟨h0, by omega⟩ (v := 0) (i := 0) rfl ⟨by decide, by decide⟩
    rw [Int.add_zero] at sg
    rw [F_X3_advance_L8_1_s]
    simp only [F_X3_advance_B8_1, ↓q_letE]
    rw [Eτ.2.1, sg, hb]
    by_cases q : b < n
    · rw [if_pos q, tx_D_in h0 q]
      have e1 : ((q_si τ R 2 (τ.1 R 2 + 1)).1 R 2).toInt = b + 1 := by rw [si_eq, y_inc (by omega), hb]
      have st : tx_bl (B b) → ∃ τ' : ST, F_X3_advance_L8_1 X R k (q_si τ R 2 (τ.1 R 2 + 1)) = F_X3_advance_J52_2 X τ' R ∧ tk (tc_S R) σ τ' ∧ tx_run (fun j => tx_bl (B j)) n b (τ'.1 R 2).toInt := by
        intro hbl
        obtain ⟨τ', a1, a2, a3⟩ := ih (q_si τ R 2 (τ.1 R 2 + 1)) (ht.si _ ⟨rfl, by decide, by decide⟩) (by rw [e1]; omega) (by rw [e1]; omega) (by rw [e1]; omega)
        rw [e1] at a3
        exact ⟨τ', a1, a2, tx_run_cons a3 q hbl⟩
      by_cases q1 : B b = 10
      · rw [if_pos q1]
        exact st (Or.inl q1)
      · rw [if_neg q1]
        by_cases q2 : B b = 32
        · rw [if_pos q2]
          exact st (Or.inr q2)
        · rw [if_neg q2]
          exact ⟨τ, rfl, ht, by rw [hb]; exact tx_run_nil (fun h => h.2.elim q1 q2)⟩
    · rw [if_neg q]
      exact ⟨τ, rfl, ht, by rw [hb]; exact tx_run_nil (fun h => q h.1)⟩
/-- the number's value, place by place -/
theorem tc_adv165 (E : tc_E X σ R T n B) {b e : Int} (hb0 : 0 ≤ b) (hbe : b ≤ e) (he : e ≤ n) (hd : ∀ j, b ≤ j → j < e → tx_di (B j)) (k : Nat) : ∀ (x : Int32) (τ : ST), (2147483647 - x.toInt).toNat < k → 0 ≤ x.toInt → x.toInt ≤ 4 → x.toInt ≤ e - b → tk (tc_S R) σ τ → (τ.1 R 2).toInt = b → (τ.1 R 3).toInt = e → (τ.1 R 5).toInt = tx_nv B b x.toInt.toNat → (0 ≤ tx_nv B b x.toInt.toNat ∧ tx_nv B b x.toInt.toNat < 10 ^ x.toInt.toNat) →
    ∃ τ' : ST, F_X3_advance_L165_4 X R k x τ = τ' ∧ tk (tc_S R) σ τ' ∧ (τ'.1 R 2).toInt = b ∧ (τ'.1 R 3).toInt = e ∧ τ'.1 R 4 = τ.1 R 4 ∧ (e - b ≤ 4 → (τ'.1 R 5).toInt = tx_nv B b (e - b).toNat) := by
  have E3 := E.2.2.1
  induction k with
  | zero => intro x τ hm; exact absurd hm (Nat.not_lt_zero _)
  | succ k ih =>
    intro x τ hm h0 h4 h5 ht hb he3 hv hvb
    have Eτ := E.kS ht
    have sz : (F_X3_size X τ R).toInt = e - b := by
      simp only [F_X3_size, ↓q_letE]
      rw [ar_sub, he3, hb, ar_wr (by omega) (by omega)]
    rw [F_X3_advance_L165_4_s]
    simp only [F_X3_advance_B165_4, ↓q_letE]
    rw [sz]
    by_cases q : x.toInt < 4
    · rw [if_pos q]
      by_cases q1 : x.toInt < e - b
      · rw [if_pos q1]
        have sg := tc_sig Eτ hb ⟨by omega, by omega⟩ (v := x) rfl ⟨h0, by omega⟩
        rw [tx_D_in (by omega) (by omega)] at sg
        have dg := hd (b + x.toInt) (by omega) (by omega)
        unfold tx_di at dg
        have p4 : (10 : Int) ^ x.toInt.toNat ≤ 1000 := by
          have : x.toInt.toNat = 0 ∨ x.toInt.toNat = 1 ∨ x.toInt.toNat = 2 ∨ x.toInt.toNat = 3 := by omega
          rcases this with q | q | q | q <;> rw [q] <;> decide
        have e10 : (10 : Int32).toInt = 10 := rfl
        have e48 : (48 : Int32).toInt = 48 := rfl
        have ev : (τ.1 R 5 * 10 + F_X3_signAt X τ R x - 48).toInt = tx_nv B b x.toInt.toNat * 10 + B (b + x.toInt) - 48 := by
          rw [ar_sub, ar_add, ar_mul, hv, sg, e10, e48, ar_wr (n := tx_nv B b x.toInt.toNat * 10) (by omega) (by omega), ar_wr (n := tx_nv B b x.toInt.toNat * 10 + B (b + x.toInt)) (by omega) (by omega), ar_wr (by omega) (by omega)]
        have e1 : (x + 1).toInt = x.toInt + 1 := y_inc (by omega)
        have e2 : (x.toInt + 1).toNat = x.toInt.toNat + 1 := by omega
        have e3 : ((x.toInt.toNat : Nat) : Int) = x.toInt := by omega
        have nv : tx_nv B b (x.toInt + 1).toNat = tx_nv B b x.toInt.toNat * 10 + B (b + x.toInt) - 48 := by
          rw [e2]
          show tx_nv B b x.toInt.toNat * 10 + B (b + ((x.toInt.toNat : Nat) : Int)) - 48 = _
          rw [e3]
        have pw : (10 : Int) ^ (x.toInt + 1).toNat = 10 ^ x.toInt.toNat * 10 := by rw [e2, Int.pow_succ]
        obtain ⟨τ', a1, a2, a3, a4, a5, a6⟩ := ih (x + 1) (q_si τ R 5 (τ.1 R 5 * 10 + F_X3_signAt X τ R x - 48)) (by omega) (by omega) (by omega) (by omega) (ht.si _ ⟨rfl, by decide, by decide⟩) (by rw [si_f (by decide)]; exact hb) (by rw [si_f (by decide)]; exact he3) (by rw [si_eq, ev, e1, nv]) (by rw [e1, nv, pw]; omega)
        exact ⟨τ', a1, a2, a3, a4, by rw [a5, si_f (by decide)], a6⟩
      · rw [if_neg q1]
        refine ⟨τ, rfl, ht, hb, he3, rfl, fun _ => ?_⟩
        have : x.toInt = e - b := by omega
        rw [hv, this]
    · rw [if_neg q]
      refine ⟨τ, rfl, ht, hb, he3, rfl, fun h => ?_⟩
      have : x.toInt = e - b := by omega
      rw [hv, this]
theorem tc_165 (k : Nat) : F_X3_advance_L165_7 X R k = F_X3_advance_L165_4 X R k := by
  induction k with
  | zero => rfl
  | succ k ih =>
    show F_X3_advance_B165_7 X R (F_X3_advance_L165_7 X R k) = F_X3_advance_B165_4 X R (F_X3_advance_L165_4 X R k)
    rw [ih]
    rfl
/-- what advance leaves, its blanks passed: the token's cells of R -/
def tc_Q (σ : ST) (R : Nat) (n : Int) (B : Int → Int) (b : Int) (τ' : ST) : Prop := tk (tc_S R) σ τ' ∧ (τ'.1 R 2).toInt = b ∧ tx_cls B n b (τ'.1 R 3).toInt (τ'.1 R 4).toInt (τ'.1 R 5).toInt
theorem tc_J117 (E : tc_E X σ R T n B) {ρ : ST} (ht : tk (tc_S R) σ ρ) {b : Int} (hb : (ρ.1 R 2).toInt = b) (h0 : 0 ≤ b) (q : b < n) {r : Int32} (hr : r.toInt = B b) (hl : ¬ tx_le (B b)) : tc_Q σ R n B b (F_X3_advance_J117_3 X r ρ R) := by
  have E3 := E.2.2.1
  have Eρ := E.kS ht
  have sgn : ∀ ty : Int32, ¬ tx_di (B b) → (tx_sg (B b) ∧ ty.toInt = 3 ∨ ¬ tx_sg (B b) ∧ ty.toInt = 4) → tc_Q σ R n B b (q_si (q_si ρ R 4 ty) R 3 ((q_si ρ R 4 ty).1 R 2 + 1)) := by
    intro ty hd hs
    have e2 : (q_si ρ R 4 ty).1 R 2 = ρ.1 R 2 := si_f (by decide) R
    have e1 : ((q_si ρ R 4 ty).1 R 2 + 1).toInt = b + 1 := by rw [e2, y_inc (by omega), hb]
    refine ⟨(ht.si _ ⟨rfl, by decide, by decide⟩).si _ ⟨rfl, by decide, by decide⟩, by rw [si_f (by decide), si_f (by decide)]; exact hb, Or.inr (Or.inr (Or.inr ⟨q, hl, hd, by rw [si_eq, e1], ?_⟩))⟩
    rw [si_f (by decide), si_eq]
    exact hs
  simp only [F_X3_advance_J117_3, ↓q_letE]
  rw [hr]
  unfold tx_le at hl
  by_cases c1 : B b < 48
  · rw [if_pos c1]
    repeat' split
    all_goals first
      | exact sgn 3 (by unfold tx_di; omega) (Or.inl ⟨by unfold tx_sg; omega, rfl⟩)
      | exact sgn 4 (by unfold tx_di; omega) (Or.inr ⟨by unfold tx_sg; omega, rfl⟩)
  · rw [if_neg c1]
    by_cases c2 : 57 < B b
    · rw [if_pos c2]
      repeat' split
      all_goals first
        | exact sgn 3 (by unfold tx_di; omega) (Or.inl ⟨by unfold tx_sg; omega, rfl⟩)
        | exact sgn 4 (by unfold tx_di; omega) (Or.inr ⟨by unfold tx_sg; omega, rfl⟩)
    · rw [if_neg c2]
      have hd : tx_di (B b) := ⟨by omega, by omega⟩
      have run := tc_eor Eρ hb ⟨h0, by omega⟩ 48 57
      have r48 : (48 : Int32).toInt = 48 := rfl
      have r57 : (57 : Int32).toInt = 57 := rfl
      rw [r48, r57] at run
      obtain ⟨w, hw⟩ : ∃ w, w = F_X3_endOfRun X ρ R 48 57 := ⟨_, rfl⟩
      rw [← hw] at run ⊢
      have hbe := run.1
      have hen := tx_run_le run (by omega)
      have t3 : tk (tc_S R) σ (q_si ρ R 3 w) := ht.si _ ⟨rfl, by decide, by decide⟩
      have b3 : ((q_si ρ R 3 w).1 R 2).toInt = b := by rw [si_f (by decide)]; exact hb
      have sz : (F_X3_size X (q_si ρ R 3 w) R).toInt = w.toInt - b := by
        simp only [F_X3_size, ↓q_letE]
        rw [ar_sub, b3, si_eq, ar_wr (by omega) (by omega)]
      rw [sz]
      have go : ∀ ty : Int32, (4 < w.toInt - b ∧ ty.toInt = 4 ∨ w.toInt - b ≤ 4 ∧ ty.toInt = 2) → tc_Q σ R n B b (F_X3_advance_L165_4 X R ((2147483647 - (0 : Int32).toInt).toNat + 1) 0 (q_si (q_si (q_si ρ R 3 w) R 4 ty) R 5 0)) := by
        intro ty hty
        obtain ⟨τ', a1, a2, a3, a4, a5, a6⟩ := tc_adv165 E h0 hbe hen (fun j j0 j1 => (run.2.1 j j0 j1).2) ((2147483647 - (0 : Int32).toInt).toNat + 1) 0 (q_si (q_si (q_si ρ R 3 w) R 4 ty) R 5 0) (by decide) (by decide) (by decide) (by show (0 : Int) ≤ _; omega) ((t3.si _ ⟨rfl, by decide, by decide⟩).si _ ⟨rfl, by decide, by decide⟩) (by rw [si_f (by decide), si_f (by decide)]; exact b3) (by rw [si_f (by decide), si_f (by decide), si_eq]) (by rw [si_eq]; rfl) (by show (0 : Int) ≤ 0 ∧ (0 : Int) < 10 ^ 0; decide)
        rw [a1]
        refine ⟨a2, a3, Or.inr (Or.inr (Or.inl ⟨q, hd, by rw [a4]; exact run, ?_⟩))⟩
        rw [a4, a5, si_f (by decide), si_eq]
        rcases hty with ⟨h1, h2⟩ | ⟨h1, h2⟩
        · exact Or.inl ⟨h1, h2⟩
        · exact Or.inr ⟨h1, h2, a6 h1⟩
      by_cases c3 : 4 < w.toInt - b
      · rw [if_pos c3, tc_165]
        exact go 4 (Or.inl ⟨c3, rfl⟩)
      · rw [if_neg c3]
        exact go 2 (Or.inr ⟨by omega, rfl⟩)
theorem tc_J52 (E : tc_E X σ R T n B) {τ : ST} (ht : tk (tc_S R) σ τ) {b : Int} (hb : (τ.1 R 2).toInt = b) (h0 : 0 ≤ b) (h1 : b ≤ n) : tc_Q σ R n B b (F_X3_advance_J52_2 X τ R) := by
  have E3 := E.2.2.1
  simp only [F_X3_advance_J52_2, ↓q_letE]
  obtain ⟨ρ, hρ⟩ : ∃ ρ, ρ = q_si τ R 3 (τ.1 R 2) := ⟨_, rfl⟩
  rw [← hρ]
  have ht2 : tk (tc_S R) σ ρ := by rw [hρ]; exact ht.si _ ⟨rfl, by decide, by decide⟩
  have hb2 : (ρ.1 R 2).toInt = b := by rw [hρ, si_f (by decide)]; exact hb
  have he2 : (ρ.1 R 3).toInt = b := by rw [hρ, si_eq]; exact hb
  have Eρ := E.kS ht2
  have sg := tc_sig Eρ hb2 ⟨h0, by omega⟩ (v := 0) (i := 0) rfl ⟨by decide, by decide⟩
  rw [Int.add_zero] at sg
  rw [Eρ.2.1, hb2, sg]
  by_cases q : b < n
  · rw [if_pos q]
    have sg2 := sg
    rw [tx_D_in h0 q] at sg2 ⊢
    by_cases q1 : B b < 97
    · rw [if_pos q1]
      exact tc_J117 E ht2 hb2 h0 q sg2 (fun h => by have := h.1; omega)
    · rw [if_neg q1]
      by_cases q2 : 122 < B b
      · rw [if_pos q2]
        exact tc_J117 E ht2 hb2 h0 q sg2 (fun h => by have := h.2; omega)
      · rw [if_neg q2]
        have t4 : tk (tc_S R) σ (q_si ρ R 4 1) := ht2.si _ ⟨rfl, by decide, by decide⟩
        have b4 : ((q_si ρ R 4 1).1 R 2).toInt = b := by rw [si_f (by decide)]; exact hb2
        have run := tc_eor (E.kS t4) b4 ⟨h0, h1⟩ 97 122
        have r97 : (97 : Int32).toInt = 97 := rfl
        have r122 : (122 : Int32).toInt = 122 := rfl
        rw [r97, r122] at run
        refine ⟨t4.si _ ⟨rfl, by decide, by decide⟩, by rw [si_f (by decide)]; exact b4, Or.inr (Or.inl ⟨q, ⟨by omega, by omega⟩, by rw [si_f (by decide), si_eq]; rfl, ?_⟩)⟩
        rw [si_eq]
        exact run
  · rw [if_neg q]
    exact ⟨ht2.si _ ⟨rfl, by decide, by decide⟩, by rw [si_f (by decide)]; exact hb2, Or.inl ⟨by omega, by rw [si_eq]; rfl, by rw [si_f (by decide)]; exact he2⟩⟩
/-- the class's advance -/
theorem tc_adv (E : tc_E X σ R T n B) {p : Int} (hp : (σ.1 R 3).toInt = p) (h0 : 0 ≤ p ∧ p ≤ n) : tk (tc_S R) σ (F_X3_advance X σ R) ∧ tx_tok B n p ((F_X3_advance X σ R).1 R 2).toInt ((F_X3_advance X σ R).1 R 3).toInt ((F_X3_advance X σ R).1 R 4).toInt ((F_X3_advance X σ R).1 R 5).toInt := by
  have E3 := E.2.2.1
  simp only [F_X3_advance, ↓q_letE]
  obtain ⟨τ, hτ⟩ : ∃ τ, τ = q_si σ R 2 (σ.1 R 3) := ⟨_, rfl⟩
  rw [← hτ]
  have ht : tk (tc_S R) σ τ := by rw [hτ]; exact tk.rf.si _ ⟨rfl, by decide, by decide⟩
  have hb : (τ.1 R 2).toInt = p := by rw [hτ, si_eq]; exact hp
  obtain ⟨k, hk⟩ : ∃ k, k = (2147483647 - (τ.1 R 2).toInt).toNat + 1 := ⟨_, rfl⟩
  rw [← hk]
  obtain ⟨τ', a1, a2, a3⟩ := tc_adv8 E k τ ht (by omega) (by omega) (by omega)
  rw [a1]
  rw [hb] at a3
  have hb2 : p ≤ (τ'.1 R 2).toInt := a3.1
  have hb3 : (τ'.1 R 2).toInt ≤ n := tx_run_le a3 h0.2
  obtain ⟨c1, c2, c3⟩ := tc_J52 E a2 rfl (by omega) hb3
  refine ⟨c1, ?_⟩
  rw [c2]
  exact ⟨a3, c3⟩
end TC
end
/-! FROM 48f.next.lean.txt -/
section
/-! THE REFERENCE'S SCANNER -/
def tkl (S L : Nat → Nat → Prop) (σ τ : ST) : Prop := (∀ b f, ¬ S b f → τ.1 b f = σ.1 b f) ∧ (∀ b f, ¬ L b f → τ.2.1 b f = σ.2.1 b f) ∧ τ.2.2 = σ.2.2
theorem tkl.rf {S L : Nat → Nat → Prop} {σ : ST} : tkl S L σ σ := ⟨fun _ _ _ => rfl, fun _ _ _ => rfl, rfl⟩
theorem tkl.tr {S L : Nat → Nat → Prop} {σ τ τ' : ST} (h : tkl S L σ τ) (h' : tkl S L τ τ') : tkl S L σ τ' := ⟨fun b f q => (h'.1 b f q).trans (h.1 b f q), fun b f q => (h'.2.1 b f q).trans (h.2.1 b f q), h'.2.2.trans h.2.2⟩
theorem tkl.mono {S L S' L' : Nat → Nat → Prop} {σ τ : ST} (h : tkl S L σ τ) (hs : ∀ b f, S b f → S' b f) (hl : ∀ b f, L b f → L' b f) : tkl S' L' σ τ := ⟨fun b f q => h.1 b f (fun z => q (hs b f z)), fun b f q => h.2.1 b f (fun z => q (hl b f z)), h.2.2⟩
theorem tkl.si {S L : Nat → Nat → Prop} {σ τ : ST} (h : tkl S L σ τ) {a f : Nat} (v : Int32) (hs : S a f) : tkl S L σ (q_si τ a f v) := by
  refine ⟨fun b g q => ?_, fun b g q => h.2.1 b g q, h.2.2⟩
  show (if b = a ∧ g = f then v else τ.1 b g) = _
  rw [if_neg]
  · exact h.1 b g q
  · rintro ⟨rfl, rfl⟩
    exact q hs
theorem tkl.sl {S L : Nat → Nat → Prop} {σ τ : ST} (h : tkl S L σ τ) {a f : Nat} (v : Int64) (hs : L a f) : tkl S L σ (q_sl τ a f v) := by
  refine ⟨fun b g q => h.1 b g q, fun b g q => ?_, h.2.2⟩
  show (if b = a ∧ g = f then v else τ.2.1 b g) = _
  rw [if_neg]
  · exact h.2.1 b g q
  · rintro ⟨rfl, rfl⟩
    exact q hs
theorem sl_eq (τ : ST) (a f : Nat) (v : Int64) : (q_sl τ a f v).2.1 a f = v := by
  show (if a = a ∧ f = f then v else _) = v
  rw [if_pos ⟨rfl, rfl⟩]
theorem sl_i (τ : ST) (a f : Nat) (v : Int64) (b g : Nat) : (q_sl τ a f v).1 b g = τ.1 b g := rfl
theorem si_l (τ : ST) (a f : Nat) (v : Int32) (b g : Nat) : (q_si τ a f v).2.1 b g = τ.2.1 b g := rfl
/-- a token's cells of the reference -/
def tn_S (a : Nat) : Nat → Nat → Prop := fun b f => b = a ∧ 14 ≤ f ∧ f ≤ 18
def tn_L (a : Nat) : Nat → Nat → Prop := fun b f => b = a ∧ f = 19
/-- the reference reads the first n bytes B of its tape -/
def tm_E (X : XW) (σ : ST) (a : Nat) (n : Int) (B : Int → Int) : Prop := (σ.1 a 9).toInt = n ∧ (0 ≤ n ∧ n ≤ 900) ∧ q_rf X a 7 ≠ a ∧ ∀ p : Int, 0 ≤ p → p < n → (σ.1 (q_rf X a 7) p.toNat).toInt = B p ∧ -128 ≤ B p ∧ B p ≤ 127
/-- what the token at b, to e, is: sign or word -/
def tm_ext (B : Int → Int) (b e ty num let_ word : Int) : Prop := (ty = 3 → num = B b) ∧ (ty = 1 → let_ = e - b ∧ (e - b ≤ 8 → word = tx_wv B b (e - b).toNat) ∧ (8 < e - b → word = -1))
section TM
variable {X : XW} {σ τ : ST} {a : Nat} {n : Int} {B : Int → Int}
theorem tm_E.k {S L : Nat → Nat → Prop} (E : tm_E X σ a n B) (h : tkl S L σ τ) (hs : ∀ b f, S b f → b ≠ q_rf X a 7 ∧ ¬ (b = a ∧ f = 9)) : tm_E X τ a n B := by
  obtain ⟨E1, E2, E3, E4⟩ := E
  refine ⟨?_, E2, E3, fun p p0 p1 => ?_⟩
  · rw [h.1 a 9 (fun q => (hs _ _ q).2 ⟨rfl, rfl⟩)]; exact E1
  · rw [h.1 (q_rf X a 7) p.toNat (fun q => (hs _ _ q).1 rfl)]; exact E4 p p0 p1
theorem tm_E.kS (E : tm_E X σ a n B) (h : tkl (tn_S a) (tn_L a) σ τ) : tm_E X τ a n B := E.k h (fun b f q => ⟨fun e => E.2.2.1 (e.symm.trans q.1), fun e => absurd q.2.1 (by rw [e.2]; decide)⟩)
theorem tm_look (E : tm_E X σ a n B) {v : Int32} {p : Int} (hv : v.toInt = p) (h0 : 0 ≤ p) : (F_X12_look2 X σ a v).toInt = if p < n then B p % 256 else 0 := by
  obtain ⟨E1, E2, E3, E4⟩ := E
  subst hv
  simp only [F_X12_look2, ↓q_letE]
  rw [E1]
  by_cases q : v.toInt < n
  · rw [if_pos q, if_pos q, Jvm.Kit.i32_mask (k := 8) _ 255 (by decide) (by decide), ar_cl, (E4 _ h0 q).1]
    rfl
  · rw [if_neg q, if_neg q]
    rfl
theorem tm_le {r : Int32} {x : Int} (hr : r.toInt = x % 256) (hb : -128 ≤ x ∧ x ≤ 127) : (F_X12_isLetter X σ r).toInt = if 97 ≤ x ∧ x ≤ 122 then 1 else 0 := by
  simp only [F_X12_isLetter]
  rw [hr]
  by_cases q : 97 ≤ x ∧ x ≤ 122
  · rw [if_pos q, if_neg (by omega), if_neg (by omega)]
    rfl
  · rw [if_neg q]
    by_cases q1 : x % 256 < 97
    · rw [if_pos q1]; rfl
    · rw [if_neg q1, if_pos (by omega)]; rfl
theorem tm_di {r : Int32} {x : Int} (hr : r.toInt = x % 256) (hb : -128 ≤ x ∧ x ≤ 127) : (F_X12_isDigit X σ r).toInt = if 48 ≤ x ∧ x ≤ 57 then 1 else 0 := by
  simp only [F_X12_isDigit]
  rw [hr]
  by_cases q : 48 ≤ x ∧ x ≤ 57
  · rw [if_pos q, if_neg (by omega), if_neg (by omega)]
    rfl
  · rw [if_neg q]
    by_cases q1 : x % 256 < 48
    · rw [if_pos q1]; rfl
    · rw [if_neg q1, if_pos (by omega)]; rfl
theorem tm_adv8 (E : tm_E X σ a n B) (k : Nat) : ∀ τ : ST, tkl (tn_S a) (tn_L a) σ τ → (n - (τ.1 a 15).toInt).toNat < k → 0 ≤ (τ.1 a 15).toInt → (τ.1 a 15).toInt ≤ n → ∃ τ' : ST, F_X12_next_L8_1 X a k τ = F_X12_next_J58_2 X τ' a ∧ tkl (tn_S a) (tn_L a) σ τ' ∧ tx_run (fun j => tx_bl (B j)) n (τ.1 a 15).toInt (τ'.1 a 15).toInt := by
  have E3 := E.2.1
  induction k with
  | zero => intro τ _ hm; exact absurd hm (Nat.not_lt_zero _)
  | succ k ih =>
    intro τ ht hm h0 h1
    have Eτ := E.kS ht
    obtain ⟨b, hb⟩ : ∃ b, (τ.1 a 15).toInt = b := ⟨_, rfl⟩
    rw [hb] at hm h0 h1 ⊢
    have lk := tm_look Eτ hb h0
    rw [F_X12_next_L8_1_s]
    simp only [F_X12_next_B8_1, ↓q_letE]
    rw [Eτ.1, hb, lk]
    by_cases q : b < n
    · rw [if_pos q, if_pos q]
      have hB := (Eτ.2.2.2 b h0 q).2
      have e1 : ((q_si τ a 15 (τ.1 a 15 + 1)).1 a 15).toInt = b + 1 := by rw [si_eq, y_inc (by omega), hb]
      have st : tx_bl (B b) → ∃ τ' : ST, F_X12_next_L8_1 X a k (q_si τ a 15 (τ.1 a 15 + 1)) = F_X12_next_J58_2 X τ' a ∧ tkl (tn_S a) (tn_L a) σ τ' ∧ tx_run (fun j => tx_bl (B j)) n b (τ'.1 a 15).toInt := by
        intro hbl
        have zz := ih (q_si τ a 15 (τ.1 a 15 + 1)) (ht.si _ ⟨rfl, by decide, by decide⟩) (by rw [e1]; omega) (by rw [e1]; omega) (by rw [e1]; omega)
        obtain ⟨τ', a1, a2, a3⟩ := zz
        rw [e1] at a3
        exact ⟨τ', a1, a2, tx_run_cons a3 q hbl⟩
      by_cases q1 : B b % 256 = 10
      · rw [if_pos q1]
        exact st (Or.inl (by omega))
      · rw [if_neg q1]
        by_cases q2 : B b % 256 = 32
        · rw [if_pos q2]
          exact st (Or.inr (by omega))
        · rw [if_neg q2]
          exact ⟨τ, rfl, ht, by rw [hb]; exact tx_run_nil (fun h => by have z := h.2; unfold tx_bl at z; omega)⟩
    · rw [if_neg q]
      exact ⟨τ, rfl, ht, by rw [hb]; exact tx_run_nil (fun h => q h.1)⟩
theorem tx_wv_b {b : Int} {m : Nat} (h : ∀ j : Int, b ≤ j → j < b + (m : Int) → tx_le (B j)) : 0 ≤ tx_wv B b m ∧ tx_wv B b m < 32 ^ m := by
  induction m with
  | zero => exact ⟨Int.le_refl 0, (by decide : (0 : Int) < 32 ^ 0)⟩
  | succ m ih =>
    have a1 := ih (fun j a c => h j a (by omega))
    have a2 := h (b + (m : Int)) (by omega) (by omega)
    unfold tx_le at a2
    have p : (32 : Int) ^ (m + 1) = 32 ^ m * 32 := Int.pow_succ 32 m
    show 0 ≤ tx_wv B b m * 32 + B (b + (m : Int)) - 96 ∧ tx_wv B b m * 32 + B (b + (m : Int)) - 96 < 32 ^ (m + 1)
    omega
theorem tm_109 (E : tm_E X σ a n B) {b : Int} (hb0 : 0 ≤ b) (k : Nat) : ∀ (τ : ST) (x : Int), (τ.1 a 16).toInt = x → (n - x).toNat < k → b ≤ x → x ≤ n → tkl (tn_S a) (tn_L a) σ τ → (τ.1 a 15).toInt = b → (∀ j, b ≤ j → j < x → tx_le (B j)) → (x - b ≤ 8 → (τ.2.1 a 19).toInt = tx_wv B b (x - b).toNat) → (8 < x - b → (τ.2.1 a 19).toInt = -1) →
    ∃ τ' : ST, F_X12_next_L109_5 X a k τ = τ' ∧ tkl (tn_S a) (tn_L a) σ τ' ∧ (τ'.1 a 15).toInt = b ∧ tx_run (fun j => tx_le (B j)) n x (τ'.1 a 16).toInt ∧ τ'.1 a 14 = τ.1 a 14 ∧ (τ'.1 a 18).toInt = (τ'.1 a 16).toInt - b ∧ ((τ'.1 a 16).toInt - b ≤ 8 → (τ'.2.1 a 19).toInt = tx_wv B b ((τ'.1 a 16).toInt - b).toNat) ∧ (8 < (τ'.1 a 16).toInt - b → (τ'.2.1 a 19).toInt = -1) := by
  have E3 := E.2.1
  induction k with
  | zero => intro τ x _ hm; exact absurd hm (Nat.not_lt_zero _)
  | succ k ih =>
    intro τ x hx hm h0 h1 ht hb hl hw1 hw2
    have Eτ := E.kS ht
    have lk := tm_look Eτ hx (by omega)
    rw [F_X12_next_L109_5_s]
    simp only [F_X12_next_B109_5, ↓q_letE]
    have fin : ¬ (x < n ∧ tx_le (B x)) → ∃ τ' : ST, F_X12_next_E182_6 X τ a = τ' ∧ tkl (tn_S a) (tn_L a) σ τ' ∧ (τ'.1 a 15).toInt = b ∧ tx_run (fun j => tx_le (B j)) n x (τ'.1 a 16).toInt ∧ τ'.1 a 14 = τ.1 a 14 ∧ (τ'.1 a 18).toInt = (τ'.1 a 16).toInt - b ∧ ((τ'.1 a 16).toInt - b ≤ 8 → (τ'.2.1 a 19).toInt = tx_wv B b ((τ'.1 a 16).toInt - b).toNat) ∧ (8 < (τ'.1 a 16).toInt - b → (τ'.2.1 a 19).toInt = -1) := by
      intro hn
      simp only [F_X12_next_E182_6, ↓q_letE]
      have e16 : ((q_si τ a 18 (τ.1 a 16 - τ.1 a 15)).1 a 16).toInt = x := by rw [si_f (by decide)]; exact hx
      refine ⟨_, rfl, ht.si _ ⟨rfl, by decide, by decide⟩, by rw [si_f (by decide)]; exact hb, ?_, si_f (by decide) a, ?_, ?_, ?_⟩
      · rw [e16]; exact tx_run_nil hn
      · rw [e16, si_eq, ar_sub, hx, hb, ar_wr (by omega) (by omega)]
      · rw [e16]; exact hw1
      · rw [e16]; exact hw2
    by_cases q : x < n
    · rw [if_pos q] at lk
      have hB := (Eτ.2.2.2 x (by omega) q).2
      have il := tm_le (X := X) (σ := τ) lk hB
      by_cases ql : tx_le (B x)
      · rw [if_pos (show 97 ≤ B x ∧ B x ≤ 122 from ql)] at il
        rw [il, if_neg (by decide)]
        clear fin
        have sz : (τ.1 a 16 - τ.1 a 15).toInt = x - b := by rw [ar_sub, hx, hb, ar_wr (by omega) (by omega)]
        rw [sz]
        have hl2 : ∀ j, b ≤ j → j < x + 1 → tx_le (B j) := fun j j0 j1 => by
          by_cases hj : j = x
          · subst hj; exact ql
          · exact hl j j0 (by omega)
        have e1 : (τ.1 a 16 + 1).toInt = x + 1 := by rw [y_inc (by omega), hx]
        have en : (x + 1 - b).toNat = (x - b).toNat + 1 := by omega
        have ec : (((x - b).toNat : Nat) : Int) = x - b := by omega
        have ep : b + (x - b) = x := by omega
        by_cases q8 : x - b < 8
        · rw [if_pos q8]
          have w1 := hw1 (by omega)
          have wb := tx_wv_b (B := B) (b := b) (m := (x - b).toNat) (fun j j0 j1 => hl j j0 (by omega))
          have pb : (32 : Int) ^ (x - b).toNat ≤ 32 ^ 7 := by
            have : (x - b).toNat = 0 ∨ (x - b).toNat = 1 ∨ (x - b).toNat = 2 ∨ (x - b).toNat = 3 ∨ (x - b).toNat = 4 ∨ (x - b).toNat = 5 ∨ (x - b).toNat = 6 ∨ (x - b).toNat = 7 := by omega
            rcases this with q | q | q | q | q | q | q | q <;> rw [q] <;> decide
          have p7 : (32 : Int) ^ 7 = 34359738368 := by decide
          have ql2 := ql
          unfold tx_le at ql2
          have r32 : (32 : Int64).toInt = 32 := rfl
          have r96 : (96 : Int64).toInt = 96 := rfl
          have nv : tx_wv B b (x + 1 - b).toNat = tx_wv B b (x - b).toNat * 32 + B x - 96 := by
            rw [en]
            show tx_wv B b (x - b).toNat * 32 + B (b + (((x - b).toNat : Nat) : Int)) - 96 = _
            rw [ec, ep]
          have ev : (τ.2.1 a 19 * 32 + (F_X12_look2 X τ a (τ.1 a 16)).toInt64 - 96).toInt = tx_wv B b (x + 1 - b).toNat := by
            rw [nv, ar_subl, ar_addl, ar_mull, w1, ar_i2l, lk, r32, r96, ar_vr (n := tx_wv B b (x - b).toNat * 32) (by omega) (by omega), ar_vr (n := tx_wv B b (x - b).toNat * 32 + B x % 256) (by omega) (by omega), ar_vr (by omega) (by omega)]
            omega
          have zz := ih (q_si (q_sl τ a 19 (τ.2.1 a 19 * 32 + (F_X12_look2 X τ a (τ.1 a 16)).toInt64 - 96)) a 16 (τ.1 a 16 + 1)) (x + 1) (by rw [si_eq]; exact e1) (by omega) (by omega) (by omega) ((ht.sl _ ⟨rfl, rfl⟩).si _ ⟨rfl, by decide, by decide⟩) (by rw [si_f (by decide)]; exact hb) hl2 (fun _ => by rw [si_l, sl_eq]; exact ev) (fun h => absurd h (by omega))
          obtain ⟨τ', a1, a2, a3, a4, a5, a6, a7, a8⟩ := zz
          exact ⟨τ', a1, a2, a3, tx_run_cons a4 q ql, by rw [a5, si_f (by decide)]; rfl, a6, a7, a8⟩
        · rw [if_neg q8]
          have zz := ih (q_si (q_sl τ a 19 (-1)) a 16 (τ.1 a 16 + 1)) (x + 1) (by rw [si_eq]; exact e1) (by omega) (by omega) (by omega) ((ht.sl _ ⟨rfl, rfl⟩).si _ ⟨rfl, by decide, by decide⟩) (by rw [si_f (by decide)]; exact hb) hl2 (fun h => absurd h (by omega)) (fun _ => by rw [si_l, sl_eq]; rfl)
          obtain ⟨τ', a1, a2, a3, a4, a5, a6, a7, a8⟩ := zz
          exact ⟨τ', a1, a2, a3, tx_run_cons a4 q ql, by rw [a5, si_f (by decide)]; rfl, a6, a7, a8⟩
      · rw [if_neg (show ¬ (97 ≤ B x ∧ B x ≤ 122) from ql)] at il
        rw [il, if_pos rfl]
        exact fin (fun h => ql h.2)
    · rw [if_neg q] at lk
      have il : (F_X12_isLetter X τ (F_X12_look2 X τ a (τ.1 a 16))).toInt = 0 := by
        simp only [F_X12_isLetter]
        rw [lk]
        rfl
      rw [il, if_pos rfl]
      exact fin (fun h => q h.1)
theorem tm_210 (E : tm_E X σ a n B) {b : Int} (hb0 : 0 ≤ b) (hbn : b < n) (hbd : tx_di (B b)) (k : Nat) : ∀ (τ : ST) (x : Int), (τ.1 a 16).toInt = x → (n - x).toNat < k → b ≤ x → x ≤ n → tkl (tn_S a) (tn_L a) σ τ → (τ.1 a 15).toInt = b → (∀ j, b ≤ j → j < x → tx_di (B j)) → (x - b ≤ 4 → (τ.1 a 17).toInt = tx_nv B b (x - b).toNat) → (0 ≤ tx_nv B b (x - b).toNat ∧ (x - b ≤ 4 → tx_nv B b (x - b).toNat < 10 ^ (x - b).toNat)) →
    ∃ τ' : ST, F_X12_next_L210_3 X a k τ = τ' ∧ tkl (tn_S a) (tn_L a) σ τ' ∧ (τ'.1 a 15).toInt = b ∧ tx_run (fun j => tx_di (B j)) n x (τ'.1 a 16).toInt ∧ (4 < (τ'.1 a 16).toInt - b ∧ (τ'.1 a 14).toInt = 4 ∨ (τ'.1 a 16).toInt - b ≤ 4 ∧ (τ'.1 a 14).toInt = 2 ∧ (τ'.1 a 17).toInt = tx_nv B b ((τ'.1 a 16).toInt - b).toNat) := by
  have E3 := E.2.1
  induction k with
  | zero => intro τ x _ hm; exact absurd hm (Nat.not_lt_zero _)
  | succ k ih =>
    intro τ x hx hm h0 h1 ht hb hl hw1 hwb
    have Eτ := E.kS ht
    have lk := tm_look Eτ hx (by omega)
    have sz : (τ.1 a 16 - τ.1 a 15).toInt = x - b := by rw [ar_sub, hx, hb, ar_wr (by omega) (by omega)]
    rw [F_X12_next_L210_3_s]
    simp only [F_X12_next_B210_3, ↓q_letE]
    rw [sz]
    have fin : ¬ (x < n ∧ tx_di (B x)) → ∃ τ' : ST, F_X12_next_E273_4 X τ a = τ' ∧ tkl (tn_S a) (tn_L a) σ τ' ∧ (τ'.1 a 15).toInt = b ∧ tx_run (fun j => tx_di (B j)) n x (τ'.1 a 16).toInt ∧ (4 < (τ'.1 a 16).toInt - b ∧ (τ'.1 a 14).toInt = 4 ∨ (τ'.1 a 16).toInt - b ≤ 4 ∧ (τ'.1 a 14).toInt = 2 ∧ (τ'.1 a 17).toInt = tx_nv B b ((τ'.1 a 16).toInt - b).toNat) := by
      intro hn
      simp only [F_X12_next_E273_4, ↓q_letE]
      rw [sz]
      have e16 : ∀ v : Int32, ((q_si τ a 14 v).1 a 16).toInt = x := fun v => by rw [si_f (by decide)]; exact hx
      by_cases q4 : 4 < x - b
      · rw [if_pos q4]
        refine ⟨_, rfl, ht.si _ ⟨rfl, by decide, by decide⟩, by rw [si_f (by decide)]; exact hb, ?_, Or.inl ?_⟩
        · rw [e16]; exact tx_run_nil hn
        · rw [e16, si_eq]; exact ⟨q4, rfl⟩
      · rw [if_neg q4]
        refine ⟨_, rfl, ht.si _ ⟨rfl, by decide, by decide⟩, by rw [si_f (by decide)]; exact hb, ?_, Or.inr ?_⟩
        · rw [e16]; exact tx_run_nil hn
        · rw [e16, si_eq, si_f (by decide)]; exact ⟨by omega, rfl, hw1 (by omega)⟩
    by_cases q : x < n
    · rw [if_pos q] at lk
      have hB := (Eτ.2.2.2 x (by omega) q).2
      have il := tm_di (X := X) (σ := τ) lk hB
      by_cases ql : tx_di (B x)
      · rw [if_pos (show 48 ≤ B x ∧ B x ≤ 57 from ql)] at il
        rw [il, if_neg (by decide)]
        clear fin
        have hl2 : ∀ j, b ≤ j → j < x + 1 → tx_di (B j) := fun j j0 j1 => by
          by_cases hj : j = x
          · subst hj; exact ql
          · exact hl j j0 (by omega)
        have e1 : (τ.1 a 16 + 1).toInt = x + 1 := by rw [y_inc (by omega), hx]
        have en : (x + 1 - b).toNat = (x - b).toNat + 1 := by omega
        have ec : (((x - b).toNat : Nat) : Int) = x - b := by omega
        have ep : b + (x - b) = x := by omega
        have nv : tx_nv B b (x + 1 - b).toNat = tx_nv B b (x - b).toNat * 10 + B x - 48 := by
          rw [en]
          show tx_nv B b (x - b).toNat * 10 + B (b + (((x - b).toNat : Nat) : Int)) - 48 = _
          rw [ec, ep]
        have ql2 := ql
        unfold tx_di at ql2
        by_cases q8 : x - b < 4
        · rw [if_pos q8]
          have w1 := hw1 (by omega)
          have wb := hwb.2 (by omega)
          have w0 := hwb.1
          have pb : (10 : Int) ^ (x - b).toNat ≤ 1000 := by
            have : (x - b).toNat = 0 ∨ (x - b).toNat = 1 ∨ (x - b).toNat = 2 ∨ (x - b).toNat = 3 := by omega
            rcases this with q | q | q | q <;> rw [q] <;> decide
          have pw : (10 : Int) ^ (x + 1 - b).toNat = 10 ^ (x - b).toNat * 10 := by rw [en, Int.pow_succ]
          have r10 : (10 : Int32).toInt = 10 := rfl
          have r48 : (48 : Int32).toInt = 48 := rfl
          have ev : (10 * τ.1 a 17 + F_X12_look2 X τ a (τ.1 a 16) - 48).toInt = tx_nv B b (x + 1 - b).toNat := by
            rw [nv, ar_sub, ar_add, ar_mul, w1, lk, r10, r48, ar_wr (n := 10 * tx_nv B b (x - b).toNat) (by omega) (by omega), ar_wr (n := 10 * tx_nv B b (x - b).toNat + B x % 256) (by omega) (by omega), ar_wr (by omega) (by omega)]
            omega
          have zz := ih (q_si (q_si τ a 17 (10 * τ.1 a 17 + F_X12_look2 X τ a (τ.1 a 16) - 48)) a 16 ((q_si τ a 17 (10 * τ.1 a 17 + F_X12_look2 X τ a (τ.1 a 16) - 48)).1 a 16 + 1)) (x + 1) (by rw [si_eq, si_f (by decide)]; exact e1) (by omega) (by omega) (by omega) ((ht.si _ ⟨rfl, by decide, by decide⟩).si _ ⟨rfl, by decide, by decide⟩) (by rw [si_f (by decide), si_f (by decide)]; exact hb) hl2 (fun _ => by rw [si_f (by decide), si_eq]; exact ev) ⟨by rw [nv]; omega, fun _ => by rw [nv, pw]; omega⟩
          obtain ⟨τ', a1, a2, a3, a4, a5⟩ := zz
          exact ⟨τ', a1, a2, a3, tx_run_cons a4 q ql, a5⟩
        · rw [if_neg q8]
          have zz := ih (q_si τ a 16 (τ.1 a 16 + 1)) (x + 1) (by rw [si_eq]; exact e1) (by omega) (by omega) (by omega) (ht.si _ ⟨rfl, by decide, by decide⟩) (by rw [si_f (by decide)]; exact hb) hl2 (fun h => absurd h (by omega)) ⟨by rw [nv]; have := hwb.1; omega, fun h => absurd h (by omega)⟩
          obtain ⟨τ', a1, a2, a3, a4, a5⟩ := zz
          exact ⟨τ', a1, a2, a3, tx_run_cons a4 q ql, a5⟩
      · rw [if_neg (show ¬ (48 ≤ B x ∧ B x ≤ 57) from ql)] at il
        rw [il, if_pos rfl]
        exact fin (fun h => ql h.2)
    · rw [if_neg q] at lk
      have il : (F_X12_isDigit X τ (F_X12_look2 X τ a (τ.1 a 16))).toInt = 0 := by
        simp only [F_X12_isDigit]
        rw [lk]
        rfl
      rw [il, if_pos rfl]
      exact fin (fun h => q h.1)
theorem tm_J58 (E : tm_E X σ a n B) {τ : ST} (ht : tkl (tn_S a) (tn_L a) σ τ) {b : Int} (hb : (τ.1 a 15).toInt = b) (h0 : 0 ≤ b) (h1 : b ≤ n) : tkl (tn_S a) (tn_L a) σ (F_X12_next_J58_2 X τ a) ∧ ((F_X12_next_J58_2 X τ a).1 a 15).toInt = b ∧ tx_cls B n b ((F_X12_next_J58_2 X τ a).1 a 16).toInt ((F_X12_next_J58_2 X τ a).1 a 14).toInt ((F_X12_next_J58_2 X τ a).1 a 17).toInt ∧ tm_ext B b ((F_X12_next_J58_2 X τ a).1 a 16).toInt ((F_X12_next_J58_2 X τ a).1 a 14).toInt ((F_X12_next_J58_2 X τ a).1 a 17).toInt ((F_X12_next_J58_2 X τ a).1 a 18).toInt ((F_X12_next_J58_2 X τ a).2.1 a 19).toInt := by
  have E3 := E.2.1
  simp only [F_X12_next_J58_2, ↓q_letE]
  obtain ⟨ρ, hρ⟩ : ∃ ρ, ρ = q_si τ a 16 (τ.1 a 15) := ⟨_, rfl⟩
  rw [← hρ]
  have ht2 : tkl (tn_S a) (tn_L a) σ ρ := by rw [hρ]; exact ht.si _ ⟨rfl, by decide, by decide⟩
  have hb2 : (ρ.1 a 15).toInt = b := by rw [hρ, si_f (by decide)]; exact hb
  have he2 : (ρ.1 a 16).toInt = b := by rw [hρ, si_eq]; exact hb
  have Eρ := E.kS ht2
  have lk := tm_look Eρ hb2 h0
  rw [Eρ.1, hb2]
  by_cases q : b < n
  · rw [if_pos q]
    rw [if_pos q] at lk
    have hB := (Eρ.2.2.2 b h0 q).2
    have il := tm_le (X := X) (σ := ρ) lk hB
    have id_ := tm_di (X := X) (σ := ρ) lk hB
    by_cases ql : tx_le (B b)
    · rw [if_pos (show 97 ≤ B b ∧ B b ≤ 122 from ql)] at il
      rw [il, if_neg (by decide)]
      obtain ⟨τ', a1, a2, a3, a4, a5, a6, a7, a8⟩ := tm_109 E h0 ((((q_sl (q_si ρ a 14 1) a 19 0).1 a 9).toInt - ((q_sl (q_si ρ a 14 1) a 19 0).1 a 16).toInt).toNat + 1) (q_sl (q_si ρ a 14 1) a 19 0) b (by rw [sl_i, si_f (by decide)]; exact he2) (by rw [sl_i, sl_i, si_f (by decide), si_f (by decide), Eρ.1, he2]; omega) (Int.le_refl _) h1 ((ht2.si _ ⟨rfl, by decide, by decide⟩).sl _ ⟨rfl, rfl⟩) (by rw [sl_i, si_f (by decide)]; exact hb2) (fun j j0 j1 => by omega) (fun _ => by rw [sl_eq, Int.sub_self]; rfl) (fun h => absurd h (by omega))
      rw [a1]
      have ty : (τ'.1 a 14).toInt = 1 := by rw [a5, sl_i, si_eq]; rfl
      exact ⟨a2, a3, Or.inr (Or.inl ⟨q, ql, ty, a4⟩), ⟨fun h => absurd h (by omega), fun _ => ⟨a6, a7, a8⟩⟩⟩
    · rw [if_neg (show ¬ (97 ≤ B b ∧ B b ≤ 122) from ql)] at il
      rw [il, if_pos rfl]
      by_cases qd : tx_di (B b)
      · rw [if_pos (show 48 ≤ B b ∧ B b ≤ 57 from qd)] at id_
        rw [id_, if_neg (by decide)]
        obtain ⟨τ', a1, a2, a3, a4, a5⟩ := tm_210 E h0 q qd ((((q_si ρ a 17 0).1 a 9).toInt - ((q_si ρ a 17 0).1 a 16).toInt).toNat + 1) (q_si ρ a 17 0) b (by rw [si_f (by decide)]; exact he2) (by rw [si_f (by decide), si_f (by decide), Eρ.1, he2]; omega) (Int.le_refl _) h1 (ht2.si _ ⟨rfl, by decide, by decide⟩) (by rw [si_f (by decide)]; exact hb2) (fun j j0 j1 => by omega) (fun _ => by rw [si_eq, Int.sub_self]; rfl) (by rw [Int.sub_self]; exact ⟨Int.le_refl 0, fun _ => (by decide : (0 : Int) < 10 ^ 0)⟩)
        rw [a1]
        refine ⟨a2, a3, Or.inr (Or.inr (Or.inl ⟨q, qd, a4, a5⟩)), ⟨fun h => ?_, fun h => ?_⟩⟩
        · rcases a5 with ⟨_, z⟩ | ⟨_, z, _⟩ <;> omega
        · rcases a5 with ⟨_, z⟩ | ⟨_, z, _⟩ <;> omega
      · rw [if_neg (show ¬ (48 ≤ B b ∧ B b ≤ 57) from qd)] at id_
        rw [id_, if_pos rfl]
        obtain ⟨r, hr⟩ : ∃ r, r = F_X12_look2 X ρ a (ρ.1 a 15) := ⟨_, rfl⟩
        rw [← hr] at lk ⊢
        have e1 : (ρ.1 a 15 + 1).toInt = b + 1 := by rw [y_inc (by omega), hb2]
        have fin : ∀ ty : Int32, (tx_sg (B b) ∧ ty.toInt = 3 ∨ ¬ tx_sg (B b) ∧ ty.toInt = 4) → tkl (tn_S a) (tn_L a) σ (q_si (q_si (q_si ρ a 16 (ρ.1 a 15 + 1)) a 17 r) a 14 ty) ∧ ((q_si (q_si (q_si ρ a 16 (ρ.1 a 15 + 1)) a 17 r) a 14 ty).1 a 15).toInt = b ∧ tx_cls B n b ((q_si (q_si (q_si ρ a 16 (ρ.1 a 15 + 1)) a 17 r) a 14 ty).1 a 16).toInt ((q_si (q_si (q_si ρ a 16 (ρ.1 a 15 + 1)) a 17 r) a 14 ty).1 a 14).toInt ((q_si (q_si (q_si ρ a 16 (ρ.1 a 15 + 1)) a 17 r) a 14 ty).1 a 17).toInt ∧ tm_ext B b ((q_si (q_si (q_si ρ a 16 (ρ.1 a 15 + 1)) a 17 r) a 14 ty).1 a 16).toInt ((q_si (q_si (q_si ρ a 16 (ρ.1 a 15 + 1)) a 17 r) a 14 ty).1 a 14).toInt ((q_si (q_si (q_si ρ a 16 (ρ.1 a 15 + 1)) a 17 r) a 14 ty).1 a 17).toInt ((q_si (q_si (q_si ρ a 16 (ρ.1 a 15 + 1)) a 17 r) a 14 ty).1 a 18).toInt ((q_si (q_si (q_si ρ a 16 (ρ.1 a 15 + 1)) a 17 r) a 14 ty).2.1 a 19).toInt := by
          intro ty hs
          have f16 : (q_si (q_si (q_si ρ a 16 (ρ.1 a 15 + 1)) a 17 r) a 14 ty).1 a 16 = ρ.1 a 15 + 1 := by rw [si_f (by decide), si_f (by decide), si_eq]
          have f17 : (q_si (q_si (q_si ρ a 16 (ρ.1 a 15 + 1)) a 17 r) a 14 ty).1 a 17 = r := by rw [si_f (by decide), si_eq]
          have f14 : (q_si (q_si (q_si ρ a 16 (ρ.1 a 15 + 1)) a 17 r) a 14 ty).1 a 14 = ty := si_eq _ _ _ _
          have f15 : (q_si (q_si (q_si ρ a 16 (ρ.1 a 15 + 1)) a 17 r) a 14 ty).1 a 15 = ρ.1 a 15 := by rw [si_f (by decide), si_f (by decide), si_f (by decide)]
          rw [f16, f17, f14, f15, e1]
          refine ⟨((ht2.si _ ⟨rfl, by decide, by decide⟩).si _ ⟨rfl, by decide, by decide⟩).si _ ⟨rfl, by decide, by decide⟩, hb2, Or.inr (Or.inr (Or.inr ⟨q, ql, qd, rfl, hs⟩)), fun h => ?_, fun h => ?_⟩
          · rcases hs with ⟨h1, _⟩ | ⟨_, h2⟩
            · unfold tx_sg at h1; omega
            · omega
          · rcases hs with ⟨_, h2⟩ | ⟨_, h2⟩ <;> omega
        have sb : (F_X12_isSignByte X (q_si (q_si ρ a 16 (ρ.1 a 15 + 1)) a 17 r) a r).toInt = if B b = 59 ∨ B b = 60 ∨ B b = 62 ∨ B b = 61 then 1 else 0 := by
          simp only [F_X12_isSignByte]
          rw [lk]
          repeat' split
          all_goals first | rfl | omega
        rw [sb]
        by_cases qs : tx_sg (B b)
        · rw [if_pos (show B b = 59 ∨ B b = 60 ∨ B b = 62 ∨ B b = 61 from qs), if_neg (by decide)]
          exact fin 3 (Or.inl ⟨qs, rfl⟩)
        · rw [if_neg (show ¬ (B b = 59 ∨ B b = 60 ∨ B b = 62 ∨ B b = 61) from qs), if_pos rfl]
          exact fin 4 (Or.inr ⟨qs, rfl⟩)
  · rw [if_neg q]
    refine ⟨ht2.si _ ⟨rfl, by decide, by decide⟩, by rw [si_f (by decide)]; exact hb2, Or.inl ⟨by omega, by rw [si_eq]; rfl, by rw [si_f (by decide)]; exact he2⟩, fun h => ?_, fun h => ?_⟩
    · rw [si_eq] at h; exact absurd h (by decide)
    · rw [si_eq] at h; exact absurd h (by decide)
/-- the reference's next -/
theorem tm_next (E : tm_E X σ a n B) {p : Int} (hp : (σ.1 a 16).toInt = p) (h0 : 0 ≤ p ∧ p ≤ n) : tkl (tn_S a) (tn_L a) σ (F_X12_next X σ a) ∧ tx_tok B n p ((F_X12_next X σ a).1 a 15).toInt ((F_X12_next X σ a).1 a 16).toInt ((F_X12_next X σ a).1 a 14).toInt ((F_X12_next X σ a).1 a 17).toInt ∧ tm_ext B ((F_X12_next X σ a).1 a 15).toInt ((F_X12_next X σ a).1 a 16).toInt ((F_X12_next X σ a).1 a 14).toInt ((F_X12_next X σ a).1 a 17).toInt ((F_X12_next X σ a).1 a 18).toInt ((F_X12_next X σ a).2.1 a 19).toInt := by
  have E3 := E.2.1
  simp only [F_X12_next, ↓q_letE]
  obtain ⟨τ, hτ⟩ : ∃ τ, τ = q_si σ a 15 (σ.1 a 16) := ⟨_, rfl⟩
  rw [← hτ]
  have ht : tkl (tn_S a) (tn_L a) σ τ := by rw [hτ]; exact tkl.rf.si _ ⟨rfl, by decide, by decide⟩
  have hb : (τ.1 a 15).toInt = p := by rw [hτ, si_eq]; exact hp
  have h9 := (E.kS ht).1
  obtain ⟨k, hk⟩ : ∃ k, k = ((τ.1 a 9).toInt - (τ.1 a 15).toInt).toNat + 1 := ⟨_, rfl⟩
  rw [← hk]
  obtain ⟨τ', a1, a2, a3⟩ := tm_adv8 E k τ ht (by rw [hk, h9]; omega) (by omega) (by omega)
  rw [a1]
  rw [hb] at a3
  have hb2 : p ≤ (τ'.1 a 15).toInt := a3.1
  have hb3 : (τ'.1 a 15).toInt ≤ n := tx_run_le a3 h0.2
  obtain ⟨c1, c2, c3, c4⟩ := tm_J58 E a2 rfl (by omega) hb3
  refine ⟨c1, ?_⟩
  rw [c2]
  exact ⟨⟨a3, c3⟩, c4⟩
end TM
end
/-! FROM 48g.words.lean.txt -/
section
/-! WORDS -/
/-- the letters of the String constant r -/
def y_ch (r : Nat) (i : Int) : Int := ((q_sbyt.getD r []).getD i.toNat 0).toInt
/-- the number of the String constant r -/
def y_cw (r : Nat) : Int := match r with | 0 => 11843731 | 1 => 164968 | 2 => 12343 | 3 => 688 | 4 => 147182 | 5 => 624037 | 6 => 441972 | 7 => 549512370 | 9 => 402611 | 10 => 150637203 | 11 => 263620 | 12 => 486 | 13 => 5572 | 14 => 677454 | 15 => 643568 | 16 => 409072 | 17 => 762030 | 18 => 3197075 | 19 => 267312 | 20 => 20201198 | 21 => 24046 | _ => -2
theorem tj_asc : ∀ l ∈ q_sbyt, ∀ c ∈ l, 32 ≤ c.toInt ∧ c.toInt ≤ 122 := by decide +kernel
theorem tj_ch_b (r : Nat) (i : Int) : 0 ≤ y_ch r i ∧ y_ch r i ≤ 122 := by
  unfold y_ch
  by_cases h : r < q_sbyt.length
  · have e : q_sbyt.getD r [] = q_sbyt[r] := by simp [List.getD, h]
    rw [e]
    by_cases h2 : i.toNat < (q_sbyt[r]).length
    · have e2 : (q_sbyt[r]).getD i.toNat 0 = (q_sbyt[r])[i.toNat] := by simp [List.getD, h2]
      rw [e2]
      have := tj_asc _ (List.getElem_mem h) _ (List.getElem_mem h2)
      omega
    · have e2 : (q_sbyt[r]).getD i.toNat 0 = 0 := by simp [List.getD, List.getElem?_eq_none (Nat.le_of_not_lt h2)]
      rw [e2]
      decide
  · have e : q_sbyt.getD r [] = [] := by simp [List.getD, List.getElem?_eq_none (Nat.le_of_not_lt h)]
    rw [e]
    show 0 ≤ (0 : Int32).toInt ∧ (0 : Int32).toInt ≤ 122
    decide
theorem tj_len {X : XW} {σ : ST} (r : Nat) : (F_J0_length_8abf5 X σ r).toInt = ((q_slen.getD r 0 : Nat) : Int) := by
  simp only [F_J0_length_8abf5, F_J0_coder_7d493, ↓q_letE]
  rw [if_neg (by decide)]
  have e : (Int32.ofNat (q_slen.getD r 0)) >>> ((0 : Int32) &&& 31) = Int32.ofNat (q_slen.getD r 0) := sb_shr0 _
  rw [e]
  exact nI_toInt (q_slen_lt r)
theorem tj_chr {X : XW} {σ : ST} (r : Nat) {v : Int32} {i : Int} (hv : v.toInt = i) : (F_J0_charAt_5068e X σ r v).toInt = y_ch r i := by
  subst hv
  have hb := tj_ch_b r v.toInt
  have il : (F_J0_isLatin1_aae02 X σ r).toInt = 1 := by
    simp only [F_J0_isLatin1_aae02]
    rw [if_neg (by decide), if_pos (by decide)]
    rfl
  simp only [F_J0_charAt_5068e, F_J1_charAt_3b067, ↓q_letE]
  rw [il, if_neg (by decide), ar_cl]
  have e0 : ((q_sbyt.getD r []).getD v.toInt.toNat 0).toInt = y_ch r v.toInt := rfl
  have e1 : ((q_sbyt.getD r []).getD v.toInt.toNat 0 &&& 255).toInt = y_ch r v.toInt := by
    rw [Jvm.Kit.i32_mask (k := 8) _ 255 (by decide) (by decide), e0]
    have p : (2 : Int) ^ 8 = 256 := by decide
    rw [p]
    omega
  rw [lg_i2c_word (by rw [e1]; omega) (by rw [e1]; omega)]
  exact e1
theorem tx_wv_inj {B B' : Int → Int} {b b' : Int} {k : Nat} : ∀ {k' : Nat}, (∀ j : Int, b ≤ j → j < b + (k : Int) → tx_le (B j)) → (∀ j : Int, b' ≤ j → j < b' + (k' : Int) → tx_le (B' j)) → tx_wv B b k = tx_wv B' b' k' → k = k' ∧ ∀ i : Nat, i < k → B (b + (i : Int)) = B' (b' + (i : Int)) := by
  induction k with
  | zero =>
    intro k' h h' e
    cases k' with
    | zero => exact ⟨rfl, fun i hi => absurd hi (Nat.not_lt_zero _)⟩
    | succ m =>
      have a1 := (tx_wv_b (B := B') (b := b') (m := m) (fun j a c => h' j a (by omega))).1
      have a2 := h' (b' + (m : Int)) (by omega) (by omega)
      unfold tx_le at a2
      have e2 : (0 : Int) = tx_wv B' b' m * 32 + B' (b' + (m : Int)) - 96 := e
      omega
  | succ k ih =>
    intro k' h h' e
    have c2 := h (b + (k : Int)) (by omega) (by omega)
    unfold tx_le at c2
    have c1 := (tx_wv_b (B := B) (b := b) (m := k) (fun j a c => h j a (by omega))).1
    cases k' with
    | zero =>
      have e2 : tx_wv B b k * 32 + B (b + (k : Int)) - 96 = (0 : Int) := e
      omega
    | succ m =>
      have a1 := (tx_wv_b (B := B') (b := b') (m := m) (fun j a c => h' j a (by omega))).1
      have a2 := h' (b' + (m : Int)) (by omega) (by omega)
      unfold tx_le at a2
      have e2 : tx_wv B b k * 32 + B (b + (k : Int)) - 96 = tx_wv B' b' m * 32 + B' (b' + (m : Int)) - 96 := e
      have e3 : tx_wv B b k = tx_wv B' b' m := by omega
      have e4 : B (b + (k : Int)) = B' (b' + (m : Int)) := by omega
      obtain ⟨i1, i2⟩ := ih (fun j a c => h j a (by omega)) (fun j a c => h' j a (by omega)) e3
      subst i1
      refine ⟨rfl, fun i hi => ?_⟩
      by_cases q : i = k
      · subst q; exact e4
      · exact i2 i (by omega)
theorem tx_wv_ext {B B' : Int → Int} {b b' : Int} {k : Nat} (h : ∀ i : Nat, i < k → B (b + (i : Int)) = B' (b' + (i : Int))) : tx_wv B b k = tx_wv B' b' k := by
  induction k with
  | zero => rfl
  | succ k ih =>
    show tx_wv B b k * 32 + B (b + (k : Int)) - 96 = tx_wv B' b' k * 32 + B' (b' + (k : Int)) - 96
    rw [ih (fun i hi => h i (by omega)), h k (by omega)]
/-- the token from b to e is the word r -/
def y_wd (B : Int → Int) (b e : Int) (r : Nat) : Prop := e - b = ((q_slen.getD r 0 : Nat) : Int) ∧ ∀ i : Nat, i < q_slen.getD r 0 → B (b + (i : Int)) = y_ch r (i : Int)
/-- r is a word of letters, eight at the most, and its number is y_cw r -/
def y_isw (r : Nat) : Prop := r < 22 ∧ r ≠ 8
theorem y_isw_le : ∀ r, y_isw r → q_slen.getD r 0 ≤ 6 ∧ (∀ i, i < q_slen.getD r 0 → 97 ≤ ((q_sbyt.getD r []).getD i 0).toInt ∧ ((q_sbyt.getD r []).getD i 0).toInt ≤ 122) := by
  have h : ∀ r, r < 22 → r ≠ 8 → q_slen.getD r 0 ≤ 6 ∧ (∀ i, i < q_slen.getD r 0 → 97 ≤ ((q_sbyt.getD r []).getD i 0).toInt ∧ ((q_sbyt.getD r []).getD i 0).toInt ≤ 122) := by decide +kernel
  exact fun r hr => h r hr.1 hr.2
theorem y_cw_wv : ∀ r, r < 22 → r ≠ 8 → tx_wv (y_ch r) 0 (q_slen.getD r 0) = y_cw r := by decide +kernel
theorem y_ch_le {r : Nat} (hr : y_isw r) (j : Int) (h0 : 0 ≤ j) (h1 : j < ((q_slen.getD r 0 : Nat) : Int)) : tx_le (y_ch r j) := (y_isw_le r hr).2 j.toNat (by omega)
/-- by its number -/
theorem y_wd_iff {B : Int → Int} {b e : Int} {r : Nat} (hr : y_isw r) (hbe : b ≤ e) (hl : ∀ j, b ≤ j → j < e → tx_le (B j)) {word : Int} (h8 : e - b ≤ 8 → word = tx_wv B b (e - b).toNat) (h9 : 8 < e - b → word = -1) : y_wd B b e r ↔ word = y_cw r := by
  have ln := (y_isw_le r hr).1
  have cw := y_cw_wv r hr.1 hr.2
  constructor
  · rintro ⟨h1, h2⟩
    rw [h8 (by omega), ← cw, h1, Int.toNat_natCast]
    exact tx_wv_ext (fun i hi => by rw [Int.zero_add]; exact h2 i hi)
  · intro h
    by_cases q : e - b ≤ 8
    · rw [h8 q, ← cw] at h
      have z := tx_wv_inj (B := B) (B' := y_ch r) (b := b) (b' := 0) (k := (e - b).toNat) (k' := q_slen.getD r 0) (fun j a c => hl j a (by omega)) (fun j a c => y_ch_le hr j a (by omega)) h
      refine ⟨by omega, fun i hi => ?_⟩
      have := z.2 i (by omega)
      rw [Int.zero_add] at this
      exact this
    · rw [h9 (by omega)] at h
      have p : 0 ≤ y_cw r := by rw [← cw]; exact (tx_wv_b (fun j a c => y_ch_le hr j a (by omega))).1
      omega

section WD
variable {X : XW} {σ τ : ST} {R T a : Nat} {n : Int} {B : Int → Int}
theorem tc_isWordL (E : tc_E X σ R T n B) {b e : Int} (hb : (σ.1 R 2).toInt = b) (h0 : 0 ≤ b) (hen : e ≤ n) {r : Nat} (hr : r < 22) (hlen : e - b = ((q_slen.getD r 0 : Nat) : Int)) (k : Nat) : ∀ x : Int32, (2147483647 - x.toInt).toNat < k → 0 ≤ x.toInt → x.toInt ≤ e - b → ((F_X3_isWord_L23_1 X σ r R k x).toInt = 1 ∨ (F_X3_isWord_L23_1 X σ r R k x).toInt = 0) ∧ ((F_X3_isWord_L23_1 X σ r R k x).toInt = 1 ↔ ∀ i : Nat, x.toInt ≤ (i : Int) → i < q_slen.getD r 0 → B (b + (i : Int)) = y_ch r (i : Int)) := by
  have E3 := E.2.2.1
  induction k with
  | zero => intro x hm; exact absurd hm (Nat.not_lt_zero _)
  | succ k ih =>
    intro x hm x0 x1
    rw [F_X3_isWord_L23_1_s]
    simp only [F_X3_isWord_B23_1, ↓q_letE]
    rw [tj_len, tj_chr r (v := x) rfl]
    by_cases q : x.toInt < ((q_slen.getD r 0 : Nat) : Int)
    · rw [if_pos q, tc_sig E hb ⟨h0, by omega⟩ (v := x) rfl ⟨x0, by omega⟩, tx_D_in (by omega) (by omega)]
      have ex : ((x.toInt.toNat : Nat) : Int) = x.toInt := by omega
      by_cases q1 : y_ch r x.toInt = B (b + x.toInt)
      · rw [if_pos q1]
        have e1 : (x + 1).toInt = x.toInt + 1 := y_inc (by omega)
        obtain ⟨i1, i2⟩ := ih (x + 1) (by omega) (by omega) (by omega)
        refine ⟨i1, ?_⟩
        rw [i2, e1]
        constructor
        · intro h i a c
          by_cases hi : (i : Int) = x.toInt
          · rw [hi]; exact q1.symm
          · exact h i (by omega) c
        · intro h i a c
          exact h i (by omega) c
      · rw [if_neg q1]
        refine ⟨Or.inr rfl, ⟨fun h => absurd h (by decide), fun h => absurd ?_ q1⟩⟩
        have := h x.toInt.toNat (by omega) (by omega)
        rw [ex] at this
        exact this.symm
    · rw [if_neg q]
      exact ⟨Or.inl rfl, ⟨fun _ i a c => by omega, fun _ => rfl⟩⟩
theorem tc_isWord (E : tc_E X σ R T n B) {b e : Int} (hb : (σ.1 R 2).toInt = b) (he : (σ.1 R 3).toInt = e) (h0 : 0 ≤ b) (hbe : b ≤ e) (hen : e ≤ n) {r : Nat} (hr : r < 22) : ((F_X3_isWord X σ R r).toInt = 1 ∨ (F_X3_isWord X σ R r).toInt = 0) ∧ ((F_X3_isWord X σ R r).toInt = 1 ↔ ((σ.1 R 4).toInt = 1 ∧ y_wd B b e r)) := by
  have E3 := E.2.2.1
  have sz : (F_X3_size X σ R).toInt = e - b := by
    simp only [F_X3_size, ↓q_letE]
    rw [ar_sub, he, hb, ar_wr (by omega) (by omega)]
  simp only [F_X3_isWord, ↓q_letE]
  rw [sz, tj_len]
  by_cases q : (σ.1 R 4).toInt = 1
  · rw [if_pos q]
    by_cases q1 : e - b = ((q_slen.getD r 0 : Nat) : Int)
    · rw [if_pos q1]
      obtain ⟨z1, z2⟩ := tc_isWordL E hb h0 hen hr q1 ((2147483647 - (0 : Int32).toInt).toNat + 1) 0 (by decide) (by decide) (by show (0 : Int) ≤ _; omega)
      refine ⟨z1, ?_⟩
      rw [z2]
      constructor
      · intro h
        exact ⟨q, q1, fun i hi => h i (Int.natCast_nonneg i) hi⟩
      · rintro ⟨_, _, h⟩ i _ hi
        exact h i hi
    · rw [if_neg q1]
      exact ⟨Or.inr rfl, ⟨fun h => absurd h (by decide), fun h => absurd h.2.1 q1⟩⟩
  · rw [if_neg q]
    exact ⟨Or.inr rfl, ⟨fun h => absurd h (by decide), fun h => absurd h.1 q⟩⟩
theorem tm_isWord (w : Int64) : (F_X12_isWord X σ a w).toInt = if (σ.1 a 14).toInt = 1 ∧ (σ.2.1 a 19).toInt = w.toInt then 1 else 0 := by
  simp only [F_X12_isWord, ↓q_letE]
  by_cases q : (σ.1 a 14).toInt = 1
  · rw [if_pos q]
    have hc := lg_cmp_eq (σ.2.1 a 19) w
    by_cases q1 : (σ.2.1 a 19).toInt = w.toInt
    · have e : σ.2.1 a 19 = w := Int64.toInt_inj.mp q1
      rw [hc.mpr e, if_pos (by decide), if_pos ⟨q, q1⟩]
      rfl
    · have e : ¬ (lg_cmp (σ.2.1 a 19) w).toInt = 0 := fun h => q1 (congrArg Int64.toInt (hc.mp (q_eqI.mpr h)))
      rw [if_neg e, if_neg (fun h => q1 h.2)]
      rfl
  · rw [if_neg q, if_neg (fun h => q h.1)]
    rfl

theorem sp_kinds : (F_X12_spelled X σ (107 : Int32) (105 : Int32) (110 : Int32) (100 : Int32) (115 : Int32) (0 : Int32)).toInt = 11843731 := by
  simp only [F_X12_spelled, ↓q_letE]
  decide +kernel
theorem sp_each : (F_X12_spelled X σ (101 : Int32) (97 : Int32) (99 : Int32) (104 : Int32) (0 : Int32) (0 : Int32)).toInt = 164968 := by
  simp only [F_X12_spelled, ↓q_letE]
  decide +kernel
theorem sp_law : (F_X12_spelled X σ (108 : Int32) (97 : Int32) (119 : Int32) (0 : Int32) (0 : Int32) (0 : Int32)).toInt = 12343 := by
  simp only [F_X12_spelled, ↓q_letE]
  decide +kernel
theorem sp_up : (F_X12_spelled X σ (117 : Int32) (112 : Int32) (0 : Int32) (0 : Int32) (0 : Int32) (0 : Int32)).toInt = 688 := by
  simp only [F_X12_spelled, ↓q_letE]
  decide +kernel
theorem sp_down : (F_X12_spelled X σ (100 : Int32) (111 : Int32) (119 : Int32) (110 : Int32) (0 : Int32) (0 : Int32)).toInt = 147182 := by
  simp only [F_X12_spelled, ↓q_letE]
  decide +kernel
theorem sp_same : (F_X12_spelled X σ (115 : Int32) (97 : Int32) (109 : Int32) (101 : Int32) (0 : Int32) (0 : Int32)).toInt = 624037 := by
  simp only [F_X12_spelled, ↓q_letE]
  decide +kernel
theorem sp_most : (F_X12_spelled X σ (109 : Int32) (111 : Int32) (115 : Int32) (116 : Int32) (0 : Int32) (0 : Int32)).toInt = 441972 := by
  simp only [F_X12_spelled, ↓q_letE]
  decide +kernel
theorem sp_player : (F_X12_spelled X σ (112 : Int32) (108 : Int32) (97 : Int32) (121 : Int32) (101 : Int32) (114 : Int32)).toInt = 549512370 := by
  simp only [F_X12_spelled, ↓q_letE]
  decide +kernel
theorem sp_lies : (F_X12_spelled X σ (108 : Int32) (105 : Int32) (101 : Int32) (115 : Int32) (0 : Int32) (0 : Int32)).toInt = 402611 := by
  simp only [F_X12_spelled, ↓q_letE]
  decide +kernel
theorem sp_doubts : (F_X12_spelled X σ (100 : Int32) (111 : Int32) (117 : Int32) (98 : Int32) (116 : Int32) (115 : Int32)).toInt = 150637203 := by
  simp only [F_X12_spelled, ↓q_letE]
  decide +kernel
theorem sp_hand : (F_X12_spelled X σ (104 : Int32) (97 : Int32) (110 : Int32) (100 : Int32) (0 : Int32) (0 : Int32)).toInt = 263620 := by
  simp only [F_X12_spelled, ↓q_letE]
  decide +kernel
theorem sp_of : (F_X12_spelled X σ (111 : Int32) (102 : Int32) (0 : Int32) (0 : Int32) (0 : Int32) (0 : Int32)).toInt = 486 := by
  simp only [F_X12_spelled, ↓q_letE]
  decide +kernel
theorem sp_end : (F_X12_spelled X σ (101 : Int32) (110 : Int32) (100 : Int32) (0 : Int32) (0 : Int32) (0 : Int32)).toInt = 5572 := by
  simp only [F_X12_spelled, ↓q_letE]
  decide +kernel
theorem sp_turn : (F_X12_spelled X σ (116 : Int32) (117 : Int32) (114 : Int32) (110 : Int32) (0 : Int32) (0 : Int32)).toInt = 677454 := by
  simp only [F_X12_spelled, ↓q_letE]
  decide +kernel
theorem sp_stop : (F_X12_spelled X σ (115 : Int32) (116 : Int32) (111 : Int32) (112 : Int32) (0 : Int32) (0 : Int32)).toInt = 643568 := by
  simp only [F_X12_spelled, ↓q_letE]
  decide +kernel
theorem sp_loop : (F_X12_spelled X σ (108 : Int32) (111 : Int32) (111 : Int32) (112 : Int32) (0 : Int32) (0 : Int32)).toInt = 409072 := by
  simp only [F_X12_spelled, ↓q_letE]
  decide +kernel
theorem sp_when : (F_X12_spelled X σ (119 : Int32) (104 : Int32) (101 : Int32) (110 : Int32) (0 : Int32) (0 : Int32)).toInt = 762030 := by
  simp only [F_X12_spelled, ↓q_letE]
  decide +kernel
theorem sp_cards : (F_X12_spelled X σ (99 : Int32) (97 : Int32) (114 : Int32) (100 : Int32) (115 : Int32) (0 : Int32)).toInt = 3197075 := by
  simp only [F_X12_spelled, ↓q_letE]
  decide +kernel
theorem sp_heap : (F_X12_spelled X σ (104 : Int32) (101 : Int32) (97 : Int32) (112 : Int32) (0 : Int32) (0 : Int32)).toInt = 267312 := by
  simp only [F_X12_spelled, ↓q_letE]
  decide +kernel
theorem sp_shown : (F_X12_spelled X σ (115 : Int32) (104 : Int32) (111 : Int32) (119 : Int32) (110 : Int32) (0 : Int32)).toInt = 20201198 := by
  simp only [F_X12_spelled, ↓q_letE]
  decide +kernel
theorem sp_won : (F_X12_spelled X σ (119 : Int32) (111 : Int32) (110 : Int32) (0 : Int32) (0 : Int32) (0 : Int32)).toInt = 24046 := by
  simp only [F_X12_spelled, ↓q_letE]
  decide +kernel
theorem tm_isKinds : (F_X12_isKinds X σ a).toInt = if (σ.1 a 14).toInt = 1 ∧ (σ.2.1 a 19).toInt = 11843731 then 1 else 0 := by
  simp only [F_X12_isKinds, ↓q_letE]
  rw [tm_isWord, sp_kinds]
theorem tm_isEach : (F_X12_isEach X σ a).toInt = if (σ.1 a 14).toInt = 1 ∧ (σ.2.1 a 19).toInt = 164968 then 1 else 0 := by
  simp only [F_X12_isEach, ↓q_letE]
  rw [tm_isWord, sp_each]
theorem tm_isLaw : (F_X12_isLaw X σ a).toInt = if (σ.1 a 14).toInt = 1 ∧ (σ.2.1 a 19).toInt = 12343 then 1 else 0 := by
  simp only [F_X12_isLaw, ↓q_letE]
  rw [tm_isWord, sp_law]
theorem tm_isMost : (F_X12_isMost X σ a).toInt = if (σ.1 a 14).toInt = 1 ∧ (σ.2.1 a 19).toInt = 441972 then 1 else 0 := by
  simp only [F_X12_isMost, ↓q_letE]
  rw [tm_isWord, sp_most]
theorem tm_isPlayer : (F_X12_isPlayer X σ a).toInt = if (σ.1 a 14).toInt = 1 ∧ (σ.2.1 a 19).toInt = 549512370 then 1 else 0 := by
  simp only [F_X12_isPlayer, ↓q_letE]
  rw [tm_isWord, sp_player]
theorem tm_isLies : (F_X12_isLies X σ a).toInt = if (σ.1 a 14).toInt = 1 ∧ (σ.2.1 a 19).toInt = 402611 then 1 else 0 := by
  simp only [F_X12_isLies, ↓q_letE]
  rw [tm_isWord, sp_lies]
theorem tm_isDoubts : (F_X12_isDoubts X σ a).toInt = if (σ.1 a 14).toInt = 1 ∧ (σ.2.1 a 19).toInt = 150637203 then 1 else 0 := by
  simp only [F_X12_isDoubts, ↓q_letE]
  rw [tm_isWord, sp_doubts]
theorem tm_isHand : (F_X12_isHand X σ a).toInt = if (σ.1 a 14).toInt = 1 ∧ (σ.2.1 a 19).toInt = 263620 then 1 else 0 := by
  simp only [F_X12_isHand, ↓q_letE]
  rw [tm_isWord, sp_hand]
theorem tm_isOf : (F_X12_isOf X σ a).toInt = if (σ.1 a 14).toInt = 1 ∧ (σ.2.1 a 19).toInt = 486 then 1 else 0 := by
  simp only [F_X12_isOf, ↓q_letE]
  rw [tm_isWord, sp_of]
theorem tm_isEnd : (F_X12_isEnd X σ a).toInt = if (σ.1 a 14).toInt = 1 ∧ (σ.2.1 a 19).toInt = 5572 then 1 else 0 := by
  simp only [F_X12_isEnd, ↓q_letE]
  rw [tm_isWord, sp_end]
theorem tm_if1 {P : Prop} {i : Decidable P} : ((if P then (1 : Int) else 0) = 0) ↔ ¬ P := by
  constructor
  · intro h q; rw [if_pos q] at h; exact absurd h (by decide)
  · intro q; rw [if_neg q]
theorem tm_lawWord : (F_X12_lawWord X σ a).toInt = if (σ.1 a 14).toInt = 1 ∧ (σ.2.1 a 19).toInt = 688 then 0 else if (σ.1 a 14).toInt = 1 ∧ (σ.2.1 a 19).toInt = 147182 then 1 else if (σ.1 a 14).toInt = 1 ∧ (σ.2.1 a 19).toInt = 624037 then 2 else -1 := by
  simp only [F_X12_lawWord, ↓q_letE]
  rw [tm_isWord, tm_isWord, tm_isWord, sp_up, sp_down, sp_same]
  simp only [tm_if1]
  repeat' split
  all_goals first | rfl | (exfalso; omega)
theorem tm_stepWord : (F_X12_stepWord X σ a).toInt = if (σ.1 a 14).toInt = 1 ∧ (σ.2.1 a 19).toInt = 677454 then 0 else if (σ.1 a 14).toInt = 1 ∧ (σ.2.1 a 19).toInt = 402611 then 1 else if (σ.1 a 14).toInt = 1 ∧ (σ.2.1 a 19).toInt = 150637203 then 2 else if (σ.1 a 14).toInt = 1 ∧ (σ.2.1 a 19).toInt = 762030 then 3 else if (σ.1 a 14).toInt = 1 ∧ (σ.2.1 a 19).toInt = 409072 then 4 else if (σ.1 a 14).toInt = 1 ∧ (σ.2.1 a 19).toInt = 643568 then 5 else -1 := by
  simp only [F_X12_stepWord, ↓q_letE]
  rw [tm_isWord, tm_isLies, tm_isDoubts, tm_isWord, tm_isWord, tm_isWord, sp_turn, sp_when, sp_loop, sp_stop]
  simp only [tm_if1]
  repeat' split
  all_goals first | rfl | (exfalso; omega)
theorem tm_testWord : (F_X12_testWord X σ a).toInt = if (σ.1 a 14).toInt = 1 ∧ (σ.2.1 a 19).toInt = 3197075 then 0 else if (σ.1 a 14).toInt = 1 ∧ (σ.2.1 a 19).toInt = 267312 then 1 else if (σ.1 a 14).toInt = 1 ∧ (σ.2.1 a 19).toInt = 20201198 then 2 else if (σ.1 a 14).toInt = 1 ∧ (σ.2.1 a 19).toInt = 24046 then 3 else -1 := by
  simp only [F_X12_testWord, ↓q_letE]
  rw [tm_isWord, tm_isWord, tm_isWord, tm_isWord, sp_cards, sp_heap, sp_shown, sp_won]
  simp only [tm_if1]
  repeat' split
  all_goals first | rfl | (exfalso; omega)
/-- the numbers of the words that are no names -/
def y_res : List Int := [11843731, 164968, 12343, 441972, 549512370, 402611, 150637203, 263620, 486, 688, 147182, 624037, 677454, 762030, 3197075, 267312, 24046, 20201198, 409072, 5572, 643568]
theorem tm_isKept (h1 : (σ.1 a 14).toInt = 1) : (F_X12_isKept X σ a).toInt = if (σ.2.1 a 19).toInt ∈ y_res then 1 else 0 := by
  obtain ⟨w, hw⟩ : ∃ w, (σ.2.1 a 19).toInt = w := ⟨_, rfl⟩
  simp only [F_X12_isKept, ↓q_letE]
  rw [tm_isKinds, tm_isEach, tm_isLaw, tm_isMost, tm_isPlayer, tm_isHand, tm_isOf, tm_lawWord, tm_stepWord, tm_testWord, tm_isEnd]
  simp only [tm_if1, hw, h1, true_and]
  by_cases m : w ∈ y_res
  · rw [if_pos m]
    simp only [y_res, List.mem_cons, List.not_mem_nil, or_false] at m
    rcases m with rfl | rfl | rfl | rfl | rfl | rfl | rfl | rfl | rfl | rfl | rfl | rfl | rfl | rfl | rfl | rfl | rfl | rfl | rfl | rfl | rfl <;> rfl
  · rw [if_neg m]
    simp only [y_res, List.mem_cons, List.not_mem_nil, or_false, not_or] at m
    obtain ⟨m0, m1, m2, m3, m4, m5, m6, m7, m8, m9, m10, m11, m12, m13, m14, m15, m16, m17, m18, m19, m20⟩ := m
    simp only [*, if_false, not_false_eq_true, if_true]
    rfl
end WD
end
/-! FROM 48h.lock.lean.txt -/
section
/-! THE TWO READERS, STEP BY STEP -/
/-- the reader's cells: token, fault, place -/
def tc_S2 (R : Nat) : Nat → Nat → Prop := fun b f => b = R ∧ 2 ≤ f ∧ f ≤ 7
def tn_S2 (a : Nat) : Nat → Nat → Prop := fun b f => b = a ∧ 12 ≤ f ∧ f ≤ 18
/-- both stand at the same token -/
def tl_K (σ : ST) (R : Nat) (τ : ST) (a : Nat) (B : Int → Int) (n : Int) : Prop :=
  (σ.1 R 2).toInt = (τ.1 a 15).toInt ∧ (σ.1 R 3).toInt = (τ.1 a 16).toInt ∧ (σ.1 R 4).toInt = (τ.1 a 14).toInt ∧ ((τ.1 a 14).toInt = 2 → (σ.1 R 5).toInt = (τ.1 a 17).toInt) ∧
  tx_cls B n (τ.1 a 15).toInt (τ.1 a 16).toInt (τ.1 a 14).toInt (τ.1 a 17).toInt ∧ tm_ext B (τ.1 a 15).toInt (τ.1 a 16).toInt (τ.1 a 14).toInt (τ.1 a 17).toInt (τ.1 a 18).toInt (τ.2.1 a 19).toInt ∧ 0 ≤ (τ.1 a 15).toInt ∧ (τ.1 a 15).toInt ≤ n ∧ (σ.1 R 6).toInt = 0 ∧ (σ.1 R 7).toInt = -1
/-- both have the same fault -/
def tl_F (σ : ST) (R : Nat) (τ : ST) (a : Nat) : Prop := (σ.1 R 6).toInt = (τ.1 a 12).toInt ∧ 0 < (τ.1 a 12).toInt ∧ (σ.1 R 7).toInt = (τ.1 a 13).toInt
theorem tx_cls_b {B : Int → Int} {n b e ty val : Int} (h : tx_cls B n b e ty val) (hb : b ≤ n) : b ≤ e ∧ e ≤ n ∧ 0 ≤ ty ∧ ty ≤ 4 ∧ (ty ≠ 0 → b < e) ∧ (ty = 0 ↔ b = n) := by
  rcases h with ⟨q1, q2, q3⟩ | ⟨q1, q2, q3, q4⟩ | ⟨q1, q2, q3, q4⟩ | ⟨q1, q2, q3, q4, q5⟩
  · omega
  · have b1 := tx_run_le q4 (by omega)
    have b2 := tx_run_ne q4 ⟨q1, q2⟩
    omega
  · have b1 := tx_run_le q3 (by omega)
    have b2 := tx_run_ne q3 ⟨q1, q2⟩
    omega
  · omega
section TL
variable {X : XW} {σ τ : ST} {R T a : Nat} {n : Int} {B : Int → Int}
theorem tc_E.k2 {σ' : ST} (E : tc_E X σ R T n B) (h : tk (tc_S2 R) σ σ') : tc_E X σ' R T n B := E.k h (fun b f q => ⟨fun e => E.2.2.2.1 (e.symm.trans q.1), fun e => absurd q.2.1 (by rw [e.2]; decide)⟩)
theorem tm_E.k2 {τ' : ST} (E : tm_E X τ a n B) (h : tkl (tn_S2 a) (tn_L a) τ τ') : tm_E X τ' a n B := E.k h (fun b f q => ⟨fun e => E.2.2.1 (e.symm.trans q.1), fun e => absurd q.2.1 (by rw [e.2]; decide)⟩)
theorem tc_S_S2 {R : Nat} : ∀ b f, tc_S R b f → tc_S2 R b f := fun _ _ h => ⟨h.1, h.2.1, by have := h.2.2; omega⟩
theorem tn_S_S2 {a : Nat} : ∀ b f, tn_S a b f → tn_S2 a b f := fun _ _ h => ⟨h.1, by have := h.2.1; omega, h.2.2⟩
/-- where both ends are the same, both go on to the same token -/
theorem tl_adv (E : tc_E X σ R T n B) (M : tm_E X τ a n B) {p : Int} (hc : (σ.1 R 3).toInt = p) (hm : (τ.1 a 16).toInt = p) (h0 : 0 ≤ p ∧ p ≤ n) (h6 : (σ.1 R 6).toInt = 0) (h7 : (σ.1 R 7).toInt = -1) :
    tk (tc_S R) σ (F_X3_advance X σ R) ∧ tkl (tn_S a) (tn_L a) τ (F_X12_next X τ a) ∧ tl_K (F_X3_advance X σ R) R (F_X12_next X τ a) a B n ∧ p ≤ ((F_X12_next X τ a).1 a 15).toInt := by
  obtain ⟨c1, c2⟩ := tc_adv E hc h0
  obtain ⟨m1, m2, m3⟩ := tm_next M hm h0
  obtain ⟨u1, u2, u3, u4⟩ := tx_tok_u m2 c2
  have bb := tx_tok_b m2 h0
  have c6 : ((F_X3_advance X σ R).1 R 6).toInt = 0 := by rw [c1.1 R 6 (fun q => absurd q.2.2 (by decide))]; exact h6
  have c7 : ((F_X3_advance X σ R).1 R 7).toInt = -1 := by rw [c1.1 R 7 (fun q => absurd q.2.2 (by decide))]; exact h7
  exact ⟨c1, m1, ⟨u1, u2, u3, fun h => u4 h, m2.2, m3, by omega, by omega, c6, c7⟩, bb.1⟩
theorem tl_K.b (K : tl_K σ R τ a B n) : (τ.1 a 15).toInt ≤ (τ.1 a 16).toInt ∧ (τ.1 a 16).toInt ≤ n ∧ 0 ≤ (τ.1 a 14).toInt ∧ (τ.1 a 14).toInt ≤ 4 ∧ ((τ.1 a 14).toInt ≠ 0 → (τ.1 a 15).toInt < (τ.1 a 16).toInt) ∧ ((τ.1 a 14).toInt = 0 ↔ (τ.1 a 15).toInt = n) := by
  obtain ⟨k1, k2, k3, k4, k5, k6, k7, k8⟩ := K
  exact tx_cls_b k5 k8.1
theorem tl_adv2 (E : tc_E X σ R T n B) (M : tm_E X τ a n B) (K : tl_K σ R τ a B n) : tk (tc_S R) σ (F_X3_advance X σ R) ∧ tkl (tn_S a) (tn_L a) τ (F_X12_next X τ a) ∧ tl_K (F_X3_advance X σ R) R (F_X12_next X τ a) a B n ∧ (τ.1 a 16).toInt ≤ ((F_X12_next X τ a).1 a 15).toInt := by
  have b := K.b
  have k7 := K.2.2.2.2.2.2
  exact tl_adv E M K.2.1 rfl ⟨by omega, by omega⟩ k7.2.2.1 k7.2.2.2
theorem tl_le (K : tl_K σ R τ a B n) (h : (τ.1 a 14).toInt = 1) : (∀ j, (τ.1 a 15).toInt ≤ j → j < (τ.1 a 16).toInt → tx_le (B j)) := by
  rcases K.2.2.2.2.1 with ⟨q1, q2, q3⟩ | ⟨q1, q2, q3, q4⟩ | ⟨q1, q2, q3, q4⟩ | ⟨q1, q2, q3, q4, q5⟩
  · omega
  · exact fun j a c => (q4.2.1 j a c).2
  · rcases q4 with ⟨_, z⟩ | ⟨_, z, _⟩ <;> omega
  · rcases q5 with ⟨_, z⟩ | ⟨_, z⟩ <;> omega
/-- a word of the text -/
theorem tl_isWord (E : tc_E X σ R T n B) (K : tl_K σ R τ a B n) {r : Nat} (hr : y_isw r) : (F_X3_isWord X σ R r).toInt = if (τ.1 a 14).toInt = 1 ∧ (τ.2.1 a 19).toInt = y_cw r then 1 else 0 := by
  have b := K.b
  obtain ⟨k1, k2, k3, k4, k5, k6, k7, k8⟩ := id K
  obtain ⟨w1, w2⟩ := tc_isWord E k1 k2 k7 b.1 b.2.1 hr.1
  rw [k3] at w2
  by_cases q : (τ.1 a 14).toInt = 1
  · have x := k6.2 q
    have y := y_wd_iff hr b.1 (tl_le K q) x.2.1 x.2.2
    by_cases q2 : (τ.2.1 a 19).toInt = y_cw r
    · rw [if_pos ⟨q, q2⟩]
      exact w2.mpr ⟨q, y.mpr q2⟩
    · rw [if_neg (fun h => q2 h.2)]
      rcases w1 with w1 | w1
      · exact absurd (y.mp (w2.mp w1).2) q2
      · exact w1
  · rw [if_neg (fun h => q h.1)]
    rcases w1 with w1 | w1
    · exact absurd (w2.mp w1).1 q
    · exact w1
/-- the class's fault -/
theorem tc_fails (k : Int32) : ∃ σ' : ST, F_X3_fails X σ R k = (0, σ') ∧ tk (tc_S2 R) σ σ' ∧ (σ'.1 R 6).toInt = (if (σ.1 R 4).toInt = 4 then 1 else k.toInt) ∧ σ'.1 R 7 = σ.1 R 2 := by
  simp only [F_X3_fails, ↓q_letE]
  by_cases q : (σ.1 R 4).toInt = 4
  · rw [if_pos q, if_pos q]
    exact ⟨_, rfl, (tk.rf.si _ ⟨rfl, by decide, by decide⟩).si _ ⟨rfl, by decide, by decide⟩, by rw [si_f (by decide), si_eq]; rfl, by rw [si_eq, si_f (by decide)]⟩
  · rw [if_neg q, if_neg q]
    exact ⟨_, rfl, (tk.rf.si _ ⟨rfl, by decide, by decide⟩).si _ ⟨rfl, by decide, by decide⟩, by rw [si_f (by decide), si_eq], by rw [si_eq, si_f (by decide)]⟩
/-- the reference's fault -/
theorem tm_fail (h : (τ.1 a 12).toInt = 0) (k w : Int32) : tkl (tn_S2 a) (tn_L a) τ (F_X12_fail X τ a k w) ∧ ((F_X12_fail X τ a k w).1 a 12).toInt = k.toInt ∧ ((F_X12_fail X τ a k w).1 a 13).toInt = w.toInt := by
  simp only [F_X12_fail, ↓q_letE]
  rw [if_neg (by omega)]
  exact ⟨(tkl.rf.si _ ⟨rfl, by decide, by decide⟩).si _ ⟨rfl, by decide, by decide⟩, by rw [si_f (by decide), si_eq], by rw [si_eq]⟩
theorem tm_wrong (h : (τ.1 a 12).toInt = 0) : tkl (tn_S2 a) (tn_L a) τ (F_X12_wrong X τ a) ∧ ((F_X12_wrong X τ a).1 a 12).toInt = (if (τ.1 a 14).toInt = 4 then 1 else 2) ∧ ((F_X12_wrong X τ a).1 a 13).toInt = (τ.1 a 15).toInt := by
  simp only [F_X12_wrong, ↓q_letE]
  by_cases q : (τ.1 a 14).toInt = 4
  · rw [if_pos q, if_pos q]
    exact tm_fail h 1 _
  · rw [if_neg q, if_neg q]
    exact tm_fail h 2 _
theorem tm_must2 (h : 0 < (τ.1 a 12).toInt) (v : Int32) : F_X12_must X τ a v = τ := by
  simp only [F_X12_must, ↓q_letE]
  rw [if_pos h]
theorem tm_count2 (h : 0 < (τ.1 a 12).toInt) (v w : Int32) : F_X12_count X τ a v w = (0, τ) := by
  simp only [F_X12_count, F_X12_count_J19_1, ↓q_letE]
  have h0 : ¬ (τ.1 a 12).toInt = 0 := by omega
  rw [if_neg h0, if_neg h0, if_pos h]
/-- both fail at the same token -/
theorem tl_wrong (K : tl_K σ R τ a B n) (h : (τ.1 a 12).toInt = 0) : ∃ σ' : ST, F_X3_fails X σ R 2 = (0, σ') ∧ tk (tc_S2 R) σ σ' ∧ tkl (tn_S2 a) (tn_L a) τ (F_X12_wrong X τ a) ∧ tl_F σ' R (F_X12_wrong X τ a) a := by
  obtain ⟨k1, k2, k3, -⟩ := id K
  obtain ⟨σ', a1, a2, a3, a4⟩ := tc_fails (X := X) (σ := σ) (R := R) 2
  obtain ⟨m1, m2, m3⟩ := tm_wrong (X := X) h
  have e2 : (2 : Int32).toInt = 2 := rfl
  refine ⟨σ', a1, a2, m1, ?_, ?_, ?_⟩
  · rw [a3, m2, k3, e2]
  · rw [m2]; split <;> decide
  · rw [a4, m3, k1]
/-- both fail with a fault of their own, at a token that is one -/
theorem tl_fail (K : tl_K σ R τ a B n) (h : (τ.1 a 12).toInt = 0) (h4 : (τ.1 a 14).toInt ≠ 4) {k : Int32} (hk : 0 < k.toInt) {w : Int32} (hw : w.toInt = (τ.1 a 15).toInt) : ∃ σ' : ST, F_X3_fails X σ R k = (0, σ') ∧ tk (tc_S2 R) σ σ' ∧ tkl (tn_S2 a) (tn_L a) τ (F_X12_fail X τ a k w) ∧ tl_F σ' R (F_X12_fail X τ a k w) a := by
  obtain ⟨k1, k2, k3, -⟩ := id K
  obtain ⟨σ', a1, a2, a3, a4⟩ := tc_fails (X := X) (σ := σ) (R := R) k
  obtain ⟨m1, m2, m3⟩ := tm_fail (X := X) h k w
  refine ⟨σ', a1, a2, m1, ?_, ?_, ?_⟩
  · rw [a3, m2, k3, if_neg h4]
  · rw [m2]; exact hk
  · rw [a4, m3, k1, hw]
/-- what comes of a step: both went on, or both failed -/
def tl_O (X : XW) (σ : ST) (R : Nat) (τ : ST) (a : Nat) (B : Int → Int) (n : Int) (ok : Prop) (σ' τ' : ST) : Prop :=
  tk (tc_S2 R) σ σ' ∧ tkl (tn_S2 a) (tn_L a) τ τ' ∧ (ok ∧ tl_K σ' R τ' a B n ∧ (τ'.1 a 12).toInt = 0 ∧ (τ.1 a 16).toInt ≤ (τ'.1 a 15).toInt ∨ ¬ ok ∧ tl_F σ' R τ' a)
theorem tk.S2 {σ σ' : ST} {R : Nat} (h : tk (tc_S R) σ σ') : tk (tc_S2 R) σ σ' := h.mono tc_S_S2
theorem tkl.S2 {τ τ' : ST} {a : Nat} (h : tkl (tn_S a) (tn_L a) τ τ') : tkl (tn_S2 a) (tn_L a) τ τ' := h.mono tn_S_S2 (fun _ _ h => h)
theorem tn_12 {τ τ' : ST} (h : tkl (tn_S a) (tn_L a) τ τ') : τ'.1 a 12 = τ.1 a 12 := h.1 a 12 (fun q => absurd q.2.1 (by decide))
/-- a word that must stand there -/
theorem tl_passWord (E : tc_E X σ R T n B) (M : tm_E X τ a n B) (K : tl_K σ R τ a B n) (h : (τ.1 a 12).toInt = 0) {r : Nat} (hr : y_isw r) {v : Int32} (hv : v.toInt = if (τ.1 a 14).toInt = 1 ∧ (τ.2.1 a 19).toInt = y_cw r then 1 else 0) :
    ∃ (z : Int32) (σ' : ST), F_X3_passWord X σ R r = (z, σ') ∧ (z.toInt = 0 ∨ z.toInt = 1) ∧ tl_O X σ R τ a B n (z.toInt = 1) σ' (F_X12_must X τ a v) := by
  have w := tl_isWord E K hr
  simp only [F_X3_passWord, F_X12_must, ↓q_letE, ↓q_biE]
  rw [w, hv, h, if_neg (by decide : ¬ (0 : Int) < 0)]
  by_cases q : (τ.1 a 14).toInt = 1 ∧ (τ.2.1 a 19).toInt = y_cw r
  · rw [if_pos q, if_neg (by decide), if_neg (by decide)]
    obtain ⟨c1, c2, c3, c4⟩ := tl_adv2 E M K
    exact ⟨1, _, rfl, Or.inr rfl, c1.S2, c2.S2, Or.inl ⟨rfl, c3, by rw [tn_12 c2]; exact h, c4⟩⟩
  · rw [if_neg q, if_pos rfl, if_pos rfl]
    obtain ⟨σ', a1, a2, a3, a4⟩ := tl_wrong (X := X) K h
    rw [a1]
    exact ⟨0, σ', rfl, Or.inl rfl, a2, a3, Or.inr ⟨by decide, a4⟩⟩
/-- a semicolon that must stand there -/
theorem tl_passSemi (E : tc_E X σ R T n B) (M : tm_E X τ a n B) (K : tl_K σ R τ a B n) (h : (τ.1 a 12).toInt = 0) :
    ∃ (z : Int32) (σ' : ST), F_X3_passSemicolon X σ R = (z, σ') ∧ (z.toInt = 0 ∨ z.toInt = 1) ∧ tl_O X σ R τ a B n (z.toInt = 1) σ' (F_X12_must X τ a (F_X12_isSign X τ a 59)) := by
  have b := K.b
  obtain ⟨k1, k2, k3, k4, k5, k6, k7, k8⟩ := id K
  have e59 : (59 : Int32).toInt = 59 := rfl
  have E3 := E.2.2.1
  simp only [F_X3_passSemicolon, F_X12_must, F_X12_isSign, ↓q_letE, ↓q_biE]
  rw [k3, h, if_neg (by decide : ¬ (0 : Int) < 0), e59]
  obtain ⟨σ', a1, a2, a3, a4⟩ := tl_wrong (X := X) K h
  by_cases q : (τ.1 a 14).toInt = 3
  · rw [if_pos q, if_pos q]
    have sg := tc_sig E k1 ⟨k7, by omega⟩ (v := 0) (i := 0) rfl ⟨by decide, by decide⟩
    rw [Int.add_zero, tx_D_in k7 (by omega)] at sg
    rw [sg, k6.1 q]
    by_cases q2 : B (τ.1 a 15).toInt = 59
    · rw [if_pos q2, if_pos q2, if_neg (by decide)]
      obtain ⟨c1, c2, c3, c4⟩ := tl_adv2 E M K
      exact ⟨1, _, rfl, Or.inr rfl, c1.S2, c2.S2, Or.inl ⟨rfl, c3, by rw [tn_12 c2]; exact h, c4⟩⟩
    · rw [if_neg q2, if_neg q2, if_pos (by decide), a1]
      exact ⟨0, σ', rfl, Or.inl rfl, a2, a3, Or.inr ⟨by decide, a4⟩⟩
  · rw [if_neg q, if_neg q, if_pos (by decide), a1]
    exact ⟨0, σ', rfl, Or.inl rfl, a2, a3, Or.inr ⟨by decide, a4⟩⟩
/-- a number that must stand there -/
theorem tm_isIn (x y z : Int64) : (F_X12_isIn X τ x y z).toInt = if y.toInt ≤ x.toInt ∧ x.toInt ≤ z.toInt then 1 else 0 := by
  have h1 := lg_cmp_lt x y
  have h2 := lg_cmp_gt x z
  rw [Int32.lt_iff_toInt_lt, Int64.lt_iff_toInt_lt] at h1 h2
  have z0 : (0 : Int32).toInt = 0 := rfl
  rw [z0] at h1 h2
  simp only [F_X12_isIn, ↓q_letE]
  by_cases q1 : x.toInt < y.toInt
  · rw [if_pos (h1.mpr q1), if_neg (by omega)]
    rfl
  · rw [if_neg (fun h => q1 (h1.mp h))]
    by_cases q2 : z.toInt < x.toInt
    · rw [if_pos (h2.mpr q2), if_neg (by omega)]
      rfl
    · rw [if_neg (fun h => q2 (h2.mp h)), if_pos (by omega)]
      rfl
/-- what the class does with a number: it stands there and is passed or not -/
theorem tl_mustNum (E : tc_E X σ R T n B) (M : tm_E X τ a n B) (K : tl_K σ R τ a B n) (h : (τ.1 a 12).toInt = 0) (lo hi : Int32) :
    ((τ.1 a 14).toInt = 2 ∧ lo.toInt ≤ (τ.1 a 17).toInt ∧ (τ.1 a 17).toInt ≤ hi.toInt ∧ F_X3_mustBeNumber X σ R lo hi = (1, σ) ∧ F_X12_count X τ a lo hi = (τ.1 a 17, F_X12_next X τ a)) ∨
    (∃ (σ' : ST) (v : Int32) (τ' : ST), F_X3_mustBeNumber X σ R lo hi = (0, σ') ∧ F_X12_count X τ a lo hi = (0, τ') ∧ tk (tc_S2 R) σ σ' ∧ tkl (tn_S2 a) (tn_L a) τ τ' ∧ tl_F σ' R τ' a) := by
  obtain ⟨k1, k2, k3, k4, k5, k6, k7, k8⟩ := id K
  simp only [F_X3_mustBeNumber, F_X12_count, F_X12_count_J19_1, ↓q_letE, ↓q_biE]
  by_cases q : (τ.1 a 14).toInt = 2
  · rw [k3, if_pos q, h, if_pos rfl, if_pos q, k4 q]
    simp only [h, if_true]
    rw [tm_isIn, ar_i2l, ar_i2l, ar_i2l]
    obtain ⟨σ', a1, a2, a3, a4⟩ := tl_fail (X := X) K h (by omega) (k := 4) (by decide) (w := τ.1 a 15) rfl
    have p4 : 0 < ((F_X12_fail X τ a 4 (τ.1 a 15)).1 a 12).toInt := a4.2.1
    have z0 : (0 : Int32).toInt = 0 := rfl
    by_cases q1 : (τ.1 a 17).toInt < lo.toInt
    · rw [if_pos q1, a1, if_neg (by omega : ¬ (lo.toInt ≤ (τ.1 a 17).toInt ∧ (τ.1 a 17).toInt ≤ hi.toInt)), if_pos rfl, if_pos p4]
      exact Or.inr ⟨σ', 0, _, by rw [z0, if_pos rfl], rfl, a2, a3, a4⟩
    · rw [if_neg q1]
      by_cases q2 : hi.toInt < (τ.1 a 17).toInt
      · rw [if_pos q2, a1, if_neg (by omega : ¬ (lo.toInt ≤ (τ.1 a 17).toInt ∧ (τ.1 a 17).toInt ≤ hi.toInt)), if_pos rfl, if_pos p4]
        exact Or.inr ⟨σ', 0, _, by rw [z0, if_pos rfl], rfl, a2, a3, a4⟩
      · rw [if_neg q2, if_pos (by omega : lo.toInt ≤ (τ.1 a 17).toInt ∧ (τ.1 a 17).toInt ≤ hi.toInt), if_neg (by decide), if_neg (by decide)]
        exact Or.inl ⟨q, by omega, by omega, rfl, rfl⟩
  · obtain ⟨σ', a1, a2, a3, a4⟩ := tl_wrong (X := X) K h
    have p4 : 0 < ((F_X12_wrong X τ a).1 a 12).toInt := a4.2.1
    rw [k3, if_neg q, h, if_pos rfl, if_neg q, a1, if_neg (by omega), if_pos p4]
    exact Or.inr ⟨σ', 0, _, rfl, rfl, a2, a3, a4⟩
theorem tl_passNum (E : tc_E X σ R T n B) (M : tm_E X τ a n B) (K : tl_K σ R τ a B n) (h : (τ.1 a 12).toInt = 0) (lo hi : Int32) (hlo : 0 ≤ lo.toInt) :
    ∃ (z w : Int32) (σ' τ' : ST), F_X3_passNumber X σ R lo hi = (z, σ') ∧ F_X12_count X τ a lo hi = (w, τ') ∧ tl_O X σ R τ a B n (z.toInt ≠ -1) σ' τ' ∧ (z.toInt ≠ -1 → z.toInt = w.toInt ∧ lo.toInt ≤ w.toInt ∧ w.toInt ≤ hi.toInt) ∧ (z.toInt = -1 → w.toInt = 0) := by
  obtain ⟨k1, k2, k3, k4, k5, k6, k7, k8⟩ := id K
  rcases tl_mustNum E M K h lo hi with ⟨m1, m2, m3, m4, m5⟩ | ⟨σ', v, τ', m1, m2, m3, m4, m5⟩
  · obtain ⟨c1, c2, c3, c4⟩ := tl_adv2 E M K
    have e : F_X3_passNumber X σ R lo hi = (σ.1 R 5, F_X3_advance X σ R) := by
      simp only [F_X3_passNumber, ↓q_letE, ↓q_biE]
      rw [m4]
      rfl
    have e5 := k4 m1
    exact ⟨_, _, _, _, e, m5, ⟨c1.S2, c2.S2, Or.inl ⟨by omega, c3, by rw [tn_12 c2]; exact h, c4⟩⟩, fun _ => ⟨e5, m2, m3⟩, fun q => by omega⟩
  · have e : F_X3_passNumber X σ R lo hi = (-1, σ') := by
      simp only [F_X3_passNumber, ↓q_letE, ↓q_biE]
      rw [m1]
      rfl
    exact ⟨_, _, _, _, e, m2, ⟨m3, m4, Or.inr ⟨by decide, m5⟩⟩, fun q => absurd rfl q, fun _ => rfl⟩
end TL
end
/-! FROM 48i.names.lean.txt -/
section
/-! NAMES: what is reserved, who is named -/
def y_chs (r : Nat) : List Int := (q_sbyt.getD r []).map Int32.toInt
def y_wl : List Nat := [0, 1, 2, 6, 7, 9, 10, 11, 12, 3, 4, 5, 14, 17, 18, 19, 21, 20, 16, 13, 15]
def y_flat : List Nat → List Int
  | [] => []
  | r :: rs => y_chs r ++ 32 :: y_flat rs
theorem y_rs : y_chs 8 = y_flat y_wl := by decide +kernel
theorem y_wl_w : ∀ r ∈ y_wl, r < 22 ∧ r ≠ 8 := by decide
theorem y_wl_res : y_res = y_wl.map y_cw := by decide +kernel
theorem y_chs_ne : ∀ r ∈ y_wl, ∀ c ∈ y_chs r, c ≠ 32 := by decide +kernel
theorem y_chs_len : ∀ r ∈ y_wl, (y_chs r).length = q_slen.getD r 0 := by decide +kernel
theorem y_chs8 : (y_chs 8).length = 105 := by decide +kernel
theorem y_slen8 : q_slen.getD 8 0 = 105 := by decide +kernel
/-- the class's automaton -/
def y_au (s : Int → Int) (sz : Int) : List Int → Int → Bool
  | [], _ => false
  | c :: cs, al => if c = 32 then (if al = sz then true else y_au s sz cs 0) else if al < 0 then y_au s sz cs al else if c = s al then y_au s sz cs (al + 1) else y_au s sz cs (-1)
def y_mt (s : Int → Int) (sz : Int) : List Int → Int → Bool
  | [], al => decide (al = sz)
  | c :: cs, al => decide (c = s al) && y_mt s sz cs (al + 1)
theorem y_au_neg {s : Int → Int} {sz : Int} (hz : 0 ≤ sz) (w rest : List Int) (hw : ∀ c ∈ w, c ≠ 32) (al : Int) (h : al < 0) : y_au s sz (w ++ 32 :: rest) al = y_au s sz rest 0 := by
  induction w with
  | nil =>
    show (if (32 : Int) = 32 then (if al = sz then true else y_au s sz rest 0) else _) = _
    rw [if_pos rfl, if_neg (by omega)]
  | cons c cs ih =>
    show (if c = 32 then _ else if al < 0 then y_au s sz (cs ++ 32 :: rest) al else _) = _
    rw [if_neg (hw c List.mem_cons_self), if_pos h]
    exact ih (fun d hd => hw d (List.mem_cons_of_mem _ hd))
theorem y_au_word {s : Int → Int} {sz : Int} (hz : 0 ≤ sz) (w rest : List Int) (hw : ∀ c ∈ w, c ≠ 32) : ∀ al : Int, 0 ≤ al → y_au s sz (w ++ 32 :: rest) al = (y_mt s sz w al || y_au s sz rest 0) := by
  induction w with
  | nil =>
    intro al h
    show (if (32 : Int) = 32 then (if al = sz then true else y_au s sz rest 0) else _) = (decide (al = sz) || y_au s sz rest 0)
    rw [if_pos rfl]
    by_cases q : al = sz
    · rw [if_pos q, decide_eq_true q]; rfl
    · rw [if_neg q, decide_eq_false q]; rfl
  | cons c cs ih =>
    intro al h
    show (if c = 32 then _ else if al < 0 then _ else if c = s al then y_au s sz (cs ++ 32 :: rest) (al + 1) else y_au s sz (cs ++ 32 :: rest) (-1)) = (decide (c = s al) && y_mt s sz cs (al + 1) || y_au s sz rest 0)
    have hcs : ∀ d ∈ cs, d ≠ 32 := fun d hd => hw d (List.mem_cons_of_mem _ hd)
    rw [if_neg (hw c List.mem_cons_self), if_neg (by omega)]
    by_cases q : c = s al
    · rw [if_pos q, decide_eq_true q, ih hcs (al + 1) (by omega)]; rfl
    · rw [if_neg q, decide_eq_false q, y_au_neg hz cs rest hcs (-1) (by decide)]; rfl
theorem y_au_all {s : Int → Int} {sz : Int} (hz : 0 ≤ sz) (ws : List Nat) (h : ∀ r ∈ ws, ∀ c ∈ y_chs r, c ≠ 32) : y_au s sz (y_flat ws) 0 = ws.any (fun r => y_mt s sz (y_chs r) 0) := by
  induction ws with
  | nil => rfl
  | cons r rs ih =>
    show y_au s sz (y_chs r ++ 32 :: y_flat rs) 0 = (y_mt s sz (y_chs r) 0 || rs.any (fun r => y_mt s sz (y_chs r) 0))
    rw [y_au_word hz (y_chs r) (y_flat rs) (h r List.mem_cons_self) 0 (Int.le_refl 0), ih (fun q hq => h q (List.mem_cons_of_mem _ hq))]
theorem y_mt_iff {s : Int → Int} {sz : Int} (w : List Int) : ∀ al : Int, y_mt s sz w al = true ↔ (al + (w.length : Int) = sz ∧ ∀ i : Nat, i < w.length → s (al + (i : Int)) = w.getD i 0) := by
  induction w with
  | nil =>
    intro al
    show decide (al = sz) = true ↔ _
    rw [decide_eq_true_iff]
    constructor
    · intro h
      exact ⟨by show al + ((0 : Nat) : Int) = sz; omega, fun i hi => absurd hi (Nat.not_lt_zero _)⟩
    · rintro ⟨h, _⟩
      have h2 : al + ((0 : Nat) : Int) = sz := h
      omega
  | cons c cs ih =>
    intro al
    show (decide (c = s al) && y_mt s sz cs (al + 1)) = true ↔ _
    rw [Bool.and_eq_true, decide_eq_true_iff, ih]
    have hl : ((c :: cs).length : Int) = (cs.length : Int) + 1 := by
      show ((cs.length + 1 : Nat) : Int) = _
      omega
    rw [hl]
    constructor
    · rintro ⟨h1, h2, h3⟩
      refine ⟨by omega, fun i hi => ?_⟩
      cases i with
      | zero => show s (al + ((0 : Nat) : Int)) = c; rw [h1]; congr 1; omega
      | succ i =>
        have := h3 i (Nat.lt_of_succ_lt_succ hi)
        show s (al + ((i + 1 : Nat) : Int)) = cs.getD i 0
        rw [← this]
        congr 1
        omega
    · rintro ⟨h1, h2⟩
      refine ⟨?_, by omega, fun i hi => ?_⟩
      · have := h2 0 (Nat.succ_pos _)
        have e : s (al + ((0 : Nat) : Int)) = c := this
        rw [← e]
        congr 1
        omega
      · have := h2 (i + 1) (Nat.succ_lt_succ hi)
        have e : s (al + ((i + 1 : Nat) : Int)) = cs.getD i 0 := this
        rw [← e]
        congr 1
        omega
theorem y_chs_get (r i : Nat) : (y_chs r).getD i 0 = y_ch r (i : Int) := by
  unfold y_chs y_ch
  generalize q_sbyt.getD r [] = l
  rw [Int.toNat_natCast, List.getD_eq_getElem?_getD, List.getD_eq_getElem?_getD, List.getElem?_map]
  cases l[i]? with
  | none => rfl
  | some c => rfl
section NM
variable {X : XW} {σ τ : ST} {R T a : Nat} {n : Int} {B : Int → Int}
theorem tc_resL (E : tc_E X σ R T n B) {b sz : Int} (hb : (σ.1 R 2).toInt = b) (h0 : 0 ≤ b ∧ b ≤ 900) (hsz : (F_X3_size X σ R).toInt = sz) (k : Nat) : ∀ (x1 x2 : Int32) (i : Nat), x2.toInt = (i : Int) → (2147483647 - x2.toInt).toNat < k → i ≤ 105 → -1 ≤ x1.toInt → x1.toInt ≤ (i : Int) → (F_X3_isReserved_L4_1 X σ R k x1 x2).toInt = if y_au (fun j => tx_D B n (b + j)) sz ((y_chs 8).drop i) x1.toInt = true then 1 else 0 := by
  induction k with
  | zero => intro x1 x2 i _ hm; exact absurd hm (Nat.not_lt_zero _)
  | succ k ih =>
    intro x1 x2 i hi hm hi2 h1 h2
    rw [F_X3_isReserved_L4_1_s]
    simp only [F_X3_isReserved_B4_1, ↓q_letE]
    rw [tj_len, y_slen8, tj_chr 8 hi, hsz, hi]
    by_cases q : (i : Int) < ((105 : Nat) : Int)
    · have hil : i < (y_chs 8).length := by rw [y_chs8]; omega
      have e1 : (x2 + 1).toInt = ((i + 1 : Nat) : Int) := by rw [y_inc (by omega), hi]; omega
      have dr : (y_chs 8).drop i = y_ch 8 (i : Int) :: (y_chs 8).drop (i + 1) := by
        rw [List.drop_eq_getElem_cons hil]
        congr 1
        rw [← y_chs_get]
        simp [List.getD, hil]
      rw [if_pos q, dr]
      have au : ∀ c cs al, y_au (fun j => tx_D B n (b + j)) sz (c :: cs) al = if c = 32 then (if al = sz then true else y_au (fun j => tx_D B n (b + j)) sz cs 0) else if al < 0 then y_au (fun j => tx_D B n (b + j)) sz cs al else if c = tx_D B n (b + al) then y_au (fun j => tx_D B n (b + j)) sz cs (al + 1) else y_au (fun j => tx_D B n (b + j)) sz cs (-1) := fun _ _ _ => rfl
      rw [au]
      by_cases q1 : y_ch 8 (i : Int) = 32
      · rw [if_pos q1, if_pos q1]
        by_cases q2 : x1.toInt = sz
        · rw [if_pos q2, if_pos q2, if_pos rfl]; rfl
        · rw [if_neg q2, if_neg q2]
          exact ih 0 (x2 + 1) (i + 1) e1 (by omega) (by omega) (by decide) (by show (0 : Int) ≤ _; omega)
      · rw [if_neg q1, if_neg q1]
        by_cases q2 : x1.toInt < 0
        · rw [if_pos q2, if_pos q2]
          exact ih x1 (x2 + 1) (i + 1) e1 (by omega) (by omega) h1 (by omega)
        · rw [if_neg q2, if_neg q2, tc_sig E hb h0 (v := x1) rfl ⟨by omega, by omega⟩]
          by_cases q3 : y_ch 8 (i : Int) = tx_D B n (b + x1.toInt)
          · rw [if_pos q3, if_pos q3]
            have e2 : (x1 + 1).toInt = x1.toInt + 1 := y_inc (by omega)
            have z := ih (x1 + 1) (x2 + 1) (i + 1) e1 (by omega) (by omega) (by omega) (by omega)
            rw [e2] at z
            exact z
          · rw [if_neg q3, if_neg q3]
            exact ih (-1) (x2 + 1) (i + 1) e1 (by omega) (by omega) (by decide) (by show (-1 : Int) ≤ _; omega)
    · rw [if_neg q]
      have e : i = 105 := by omega
      rw [e, List.drop_eq_nil_of_le (by rw [y_chs8]; exact Nat.le_refl _)]
      rfl
/-- the class's reserved words are the reference's -/
theorem tl_reserved (E : tc_E X σ R T n B) (K : tl_K σ R τ a B n) (h1 : (τ.1 a 14).toInt = 1) : (F_X3_isReserved X σ R).toInt = if (τ.2.1 a 19).toInt ∈ y_res then 1 else 0 := by
  have b := K.b
  obtain ⟨k1, k2, k3, k4, k5, k6, k7, k8⟩ := id K
  have E3 := E.2.2.1
  have x := k6.2 h1
  obtain ⟨sz, hsz0⟩ : ∃ sz, sz = (τ.1 a 16).toInt - (τ.1 a 15).toInt := ⟨_, rfl⟩
  have hsz : (F_X3_size X σ R).toInt = sz := by
    simp only [F_X3_size, ↓q_letE]
    rw [ar_sub, k2, k1, hsz0, ar_wr (by omega) (by omega)]
  have z := tc_resL E k1 ⟨k7, by omega⟩ hsz ((2147483647 - (0 : Int32).toInt).toNat + 1) 0 0 0 rfl (by decide) (by decide) (by decide) (by decide)
  unfold F_X3_isReserved
  rw [z]
  have ez : (0 : Int32).toInt = 0 := rfl
  rw [List.drop_zero, ez, y_rs, y_au_all (by omega) y_wl y_chs_ne]
  have key : (y_wl.any (fun r => y_mt (fun j => tx_D B n ((τ.1 a 15).toInt + j)) sz (y_chs r) 0) = true) ↔ (τ.2.1 a 19).toInt ∈ y_res := by
    rw [y_wl_res, List.any_eq_true, List.mem_map]
    constructor
    · rintro ⟨r, hr, hm⟩
      refine ⟨r, hr, ?_⟩
      obtain ⟨m1, m2⟩ := (y_mt_iff (y_chs r) 0).mp hm
      rw [y_chs_len r hr] at m1 m2
      refine ((y_wd_iff (y_wl_w r hr) b.1 (tl_le K h1) x.2.1 x.2.2).mp ⟨by omega, fun i hi => ?_⟩).symm
      have y := m2 i hi
      rw [Int.zero_add, y_chs_get, tx_D_in (by omega) (by omega)] at y
      exact y
    · rintro ⟨r, hr, hm⟩
      refine ⟨r, hr, ?_⟩
      obtain ⟨m1, m2⟩ := (y_wd_iff (y_wl_w r hr) b.1 (tl_le K h1) x.2.1 x.2.2).mpr hm.symm
      refine (y_mt_iff (y_chs r) 0).mpr ?_
      rw [y_chs_len r hr]
      refine ⟨by omega, fun i hi => ?_⟩
      have y := m2 i hi
      show tx_D B n ((τ.1 a 15).toInt + (0 + (i : Int))) = _
      rw [Int.zero_add, y_chs_get, tx_D_in (by omega) (by omega)]
      exact y
  by_cases q : (τ.2.1 a 19).toInt ∈ y_res
  · rw [if_pos q, if_pos (key.mpr q)]
  · rw [if_neg q, if_neg (fun h => q (key.mp h))]
/-- a name that must stand there -/
theorem tl_mustBeName (E : tc_E X σ R T n B) (M : tm_E X τ a n B) (K : tl_K σ R τ a B n) (h : (τ.1 a 12).toInt = 0) :
    ((F_X12_isName X τ a).toInt = 1 ∧ (τ.1 a 14).toInt = 1 ∧ (τ.1 a 16).toInt - (τ.1 a 15).toInt ≤ 8 ∧ F_X3_mustBeName X σ R = (1, σ)) ∨
    ((F_X12_isName X τ a).toInt = 0 ∧ ∃ σ' : ST, F_X3_mustBeName X σ R = (0, σ') ∧ tk (tc_S2 R) σ σ' ∧ tkl (tn_S2 a) (tn_L a) τ (F_X12_wrong X τ a) ∧ tl_F σ' R (F_X12_wrong X τ a) a) := by
  have b := K.b
  obtain ⟨k1, k2, k3, k4, k5, k6, k7, k8⟩ := id K
  have E3 := E.2.2.1
  obtain ⟨σ', a1, a2, a3, a4⟩ := tl_wrong (X := X) K h
  have hsz : (F_X3_size X σ R).toInt = (τ.1 a 16).toInt - (τ.1 a 15).toInt := by
    simp only [F_X3_size, ↓q_letE]
    rw [ar_sub, k2, k1, ar_wr (by omega) (by omega)]
  have z0 : (0 : Int32).toInt = 0 := rfl
  have z1 : (1 : Int32).toInt = 1 := rfl
  simp only [F_X12_isName, F_X3_mustBeName, ↓q_letE, ↓q_biE]
  rw [k3, hsz, a1]
  by_cases q : (τ.1 a 14).toInt = 1
  · have x := k6.2 q
    rw [if_pos q, if_pos q, x.1, tl_reserved E K q, tm_isKept q]
    by_cases q8 : 8 < (τ.1 a 16).toInt - (τ.1 a 15).toInt
    · rw [if_pos q8, if_pos q8, z0, if_pos rfl]
      exact Or.inr ⟨rfl, σ', rfl, a2, a3, a4⟩
    · rw [if_neg q8, if_neg q8]
      by_cases qr : (τ.2.1 a 19).toInt ∈ y_res
      · rw [if_pos qr, if_neg (by decide), if_neg (by decide), z0, if_pos rfl]
        exact Or.inr ⟨rfl, σ', rfl, a2, a3, a4⟩
      · rw [if_neg qr, if_pos rfl, if_pos rfl]
        exact Or.inl ⟨z1, q, by omega, rfl⟩
  · rw [if_neg q, if_neg q, z0, if_pos rfl]
    exact Or.inr ⟨rfl, σ', rfl, a2, a3, a4⟩
end NM
end
/-! FROM 48j.told.lean.txt -/
section
/-! WHO IS NAMED -/
theorem q_biP {α β : Type} (r : α) (s : ST) (k : α → ST → β) : q_bi (r, s) k = k r s := Eq.trans (Eq.refl (q_bi (r, s) k)) (Eq.refl (k r s))
/-- the names of the first P players of a game (its view V) and their numbers w from place q on -/
def y_nm (V : Nat → Int → Int) (w : Int → Int) (q P : Int) : Prop := ∀ p : Int, 0 ≤ p → p < P → (1 ≤ V 6 p ∧ V 6 p ≤ 8) ∧ (∀ i : Int, 0 ≤ i → i < V 6 p → tx_le (V 5 (8 * p + i))) ∧ w (q + p) = tx_wv (fun i => V 5 (8 * p + i)) 0 (V 6 p).toNat
/-- the first from x on, below P, of which Q -/
def y_fst (Q : Int → Prop) (P x r : Int) : Prop := (r = -1 ∧ ∀ j, x ≤ j → j < P → ¬ Q j) ∨ (x ≤ r ∧ r < P ∧ Q r ∧ ∀ j, x ≤ j → j < r → ¬ Q j)
theorem y_fst_u {Q : Int → Prop} {P x r r' : Int} (hx : 0 ≤ x) (h : y_fst Q P x r) (h' : y_fst Q P x r') : r = r' := by
  rcases h with ⟨h1, h2⟩ | ⟨h1, h2, h3, h4⟩
  · rcases h' with ⟨k1, k2⟩ | ⟨k1, k2, k3, k4⟩
    · omega
    · exact absurd k3 (h2 r' k1 k2)
  · rcases h' with ⟨k1, k2⟩ | ⟨k1, k2, k3, k4⟩
    · exact absurd h3 (k2 r h1 h2)
    · rcases Int.lt_trichotomy r r' with q | q | q
      · exact absurd h3 (k4 r h1 q)
      · exact q
      · exact absurd k3 (h4 r' k1 q)
def m_wd (X : XW) (σ : ST) (a : Nat) (j : Int) : Int := (σ.2.1 (q_rf X a 23) j.toNat).toInt
section NT
variable {X : XW} {lb : Nat → Nat} {g o : Nat} {σ τ σ0 : ST} {V : Nat → Int → Int} {R T a : Nat} {n : Int} {B : Int → Int}
theorem tc_namedL (S : y_S X lb) (G : y_G X lb g o) (w : y_W X lb g o σ0 σ V) (E : tc_E X σ R T n B) {b e : Int} (hb : (σ.1 R 2).toInt = b) (h0 : 0 ≤ b) (hbe : b ≤ e) (hen : e ≤ n) {u : Nat} (hu : u = q_rf X g 0) {x : Int32} {p : Int} (hx : x.toInt = p) (hp : 0 ≤ p ∧ p < 6) {r1 : Int32} (hr1 : r1.toInt = e - b) (he8 : e - b ≤ 8) (k : Nat) : ∀ y : Int32, (2147483647 - y.toInt).toNat < k → 0 ≤ y.toInt → y.toInt ≤ e - b → ((F_X6_isNamed_L22_1 X r1 x σ u R k y).toInt = 1 ∨ (F_X6_isNamed_L22_1 X r1 x σ u R k y).toInt = 0) ∧ ((F_X6_isNamed_L22_1 X r1 x σ u R k y).toInt = 1 ↔ ∀ i : Int, y.toInt ≤ i → i < e - b → V 5 (8 * p + i) = B (b + i)) := by
  have E3 := E.2.2.1
  subst hu
  induction k with
  | zero => intro y hm; exact absurd hm (Nat.not_lt_zero _)
  | succ k ih =>
    intro y hm y0 y1
    have e8 : (8 : Int32).toInt = 8 := rfl
    rw [F_X6_isNamed_L22_1_s]
    simp only [F_X6_isNamed_B22_1, ↓q_letE]
    rw [hr1]
    by_cases q : y.toInt < e - b
    · have ei : (x * 8 + y).toInt = 8 * p + y.toInt := by rw [ar_add, ar_mul, hx, e8, ar_wr (n := p * 8) (by omega) (by omega), ar_wr (by omega) (by omega)]; omega
      have gn : ((y_gn 5 : Nat) : Int) = 48 := rfl
      rw [if_pos q, y_getI S G w (id := 5) ⟨by decide, by decide⟩ rfl ei (by omega) (by rw [gn]; omega), tc_sig E hb ⟨h0, by omega⟩ (v := y) rfl ⟨y0, by omega⟩, tx_D_in (by omega) (by omega)]
      by_cases q1 : V 5 (8 * p + y.toInt) = B (b + y.toInt)
      · rw [if_pos q1]
        have e1 : (y + 1).toInt = y.toInt + 1 := y_inc (by omega)
        obtain ⟨i1, i2⟩ := ih (y + 1) (by omega) (by omega) (by omega)
        refine ⟨i1, ?_⟩
        rw [i2, e1]
        constructor
        · intro h i a1 a2
          by_cases hi : i = y.toInt
          · rw [hi]; exact q1
          · exact h i (by omega) a2
        · intro h i a1 a2
          exact h i (by omega) a2
      · rw [if_neg q1]
        exact ⟨Or.inr rfl, ⟨fun h => absurd h (by decide), fun h => absurd (h y.toInt (Int.le_refl _) q) q1⟩⟩
    · rw [if_neg q]
      exact ⟨Or.inl rfl, ⟨fun _ i a1 a2 => by omega, fun _ => rfl⟩⟩
/-- the player at p has the token's name: the class by its letters, the reference by its number -/
theorem tl_isNamed (S : y_S X lb) (G : y_G X lb g o) (w : y_W X lb g o σ0 σ V) (E : tc_E X σ R T n B) (K : tl_K σ R τ a B n) (h1 : (τ.1 a 14).toInt = 1) (h8 : (τ.1 a 16).toInt - (τ.1 a 15).toInt ≤ 8) {wd : Int → Int} {bs P : Int} (N : y_nm V wd bs P) {x : Int32} {p : Int} (hx : x.toInt = p) (hp : 0 ≤ p ∧ p < P) (hP : P ≤ 6) : (F_X6_isNamed X σ (q_rf X g 0) x R).toInt = if wd (bs + p) = (τ.2.1 a 19).toInt then 1 else 0 := by
  have b := K.b
  obtain ⟨k1, k2, k3, k4, k5, k6, k7, k8⟩ := id K
  have E3 := E.2.2.1
  obtain ⟨N1, N2, N3⟩ := N p hp.1 hp.2
  have xx := k6.2 h1
  have hsz : (F_X3_size X σ R).toInt = (τ.1 a 16).toInt - (τ.1 a 15).toInt := by
    simp only [F_X3_size, ↓q_letE]
    rw [ar_sub, k2, k1, ar_wr (by omega) (by omega)]
  have gl : (F_X5_get X σ (q_rf X (q_rf X g 0) 7) x).toInt = V 6 p := y_getI S G w (id := 6) ⟨by decide, by decide⟩ rfl hx hp.1 (by show p < ((6 : Nat) : Int); omega)
  have inj : V 6 p = (τ.1 a 16).toInt - (τ.1 a 15).toInt → ((∀ i : Int, (0 : Int32).toInt ≤ i → i < (τ.1 a 16).toInt - (τ.1 a 15).toInt → V 5 (8 * p + i) = B ((τ.1 a 15).toInt + i)) ↔ wd (bs + p) = (τ.2.1 a 19).toInt) := by
    intro hl
    have z0 : (0 : Int32).toInt = 0 := rfl
    rw [N3, xx.2.1 h8, ← hl, z0]
    constructor
    · intro h
      refine tx_wv_ext (fun i hi => ?_)
      show V 5 (8 * p + (0 + (i : Int))) = _
      rw [Int.zero_add]
      exact h (i : Int) (Int.natCast_nonneg i) (by omega)
    · intro h i a1 a2
      have z := tx_wv_inj (B := fun i => V 5 (8 * p + i)) (B' := B) (b := 0) (b' := (τ.1 a 15).toInt) (k := (V 6 p).toNat) (k' := (V 6 p).toNat) (fun j c1 c2 => N2 j c1 (by omega)) (fun j c1 c2 => tl_le K h1 j c1 (by omega)) h
      have y := z.2 i.toNat (by omega)
      have ec : ((i.toNat : Nat) : Int) = i := by omega
      rw [ec] at y
      have y2 : V 5 (8 * p + (0 + i)) = B ((τ.1 a 15).toInt + i) := y
      rw [Int.zero_add] at y2
      exact y2
  simp only [F_X6_isNamed, ↓q_letE]
  rw [gl, hsz]
  by_cases q : V 6 p = (τ.1 a 16).toInt - (τ.1 a 15).toInt
  · rw [if_pos q]
    obtain ⟨z1, z2⟩ := tc_namedL S G w E k1 k7 b.1 b.2.1 (u := q_rf X g 0) rfl hx ⟨hp.1, by omega⟩ (r1 := F_X5_get X σ (q_rf X (q_rf X g 0) 7) x) (gl.trans q) h8 ((2147483647 - (0 : Int32).toInt).toNat + 1) 0 (by decide) (by decide) (by show (0 : Int) ≤ _; omega)
    rw [inj q] at z2
    by_cases q2 : wd (bs + p) = (τ.2.1 a 19).toInt
    · rw [if_pos q2]; exact z2.mpr q2
    · rw [if_neg q2]
      rcases z1 with z1 | z1
      · exact absurd (z2.mp z1) q2
      · exact z1
  · rw [if_neg q, if_neg]
    · rfl
    · intro h
      rw [N3, xx.2.1 h8] at h
      have z := tx_wv_inj (B := fun i => V 5 (8 * p + i)) (B' := B) (b := 0) (b' := (τ.1 a 15).toInt) (k := (V 6 p).toNat) (k' := ((τ.1 a 16).toInt - (τ.1 a 15).toInt).toNat) (fun j c1 c2 => N2 j c1 (by omega)) (fun j c1 c2 => tl_le K h1 j c1 (by omega)) h
      have := z.1
      exact q (by omega)
theorem tc_playerNamedL {u : Nat} {P : Int} (hP : (σ.1 u 4).toInt = P) (hP6 : P ≤ 6) {Q : Int → Prop} (hQ : ∀ (x : Int32) (p : Int), x.toInt = p → 0 ≤ p → p < P → ((F_X6_isNamed X σ u x R).toInt = 0 ↔ ¬ Q p)) (k : Nat) : ∀ x : Int32, (2147483647 - x.toInt).toNat < k → 0 ≤ x.toInt → x.toInt ≤ 6 → y_fst Q P x.toInt (F_X6_playerNamed_L2_1 X σ u R k x).toInt := by
  induction k with
  | zero => intro x hm; exact absurd hm (Nat.not_lt_zero _)
  | succ k ih =>
    intro x hm x0 x6
    rw [F_X6_playerNamed_L2_1_s]
    simp only [F_X6_playerNamed_B2_1, ↓q_letE]
    rw [hP]
    by_cases q : x.toInt < P
    · rw [if_pos q]
      by_cases q1 : (F_X6_isNamed X σ u x R).toInt = 0
      · rw [if_pos q1]
        have e1 : (x + 1).toInt = x.toInt + 1 := y_inc (by omega)
        have z := ih (x + 1) (by omega) (by omega) (by omega)
        have nq := (hQ x x.toInt rfl x0 q).mp q1
        rw [e1] at z
        rcases z with ⟨z1, z2⟩ | ⟨z1, z2, z3, z4⟩
        · refine Or.inl ⟨z1, fun j a1 a2 => ?_⟩
          by_cases hj : j = x.toInt
          · rw [hj]; exact nq
          · exact z2 j (by omega) a2
        · refine Or.inr ⟨by omega, z2, z3, fun j a1 a2 => ?_⟩
          by_cases hj : j = x.toInt
          · rw [hj]; exact nq
          · exact z4 j (by omega) a2
      · rw [if_neg q1]
        refine Or.inr ⟨Int.le_refl _, q, ?_, fun j a1 a2 => by omega⟩
        by_cases hq : Q x.toInt
        · exact hq
        · exact absurd ((hQ x x.toInt rfl x0 q).mpr hq) q1
    · rw [if_neg q]
      exact Or.inl ⟨rfl, fun j a1 a2 => by omega⟩
theorem tm_namedL {v : Int32} {bl P : Int} (hv : v.toInt = bl) (hbl : 0 ≤ bl ∧ bl ≤ 4) (hP : m_c X τ a (930 * bl + 2) = P) (hP6 : P ≤ 6) (k : Nat) : ∀ x : Int32, (2147483647 - x.toInt).toNat < k → 0 ≤ x.toInt → x.toInt ≤ 6 → y_fst (fun p => m_wd X τ a (6 * bl + p) = (τ.2.1 a 19).toInt) P x.toInt (F_X12_named_L2_1 X v τ a k x).toInt := by
  induction k with
  | zero => intro x hm; exact absurd hm (Nat.not_lt_zero _)
  | succ k ih =>
    intro x hm x0 x6
    have e930 : (930 : Int32).toInt = 930 := rfl
    have e2 : (2 : Int32).toInt = 2 := rfl
    have e6 : (6 : Int32).toInt = 6 := rfl
    have ei : ((930 : Int32) * v + 2).toInt = 930 * bl + 2 := by rw [ar_add, ar_mul, hv, e930, e2, ar_wr (n := 930 * bl) (by omega) (by omega), ar_wr (by omega) (by omega)]
    rw [F_X12_named_L2_1_s]
    simp only [F_X12_named_B2_1, ↓q_letE]
    have rc : (τ.1 (q_rf X a 20) ((930 : Int32) * v + 2).toNatClampNeg).toInt = P := (m_rd (X := X) rfl ei).trans hP
    rw [rc]
    by_cases q : x.toInt < P
    · rw [if_pos q]
      have ej : ((6 : Int32) * v + x).toInt = 6 * bl + x.toInt := by rw [ar_add, ar_mul, hv, e6, ar_wr (n := 6 * bl) (by omega) (by omega), ar_wr (by omega) (by omega)]
      have rw_ : (τ.2.1 (q_rf X a 23) ((6 : Int32) * v + x).toNatClampNeg).toInt = m_wd X τ a (6 * bl + x.toInt) := by
        unfold m_wd
        rw [ar_cl, ej]
      have hc := lg_cmp_eq (τ.2.1 (q_rf X a 23) ((6 : Int32) * v + x).toNatClampNeg) (τ.2.1 a 19)
      by_cases q1 : m_wd X τ a (6 * bl + x.toInt) = (τ.2.1 a 19).toInt
      · have e : τ.2.1 (q_rf X a 23) ((6 : Int32) * v + x).toNatClampNeg = τ.2.1 a 19 := Int64.toInt_inj.mp (rw_.trans q1)
        rw [hc.mpr e, if_pos (by decide)]
        exact Or.inr ⟨Int.le_refl _, q, q1, fun j a1 a2 => by omega⟩
      · have e : ¬ (lg_cmp (τ.2.1 (q_rf X a 23) ((6 : Int32) * v + x).toNatClampNeg) (τ.2.1 a 19)).toInt = 0 := fun h => q1 (rw_.symm.trans (congrArg Int64.toInt (hc.mp (q_eqI.mpr h))))
        rw [if_neg e]
        have e1 : (x + 1).toInt = x.toInt + 1 := y_inc (by omega)
        have z := ih (x + 1) (by omega) (by omega) (by omega)
        rw [e1] at z
        rcases z with ⟨z1, z2⟩ | ⟨z1, z2, z3, z4⟩
        · refine Or.inl ⟨z1, fun j a1 a2 => ?_⟩
          by_cases hj : j = x.toInt
          · rw [hj]; exact q1
          · exact z2 j (by omega) a2
        · refine Or.inr ⟨by omega, z2, z3, fun j a1 a2 => ?_⟩
          by_cases hj : j = x.toInt
          · rw [hj]; exact q1
          · exact z4 j (by omega) a2
    · rw [if_neg q]
      exact Or.inl ⟨rfl, fun j a1 a2 => by omega⟩
/-- both find the same player -/
theorem tl_named (S : y_S X lb) (G : y_G X lb g o) (w : y_W X lb g o σ0 σ V) (E : tc_E X σ R T n B) (K : tl_K σ R τ a B n) (h1 : (τ.1 a 14).toInt = 1) (h8 : (τ.1 a 16).toInt - (τ.1 a 15).toInt ≤ 8) {v : Int32} {bl P : Int} (hv : v.toInt = bl) (hbl : 0 ≤ bl ∧ bl ≤ 4) (hP : m_c X τ a (930 * bl + 2) = P) (hP6 : 0 ≤ P ∧ P ≤ 6) (hV : V 1 4 = P) (N : y_nm V (m_wd X τ a) (6 * bl) P) :
    (F_X6_playerNamed X σ (q_rf X g 0) R).toInt = (F_X12_named X τ a v).toInt ∧ (((F_X12_named X τ a v).toInt = -1 ∧ ∀ p, 0 ≤ p → p < P → m_wd X τ a (6 * bl + p) ≠ (τ.2.1 a 19).toInt) ∨ (0 ≤ (F_X12_named X τ a v).toInt ∧ (F_X12_named X τ a v).toInt < P)) := by
  have z0 : (0 : Int32).toInt = 0 := rfl
  have m := tm_namedL (X := X) (τ := τ) (a := a) hv hbl hP hP6.2 ((2147483647 - (0 : Int32).toInt).toNat + 1) 0 (by decide) (by decide) (by decide)
  have hp : (σ.1 (q_rf X g 0) 4).toInt = P := by
    have := y_v_rdn (X := X) (g := g) (σ := σ) (id := 1) (by decide) 4
    rw [w.2.2] at this
    exact this.trans hV
  have c := tc_playerNamedL (X := X) (σ := σ) (R := R) (u := q_rf X g 0) hp hP6.2 (Q := fun p => m_wd X τ a (6 * bl + p) = (τ.2.1 a 19).toInt) (fun x p hx p0 p1 => by
    rw [tl_isNamed S G w E K h1 h8 N hx ⟨p0, p1⟩ hP6.2]
    by_cases q : m_wd X τ a (6 * bl + p) = (τ.2.1 a 19).toInt
    · rw [if_pos q]; exact ⟨fun h => absurd h (by decide), fun h => absurd q h⟩
    · rw [if_neg q]; exact ⟨fun _ => q, fun _ => rfl⟩) ((2147483647 - (0 : Int32).toInt).toNat + 1) 0 (by decide) (by decide) (by decide)
  unfold F_X6_playerNamed F_X12_named
  rw [z0] at m c
  refine ⟨y_fst_u (Int.le_refl 0) c m, ?_⟩
  rcases m with ⟨m1, m2⟩ | ⟨m1, m2, m3, m4⟩
  · exact Or.inl ⟨m1, m2⟩
  · exact Or.inr ⟨m1, m2⟩
/-- a player told ahead that must stand there -/
theorem tl_passPlayer (S : y_S X lb) (G : y_G X lb g o) (w : y_W X lb g o σ0 σ V) (E : tc_E X σ R T n B) (M : tm_E X τ a n B) (K : tl_K σ R τ a B n) (h : (τ.1 a 12).toInt = 0) {v : Int32} {bl P : Int} (hv : v.toInt = bl) (hbl : 0 ≤ bl ∧ bl ≤ 4) (hP : m_c X τ a (930 * bl + 2) = P) (hP6 : 0 ≤ P ∧ P ≤ 6) (hV : V 1 4 = P) (N : y_nm V (m_wd X τ a) (6 * bl) P) :
    ∃ (z y : Int32) (σ' τ' : ST), F_X3_passPlayer X σ R (q_rf X g 0) = (z, σ') ∧ F_X12_readTold X τ a v = (y, τ') ∧ tl_O X σ R τ a B n (z.toInt ≠ -1) σ' τ' ∧ (z.toInt ≠ -1 → z.toInt = y.toInt ∧ 0 ≤ y.toInt ∧ y.toInt < P) ∧ (z.toInt = -1 → 0 ≤ y.toInt ∧ y.toInt ≤ 5) := by
  have z0 : (0 : Int32).toInt = 0 := rfl
  have z1 : (1 : Int32).toInt = 1 := rfl
  have zm : ((-1) : Int32).toInt = -1 := rfl
  rcases tl_mustBeName E M K h with ⟨m1, m2, m3, m4⟩ | ⟨m1, σ', m2, m3, m4, m5⟩
  · obtain ⟨nm1, nm2⟩ := tl_named S G w E K m2 m3 hv hbl hP hP6 hV N
    simp only [F_X3_passPlayer, F_X12_readTold, F_X12_readTold_J18_1, ↓q_letE, ↓q_biE]
    have nz : ¬ ((1 : Int32), σ).1.toInt = 0 := fun q => absurd (show (1 : Int32).toInt = 0 from q) (by decide)
    rw [m4, m1, h, if_neg nz, if_pos rfl, if_pos rfl, if_pos rfl, if_neg (by decide : ¬ (1 : Int) = 0)]
    show ∃ (z y : Int32) (σ' τ' : ST), (if (F_X6_playerNamed X σ (q_rf X g 0) R).toInt = -1 then ((-1 : Int32), (F_X3_fails X σ R 3).2) else (F_X6_playerNamed X σ (q_rf X g 0) R, F_X3_advance X σ R)) = (z, σ') ∧ _
    rw [nm1]
    rcases nm2 with ⟨q1, q2⟩ | ⟨q1, q2⟩
    · rw [if_pos q1, if_pos (by omega : (F_X12_named X τ a v).toInt < 0)]
      obtain ⟨σ', a1, a2, a3, a4⟩ := tl_fail (X := X) K h (by omega) (k := 3) (by decide) (w := τ.1 a 15) rfl
      rw [a1, tm_must2 a4.2.1]
      refine ⟨-1, _, σ', _, rfl, rfl, ⟨a2, a3, Or.inr ⟨fun q => q rfl, a4⟩⟩, fun q => absurd rfl q, fun _ => ?_⟩
      unfold F_J9_max_7cf53
      rw [q1, z0, if_neg (by decide)]
      decide
    · rw [if_neg (by omega : ¬ (F_X12_named X τ a v).toInt = -1), if_neg (by omega : ¬ (F_X12_named X τ a v).toInt < 0)]
      obtain ⟨c1, c2, c3, c4⟩ := tl_adv2 E M K
      have e : F_X12_must X τ a 1 = F_X12_next X τ a := by
        simp only [F_X12_must, ↓q_letE]
        rw [h, if_neg (by decide), z1, if_neg (by decide)]
      have mx : (F_J9_max_7cf53 X (F_X12_next X τ a) 0 (F_X12_named X τ a v)).toInt = (F_X12_named X τ a v).toInt := by
        unfold F_J9_max_7cf53
        rw [z0]
        by_cases q : 0 < (F_X12_named X τ a v).toInt
        · rw [if_pos q]
        · rw [if_neg q, z0]; omega
      rw [e]
      refine ⟨_, _, _, _, rfl, rfl, ⟨c1.S2, c2.S2, Or.inl ⟨by omega, c3, by rw [tn_12 c2]; exact h, c4⟩⟩, fun _ => ?_, fun q => by omega⟩
      rw [mx]
      exact ⟨nm1, q1, q2⟩
  · have p := m5.2.1
    have np : ¬ ((F_X12_wrong X τ a).1 a 12).toInt = 0 := by omega
    simp only [F_X3_passPlayer, F_X12_readTold, F_X12_readTold_J18_1, ↓q_letE, ↓q_biE]
    rw [m2, m1, h, if_pos rfl, if_pos rfl, if_neg np, if_neg np, tm_must2 p, if_pos z0]
    refine ⟨-1, _, σ', _, rfl, rfl, ⟨m3, m4, Or.inr ⟨fun q => q rfl, m5⟩⟩, fun q => absurd rfl q, fun _ => ?_⟩
    unfold F_J9_max_7cf53
    decide
end NT
end
/-! FROM 48k.tab.lean.txt -/
section
/-! A TABLE BEING READ: the class's reader D with its game g, the reference's fifth block -/
def tb_T (X : XW) (D : Nat) : Nat := q_rf X (q_rf X D 11) 0
/-- where the reader and its parts lie -/
def tb_D (X : XW) (lb : Nat → Nat) (D T g : Nat) : Prop := q_kd X D = 9 ∧ g = q_rf X D 8 ∧ y_G X lb g 6 ∧ lb D / 8192 = 0 ∧ lb T / 8192 = 0 ∧ lb (tb_T X D) / 8192 = 0 ∧ q_kd X (tb_T X D) = 20 ∧ q_ln X (tb_T X D) = 6 ∧ q_kd X T = 22
/-- the class's side: text, game, hands told, law told, most told -/
def tb_S (X : XW) (D T g : Nat) (σ : ST) (n : Int) (B : Int → Int) (V : Nat → Int → Int) (r : Int → Int) (f9 f10 : Int) : Prop := tc_E X σ D T n B ∧ y_v X g σ = V ∧ (∀ p : Int, 0 ≤ p → p < 6 → (σ.1 (tb_T X D) p.toNat).toInt = r p) ∧ (σ.1 D 9).toInt = f9 ∧ (σ.1 D 10).toInt = f10
/-- the reference's side -/
def tb_M (X : XW) (a : Nat) (τ : ST) (n : Int) (B : Int → Int) (c w t : Int → Int) (f9 f10 : Int) : Prop := tm_E X τ a n B ∧ m_c X τ a = c ∧ m_wd X τ a = w ∧ (∀ j : Int, 0 ≤ j → j < 60 → (τ.1 (q_rf X a 22) j.toNat).toInt = t j) ∧ (τ.1 a 25).toInt = f9 ∧ (τ.1 a 26).toInt = f10 ∧ (τ.1 a 0).toInt = 0 ∧ (τ.1 a 8).toInt = 0
/-- what the class's reading leaves alone -/
def tb_F (X : XW) (lb : Nat → Nat) (D : Nat) (σ σ' : ST) : Prop := (∀ b, lb b / 8192 ≠ 6 → b ≠ D → b ≠ tb_T X D → ∀ f, σ'.1 b f = σ.1 b f) ∧ (∀ f, ¬ (2 ≤ f ∧ f ≤ 7) → f ≠ 9 → f ≠ 10 → σ'.1 D f = σ.1 D f) ∧ σ'.2 = σ.2
theorem tb_F.rf {X : XW} {lb : Nat → Nat} {D : Nat} {σ : ST} : tb_F X lb D σ σ := ⟨fun _ _ _ _ _ => rfl, fun _ _ _ _ => rfl, rfl⟩
theorem tb_F.tr {X : XW} {lb : Nat → Nat} {D : Nat} {σ σ1 σ2 : ST} (h : tb_F X lb D σ σ1) (k : tb_F X lb D σ1 σ2) : tb_F X lb D σ σ2 := ⟨fun b b1 b2 b3 f => (k.1 b b1 b2 b3 f).trans (h.1 b b1 b2 b3 f), fun f f1 f2 f3 => (k.2.1 f f1 f2 f3).trans (h.2.1 f f1 f2 f3), k.2.2.trans h.2.2⟩
/-- the relation of both -/
def tb_N (V : Nat → Int → Int) (c : Int → Int) : Prop :=
  (V 1 0 = c 3720 ∧ V 1 1 = c 3721 ∧ V 1 2 = c 3723 ∧ V 1 3 = c 3724 ∧ V 1 4 = c 3722) ∧
  (∀ k : Int, 0 ≤ k → k < 10 → V 4 k = m_sum c 3720 k) ∧
  (∀ j : Int, 0 ≤ j → j < 60 → V 7 j = c (3754 + j)) ∧
  (∀ p : Int, 0 ≤ p → p < 6 → V 9 p = m_S c (3754 + 10 * p) 10) ∧
  (∀ p : Int, 0 ≤ p → p < 6 → V 10 p = c (3730 + p) ∧ V 11 p = c (3736 + p))
/-- a new game's cells that stay as they are -/
def tb_Z (V : Nat → Int → Int) : Prop := (∀ i : Int, 0 ≤ i → i < 60 → V 8 i = 0) ∧ (∀ i : Int, 0 ≤ i → i < 6 → V 12 i = 0 ∧ V 13 i = 0) ∧ V 0 4 = 0 ∧ V 0 5 = 0 ∧ V 0 6 = -1 ∧ V 0 7 = 0 ∧ V 2 0 = 0 ∧ V 2 1 = 0 ∧ V 3 0 = 0 ∧ V 3 1 = 0 ∧ V 3 2 = 0
def tb_bits (t : Int → Int) (p : Int) : Int := t (10 * p) + 2 * t (10 * p + 1) + 4 * t (10 * p + 2) + 8 * t (10 * p + 3) + 16 * t (10 * p + 4) + 32 * t (10 * p + 5) + 64 * t (10 * p + 6) + 128 * t (10 * p + 7) + 256 * t (10 * p + 8) + 512 * t (10 * p + 9)
def tb_H (c r t : Int → Int) : Prop :=
  (∀ j : Int, 0 ≤ j → j < 60 → (t j = 0 ∨ t j = 1) ∧ (t j = 0 → c (3754 + j) = 0)) ∧ (∀ p : Int, 0 ≤ p → p < 6 → r p = tb_bits t p) ∧ (∀ j : Int, 0 ≤ j → j < 60 → 10 * c 3722 ≤ j → t j = 0)
def tb_R (V : Nat → Int → Int) (r c w t : Int → Int) : Prop := tb_N V c ∧ tb_Z V ∧ y_nm V w 24 (c 3722) ∧ tb_H c r t ∧ m_N c ∧ 2 ≤ c 3720 ∧ 1 ≤ c 3721 ∧ 1 ≤ c 3724
section TB
variable {X : XW} {lb : Nat → Nat} {D T g a : Nat} {σ τ σ' τ' : ST} {n : Int} {B : Int → Int} {V : Nat → Int → Int} {r c w t : Int → Int} {f9 f10 : Int}
theorem tb_D.o (Y : y_S X lb) (H : tb_D X lb D T g) {id : Nat} (h : id < 25) : D ≠ y_gA X g id ∧ tb_T X D ≠ y_gA X g id ∧ T ≠ y_gA X g id := by
  obtain ⟨h1, h2, h3, h4, h5, h6, h7, h8, h9⟩ := H
  exact ⟨y_gA_ne Y h3 h (by omega), y_gA_ne Y h3 h (by omega), y_gA_ne Y h3 h (by omega)⟩
theorem tb_v (Y : y_S X lb) (H : tb_D X lb D T g) (h : ∀ b, b ≠ D → b ≠ tb_T X D → ∀ f, σ'.1 b f = σ.1 b f) : y_v X g σ' = y_v X g σ := by
  funext id i
  unfold y_v
  by_cases q : id < 25 ∧ 0 ≤ i
  · have o := H.o Y q.1
    rw [if_pos q, if_pos q, h _ (Ne.symm o.1) (Ne.symm o.2.1)]
  · rw [if_neg q, if_neg q]
theorem tb_TD (H : tb_D X lb D T g) : tb_T X D ≠ D := by
  intro e
  have h1 := H.1
  have h7 := H.2.2.2.2.2.2.1
  rw [e, h1] at h7
  exact absurd h7 (by decide)
/-- a step of the reader -/
theorem tb_S.rd (Y : y_S X lb) (H : tb_D X lb D T g) (S : tb_S X D T g σ n B V r f9 f10) (h : tk (tc_S2 D) σ σ') : tb_S X D T g σ' n B V r f9 f10 ∧ tb_F X lb D σ σ' := by
  obtain ⟨s1, s2, s3, s4, s5⟩ := S
  have hD : ∀ b, b ≠ D → ∀ f, σ'.1 b f = σ.1 b f := fun b hb f => h.1 b f (fun q => hb q.1)
  refine ⟨⟨s1.k2 h, ?_, fun p p0 p1 => ?_, ?_, ?_⟩, fun b _ b2 _ f => hD b b2 f, fun f f1 _ _ => h.1 D f (fun q => f1 q.2), h.2⟩
  · rw [tb_v Y H (fun b b1 _ f => hD b b1 f)]; exact s2
  · rw [hD _ (tb_TD H)]; exact s3 p p0 p1
  · rw [h.1 D 9 (fun q => absurd q.2.2 (by decide))]; exact s4
  · rw [h.1 D 10 (fun q => absurd q.2.2 (by decide))]; exact s5
/-- a step of its game -/
theorem tb_S.gm (Y : y_S X lb) (H : tb_D X lb D T g) (S : tb_S X D T g σ n B V r f9 f10) {V' : Nat → Int → Int} (h : y_W X lb g 6 σ σ' V') : tb_S X D T g σ' n B V' r f9 f10 ∧ tb_F X lb D σ σ' := by
  obtain ⟨s1, s2, s3, s4, s5⟩ := S
  obtain ⟨h1, h2, h3, h4, h5, h6, h7, h8, h9⟩ := H
  have eD : ∀ f, σ'.1 D f = σ.1 D f := h.1 D (by omega)
  have eT : ∀ f, σ'.1 T f = σ.1 T f := h.1 T (by omega)
  have eA : ∀ f, σ'.1 (tb_T X D) f = σ.1 (tb_T X D) f := h.1 _ (by omega)
  obtain ⟨e1, e2, e3, e4, e5, e6⟩ := s1
  refine ⟨⟨⟨by rw [h.2.1]; exact e1, by rw [eD]; exact e2, e3, e4, e5, fun p p0 p1 => by rw [eT]; exact e6 p p0 p1⟩, h.2.2, fun p p0 p1 => by rw [eA]; exact s3 p p0 p1, by rw [eD]; exact s4, by rw [eD]; exact s5⟩, fun b b1 _ _ f => h.1 b b1 f, fun f _ _ _ => eD f, h.2.1⟩
/-- a flag -/
theorem tb_S.s9 (Y : y_S X lb) (H : tb_D X lb D T g) (S : tb_S X D T g σ n B V r f9 f10) (v : Int32) : tb_S X D T g (q_si σ D 9 v) n B V r v.toInt f10 ∧ tb_F X lb D σ (q_si σ D 9 v) := by
  obtain ⟨s1, s2, s3, s4, s5⟩ := S
  have k : tk (fun b f => b = D ∧ f = 9) σ (q_si σ D 9 v) := tk.rf.si _ ⟨rfl, rfl⟩
  have hD : ∀ b, b ≠ D → ∀ f, (q_si σ D 9 v).1 b f = σ.1 b f := fun b hb f => k.1 b f (fun q => hb q.1)
  refine ⟨⟨s1.k k (fun b f q => ⟨fun e => s1.2.2.2.1 (e.symm.trans q.1), fun e => absurd q.2 (by rw [e.2]; decide)⟩), ?_, fun p p0 p1 => ?_, ?_, ?_⟩, fun b _ b2 _ f => hD b b2 f, fun f _ f2 _ => k.1 D f (fun q => f2 q.2), k.2⟩
  · rw [tb_v Y H (fun b b1 _ f => hD b b1 f)]; exact s2
  · rw [hD _ (tb_TD H)]; exact s3 p p0 p1
  · rw [si_eq]
  · rw [si_f (by decide)]; exact s5
theorem tb_S.s10 (Y : y_S X lb) (H : tb_D X lb D T g) (S : tb_S X D T g σ n B V r f9 f10) (v : Int32) : tb_S X D T g (q_si σ D 10 v) n B V r f9 v.toInt ∧ tb_F X lb D σ (q_si σ D 10 v) := by
  obtain ⟨s1, s2, s3, s4, s5⟩ := S
  have k : tk (fun b f => b = D ∧ f = 10) σ (q_si σ D 10 v) := tk.rf.si _ ⟨rfl, rfl⟩
  have hD : ∀ b, b ≠ D → ∀ f, (q_si σ D 10 v).1 b f = σ.1 b f := fun b hb f => k.1 b f (fun q => hb q.1)
  refine ⟨⟨s1.k k (fun b f q => ⟨fun e => s1.2.2.2.1 (e.symm.trans q.1), fun e => absurd q.2 (by rw [e.2]; decide)⟩), ?_, fun p p0 p1 => ?_, ?_, ?_⟩, fun b _ b2 _ f => hD b b2 f, fun f _ _ f3 => k.1 D f (fun q => f3 q.2), k.2⟩
  · rw [tb_v Y H (fun b b1 _ f => hD b b1 f)]; exact s2
  · rw [hD _ (tb_TD H)]; exact s3 p p0 p1
  · rw [si_f (by decide)]; exact s4
  · rw [si_eq]
/-- a hand told -/
theorem tb_S.told (Y : y_S X lb) (H : tb_D X lb D T g) (S : tb_S X D T g σ n B V r f9 f10) {x v : Int32} {p : Int} (hx : x.toInt = p) (hp : 0 ≤ p ∧ p < 6) {s : Int} (hs : ar_w (r p + v.toInt) = s) : tb_S X D T g (F_X5_add X σ (q_rf X D 11) x v) n B V (fun j => if j = p then s else r j) f9 f10 ∧ tb_F X lb D σ (F_X5_add X σ (q_rf X D 11) x v) := by
  obtain ⟨s1, s2, s3, s4, s5⟩ := S
  have e : F_X5_add X σ (q_rf X D 11) x v = q_si σ (tb_T X D) x.toNatClampNeg (σ.1 (tb_T X D) x.toNatClampNeg + v) := by
    simp only [F_X5_add, ↓q_letE]
    have hl : (q_len X (q_rf X (q_rf X D 11) 0)).toInt = 6 := by
      unfold q_len
      have : q_ln X (q_rf X (q_rf X D 11) 0) = 6 := H.2.2.2.2.2.2.2.1
      rw [this]
      rfl
    rw [hl, hx, if_neg (by omega), if_pos (by omega)]
    rfl
  have hv : (σ.1 (tb_T X D) x.toNatClampNeg + v).toInt = s := by
    rw [ar_add, ar_cl, hx, s3 p hp.1 hp.2]
    exact hs
  rw [e]
  obtain ⟨y, hy⟩ : ∃ y, y = σ.1 (tb_T X D) x.toNatClampNeg + v := ⟨_, rfl⟩
  rw [← hy] at hv ⊢
  have k : tk (fun b f => b = tb_T X D ∧ f = x.toNatClampNeg) σ (q_si σ (tb_T X D) x.toNatClampNeg y) := tk.rf.si _ ⟨rfl, rfl⟩
  have hA : ∀ b, b ≠ tb_T X D → ∀ f, (q_si σ (tb_T X D) x.toNatClampNeg y).1 b f = σ.1 b f := fun b hb f => k.1 b f (fun q => hb q.1)
  have hTT : T ≠ tb_T X D := by
    intro e
    have h7 := H.2.2.2.2.2.2.1
    have h9 := H.2.2.2.2.2.2.2.2
    rw [← e, h9] at h7
    exact absurd h7 (by decide)
  have hDA : D ≠ tb_T X D := Ne.symm (tb_TD H)
  refine ⟨⟨s1.k k (fun b f q => ⟨fun e => hTT (e.symm.trans q.1), fun e => hDA (e.1.symm.trans q.1)⟩), ?_, fun j j0 j1 => ?_, ?_, ?_⟩, fun b _ _ b3 f => hA b b3 f, fun f _ _ _ => hA D hDA f, k.2⟩
  · rw [tb_v Y H (fun b _ b2 f => hA b b2 f)]; exact s2
  · show (if tb_T X D = tb_T X D ∧ j.toNat = x.toNatClampNeg then y else σ.1 (tb_T X D) j.toNat).toInt = if j = p then s else r j
    by_cases q : j = p
    · rw [if_pos q, if_pos ⟨rfl, by rw [ar_cl, hx, q]⟩]; exact hv
    · rw [if_neg q, if_neg (fun z => q (by have := z.2; rw [ar_cl, hx] at this; omega))]; exact s3 j j0 j1
  · rw [hA D hDA]; exact s4
  · rw [hA D hDA]; exact s5
/-! the reference's steps -/
theorem tb_k (hT : q_T X) (ha : q_kd X a = 12) : q_kd X (q_rf X a 20) = 34 ∧ q_kd X (q_rf X a 22) = 36 ∧ q_kd X (q_rf X a 23) = 37 ∧ q_kd X (q_rf X a 7) = 33 :=
  ⟨(hT.1 a 20 (by rw [ha]; decide)).trans (by rw [ha]; rfl), (hT.1 a 22 (by rw [ha]; decide)).trans (by rw [ha]; rfl), (hT.1 a 23 (by rw [ha]; decide)).trans (by rw [ha]; rfl), (hT.1 a 7 (by rw [ha]; decide)).trans (by rw [ha]; rfl)⟩
theorem tb_M.rd (hT : q_T X) (ha : q_kd X a = 12) (M : tb_M X a τ n B c w t f9 f10) (h : tkl (tn_S2 a) (tn_L a) τ τ') : tb_M X a τ' n B c w t f9 f10 := by
  obtain ⟨m1, m2, m3, m4, m5, m6⟩ := M
  obtain ⟨k1, k2, k3, k4⟩ := tb_k hT ha
  refine ⟨m1.k2 h, ?_, ?_, fun j j0 j1 => ?_, ?_, ?_⟩
  · rw [← m2]; funext j
    exact congrArg Int32.toInt (h.1 _ _ (fun q => m_ne k1 ha (by decide) q.1))
  · rw [← m3]; funext j
    exact congrArg Int64.toInt (h.2.1 _ _ (fun q => m_ne k3 ha (by decide) q.1))
  · rw [h.1 _ _ (fun q => m_ne k2 ha (by decide) q.1)]; exact m4 j j0 j1
  · rw [h.1 a 25 (fun q => absurd q.2.2 (by decide))]; exact m5
  · rw [h.1 a 26 (fun q => absurd q.2.2 (by decide)), h.1 a 0 (fun q => absurd q.2.1 (by decide)), h.1 a 8 (fun q => absurd q.2.1 (by decide))]; exact m6
/-- the token's cells are the same -/
def tl_same (a : Nat) (τ τ' : ST) : Prop := (∀ f, 12 ≤ f → f ≤ 18 → τ'.1 a f = τ.1 a f) ∧ τ'.2.1 a 19 = τ.2.1 a 19
def tl_sameC (R : Nat) (σ σ' : ST) : Prop := ∀ f, 2 ≤ f → f ≤ 7 → σ'.1 R f = σ.1 R f
theorem tl_K.same {R : Nat} (K : tl_K σ R τ a B n) (hc : tl_sameC R σ σ') (hm : tl_same a τ τ') : tl_K σ' R τ' a B n := by
  unfold tl_K at K ⊢
  rw [hc 2 (by decide) (by decide), hc 3 (by decide) (by decide), hc 4 (by decide) (by decide), hc 5 (by decide) (by decide), hc 6 (by decide) (by decide), hc 7 (by decide) (by decide), hm.1 14 (by decide) (by decide), hm.1 15 (by decide) (by decide), hm.1 16 (by decide) (by decide), hm.1 17 (by decide) (by decide), hm.1 18 (by decide) (by decide), hm.2]
  exact K
theorem tl_same.rf : tl_same a τ τ := ⟨fun _ _ _ => rfl, rfl⟩
theorem tl_sameC.rf {R : Nat} : tl_sameC R σ σ := fun _ _ _ => rfl
theorem tl_sameC.W {o : Nat} {V' : Nat → Int → Int} {R : Nat} (h : y_W X lb g o σ σ' V') (hR : lb R / 8192 ≠ o) : tl_sameC R σ σ' := fun f _ _ => h.1 R hR f
/-- the table's cell at A becomes v -/
def m_up (c : Int → Int) (A v : Int) : Int → Int := fun j => if j = A then v else c j
theorem m_c_neg (X : XW) (σ : ST) (a : Nat) {j : Int} (h : j < 0) : m_c X σ a j = m_c X σ a 0 := by
  unfold m_c
  have e : j.toNat = (0 : Int).toNat := by show j.toNat = 0; omega
  rw [e]
theorem m_c_up (A : Int) (hA : 1 ≤ A) {i v : Int32} (h : i.toInt = A) : m_c X (q_si τ (q_rf X a 20) i.toNatClampNeg v) a = m_up (m_c X τ a) A v.toInt := by
  funext j
  by_cases q : 0 ≤ j
  · exact m_wr (X := X) (a := a) rfl h (by omega) j q
  · rw [m_c_neg _ _ _ (by omega), m_wr (X := X) (a := a) rfl h (by omega) 0 (Int.le_refl 0), if_neg (by omega)]
    unfold m_up
    rw [if_neg (by omega)]
    exact (m_c_neg X τ a (by omega)).symm
theorem tb_M.cw (hT : q_T X) (ha : q_kd X a = 12) (M : tb_M X a τ n B c w t f9 f10) {i v : Int32} {A : Int} (hi : i.toInt = A) (hA : 1 ≤ A) : tb_M X a (q_si τ (q_rf X a 20) i.toNatClampNeg v) n B (m_up c A v.toInt) w t f9 f10 ∧ tl_same a τ (q_si τ (q_rf X a 20) i.toNatClampNeg v) := by
  obtain ⟨m1, m2, m3, m4, m5, m6⟩ := M
  obtain ⟨k1, k2, k3, k4⟩ := tb_k hT ha
  have na : a ≠ q_rf X a 20 := Ne.symm (m_ne k1 ha (by decide))
  have k : tkl (fun b f => b = q_rf X a 20) (fun _ _ => False) τ (q_si τ (q_rf X a 20) i.toNatClampNeg v) := tkl.rf.si _ rfl
  refine ⟨⟨m1.k k (fun b f q => ⟨fun e => m_ne k1 k4 (by decide) (q.symm.trans e), fun e => na (e.1.symm.trans q)⟩), ?_, m3, fun j j0 j1 => ?_, ?_, ?_⟩, fun f _ _ => k.1 a f na, rfl⟩
  · rw [m_c_up A hA hi, m2]
  · rw [k.1 _ _ (m_ne k2 k1 (by decide))]; exact m4 j j0 j1
  · rw [k.1 a 25 na]; exact m5
  · rw [k.1 a 26 na, k.1 a 0 na, k.1 a 8 na]; exact m6
theorem tb_M.s9 (hT : q_T X) (ha : q_kd X a = 12) (M : tb_M X a τ n B c w t f9 f10) (v : Int32) : tb_M X a (q_si τ a 25 v) n B c w t v.toInt f10 ∧ tl_same a τ (q_si τ a 25 v) := by
  obtain ⟨m1, m2, m3, m4, m5, m6⟩ := M
  obtain ⟨k1, k2, k3, k4⟩ := tb_k hT ha
  have k : tkl (fun b f => b = a ∧ f = 25) (fun _ _ => False) τ (q_si τ a 25 v) := tkl.rf.si _ ⟨rfl, rfl⟩
  refine ⟨⟨m1.k k (fun b f q => ⟨fun e => m_ne k4 ha (by decide) (e.symm.trans q.1), fun e => absurd q.2 (by rw [e.2]; decide)⟩), ?_, m3, fun j j0 j1 => ?_, ?_, ?_⟩, fun f _ f2 => k.1 a f (fun q => by have := q.2; omega), rfl⟩
  · rw [← m2]; funext j
    exact congrArg Int32.toInt (k.1 _ _ (fun q => m_ne k1 ha (by decide) q.1))
  · rw [k.1 _ _ (fun q => m_ne k2 ha (by decide) q.1)]; exact m4 j j0 j1
  · rw [si_eq]
  · rw [si_f (by decide), si_f (by decide), si_f (by decide)]; exact m6
theorem tb_M.s10 (hT : q_T X) (ha : q_kd X a = 12) (M : tb_M X a τ n B c w t f9 f10) (v : Int32) : tb_M X a (q_si τ a 26 v) n B c w t f9 v.toInt ∧ tl_same a τ (q_si τ a 26 v) := by
  obtain ⟨m1, m2, m3, m4, m5, m6⟩ := M
  obtain ⟨k1, k2, k3, k4⟩ := tb_k hT ha
  have k : tkl (fun b f => b = a ∧ f = 26) (fun _ _ => False) τ (q_si τ a 26 v) := tkl.rf.si _ ⟨rfl, rfl⟩
  refine ⟨⟨m1.k k (fun b f q => ⟨fun e => m_ne k4 ha (by decide) (e.symm.trans q.1), fun e => absurd q.2 (by rw [e.2]; decide)⟩), ?_, m3, fun j j0 j1 => ?_, ?_, ?_⟩, fun f _ f2 => k.1 a f (fun q => by have := q.2; omega), rfl⟩
  · rw [← m2]; funext j
    exact congrArg Int32.toInt (k.1 _ _ (fun q => m_ne k1 ha (by decide) q.1))
  · rw [k.1 _ _ (fun q => m_ne k2 ha (by decide) q.1)]; exact m4 j j0 j1
  · rw [si_f (by decide)]; exact m5
  · exact ⟨by rw [si_eq], by rw [si_f (by decide)]; exact m6.2.1, by rw [si_f (by decide)]; exact m6.2.2⟩
theorem tb_M.told (hT : q_T X) (ha : q_kd X a = 12) (M : tb_M X a τ n B c w t f9 f10) {i v : Int32} {A : Int} (hi : i.toInt = A) (hA : 0 ≤ A ∧ A < 60) : tb_M X a (q_si τ (q_rf X a 22) i.toNatClampNeg v) n B c w (m_up t A v.toInt) f9 f10 ∧ tl_same a τ (q_si τ (q_rf X a 22) i.toNatClampNeg v) := by
  obtain ⟨m1, m2, m3, m4, m5, m6⟩ := M
  obtain ⟨k1, k2, k3, k4⟩ := tb_k hT ha
  have na : a ≠ q_rf X a 22 := Ne.symm (m_ne k2 ha (by decide))
  have k : tkl (fun b f => b = q_rf X a 22) (fun _ _ => False) τ (q_si τ (q_rf X a 22) i.toNatClampNeg v) := tkl.rf.si _ rfl
  refine ⟨⟨m1.k k (fun b f q => ⟨fun e => m_ne k2 k4 (by decide) (q.symm.trans e), fun e => na (e.1.symm.trans q)⟩), ?_, m3, fun j j0 j1 => ?_, ?_, ?_⟩, fun f _ _ => k.1 a f na, rfl⟩
  · rw [← m2]; funext j
    exact congrArg Int32.toInt (k.1 _ _ (m_ne k1 k2 (by decide)))
  · show (if q_rf X a 22 = q_rf X a 22 ∧ j.toNat = i.toNatClampNeg then v else τ.1 (q_rf X a 22) j.toNat).toInt = if j = A then v.toInt else t j
    by_cases q : j = A
    · rw [if_pos q, if_pos ⟨rfl, by rw [ar_cl, hi, q]⟩]
    · rw [if_neg q, if_neg (fun z => q (by have := z.2; rw [ar_cl, hi] at this; omega))]; exact m4 j j0 j1
  · rw [k.1 a 25 na]; exact m5
  · rw [k.1 a 26 na, k.1 a 0 na, k.1 a 8 na]; exact m6
theorem tb_M.word (hT : q_T X) (ha : q_kd X a = 12) (M : tb_M X a τ n B c w t f9 f10) {i : Int32} {v : Int64} {A : Int} (hi : i.toInt = A) (hA : 1 ≤ A) : tb_M X a (q_sl τ (q_rf X a 23) i.toNatClampNeg v) n B c (m_up w A v.toInt) t f9 f10 ∧ tl_same a τ (q_sl τ (q_rf X a 23) i.toNatClampNeg v) := by
  obtain ⟨m1, m2, m3, m4, m5, m6⟩ := M
  obtain ⟨k1, k2, k3, k4⟩ := tb_k hT ha
  have na : a ≠ q_rf X a 23 := Ne.symm (m_ne k3 ha (by decide))
  refine ⟨⟨m1, m2, ?_, m4, m5, m6⟩, fun f _ _ => rfl, q_sl_ne na 19⟩
  rw [← m3]
  funext j
  show (if q_rf X a 23 = q_rf X a 23 ∧ j.toNat = i.toNatClampNeg then v else τ.2.1 (q_rf X a 23) j.toNat).toInt = if j = A then v.toInt else (τ.2.1 (q_rf X a 23) j.toNat).toInt
  by_cases q : j = A
  · rw [if_pos q, if_pos ⟨rfl, by rw [ar_cl, hi, q]⟩]
  · rw [if_neg q]
    by_cases q2 : j.toNat = i.toNatClampNeg
    · rw [ar_cl, hi] at q2
      exact absurd (by omega : j = A) q
    · rw [if_neg (fun z => q2 z.2)]
end TB
end
/-! FROM 48l.parts.lean.txt -/
section
/-! THE PARTS OF A TABLE -/
theorem m_up_eq (c : Int → Int) (A v : Int) : m_up c A v A = v := if_pos rfl
theorem m_up_ne {c : Int → Int} {A v j : Int} (h : j ≠ A) : m_up c A v j = c j := if_neg h
theorem y_up_eq (V : Nat → Int → Int) (id : Nat) (i v : Int) : y_up V id i v id i = v := if_pos ⟨rfl, rfl⟩
theorem y_up_ne {V : Nat → Int → Int} {id id' : Nat} {i i' v : Int} (h : id' ≠ id ∨ i' ≠ i) : y_up V id i v id' i' = V id' i' := by
  refine if_neg ?_
  rintro ⟨h1, h2⟩
  rcases h with h | h
  · exact h h1
  · exact h h2
theorem m_up_e {c : Int → Int} {A v : Int} : ∀ j : Int, 0 ≤ j → m_up c A v j = if j = A then v else c j := fun _ _ => rfl
theorem m_sum_up {c : Int → Int} {A v k : Int} (hk : 0 ≤ k) (h : A < 3754) : m_sum (m_up c A v) 3720 k = m_sum c 3720 k := by
  unfold m_sum
  rw [m_up_ne (by omega), m_up_ne (by omega), m_up_ne (by omega), m_up_ne (by omega), m_up_ne (by omega), m_up_ne (by omega)]
theorem m_S_up {c : Int → Int} {A v b : Int} {n : Nat} (h : A < b) : m_S (m_up c A v) b n = m_S c b n := m_S_ext (fun j a _ => m_up_ne (by omega))
/-- a law, a most, a number of players: nothing else is changed -/
theorem tb_H.up {c r t : Int → Int} {A v : Int} (h : tb_H c r t) (hA : A < 3754) (hA2 : A = 3722 → c 3722 ≤ v) : tb_H (m_up c A v) r t := by
  obtain ⟨h1, h2, h3⟩ := h
  refine ⟨fun j a b => ⟨(h1 j a b).1, fun q => by rw [m_up_ne (by omega)]; exact (h1 j a b).2 q⟩, h2, fun j a b q => h3 j a b ?_⟩
  by_cases e : A = 3722
  · subst e
    rw [m_up_eq] at q
    have := hA2 rfl
    omega
  · rw [m_up_ne (fun z => e z.symm)] at q
    exact q
theorem tb_Z.up {V : Nat → Int → Int} {id : Nat} {i v : Int} (h : tb_Z V) (hid : id = 1 ∨ id = 4 ∨ id = 5 ∨ id = 6 ∨ id = 7 ∨ id = 9 ∨ id = 10 ∨ id = 11) : tb_Z (y_up V id i v) := by
  obtain ⟨h1, h2, h3⟩ := h
  refine ⟨fun j a b => by rw [y_up_ne (Or.inl (by omega))]; exact h1 j a b, fun j a b => by rw [y_up_ne (Or.inl (by omega)), y_up_ne (Or.inl (by omega))]; exact h2 j a b, ?_⟩
  rw [y_up_ne (Or.inl (by omega)), y_up_ne (Or.inl (by omega)), y_up_ne (Or.inl (by omega)), y_up_ne (Or.inl (by omega)), y_up_ne (Or.inl (by omega)), y_up_ne (Or.inl (by omega)), y_up_ne (Or.inl (by omega)), y_up_ne (Or.inl (by omega)), y_up_ne (Or.inl (by omega))]
  exact h3
theorem y_nm.up {V : Nat → Int → Int} {w : Int → Int} {q P : Int} {id : Nat} {i v : Int} (h : y_nm V w q P) (h5 : id ≠ 5) (h6 : id ≠ 6) : y_nm (y_up V id i v) w q P := by
  intro p p0 p1
  obtain ⟨a1, a2, a3⟩ := h p p0 p1
  have e6 : y_up V id i v 6 p = V 6 p := y_up_ne (Or.inl (Ne.symm h6))
  have e5 : (fun j => y_up V id i v 5 (8 * p + j)) = fun j => V 5 (8 * p + j) := by funext j; exact y_up_ne (Or.inl (Ne.symm h5))
  rw [e6]
  refine ⟨a1, fun j j0 j1 => ?_, ?_⟩
  · rw [y_up_ne (Or.inl (Ne.symm h5))]; exact a2 j j0 j1
  · rw [e5]; exact a3
theorem tb_R.law {V : Nat → Int → Int} {r c w t : Int → Int} {v : Int} (h : tb_R V r c w t) (hv : 0 ≤ v ∧ v ≤ 2) : tb_R (y_up V 1 2 v) r (m_up c 3723 v) w t := by
  obtain ⟨⟨⟨n1, n2, n3, n4, n5⟩, n6, n7, n8, n9⟩, z, nm, hh, mn, k1, k2, k3⟩ := h
  refine ⟨⟨⟨?_, ?_, ?_, ?_, ?_⟩, ?_, ?_, ?_, ?_⟩, z.up (Or.inl rfl), ?_, hh.up (by omega) (by omega), mn.wr m_up_e (by omega), ?_, ?_, ?_⟩
  · rw [y_up_ne (Or.inr (by decide)), m_up_ne (by decide)]; exact n1
  · rw [y_up_ne (Or.inr (by decide)), m_up_ne (by decide)]; exact n2
  · rw [y_up_eq, m_up_eq]
  · rw [y_up_ne (Or.inr (by decide)), m_up_ne (by decide)]; exact n4
  · rw [y_up_ne (Or.inr (by decide)), m_up_ne (by decide)]; exact n5
  · intro k a b; rw [y_up_ne (Or.inl (by decide)), m_sum_up a (by decide)]; exact n6 k a b
  · intro j a b; rw [y_up_ne (Or.inl (by decide)), m_up_ne (by omega)]; exact n7 j a b
  · intro p a b; rw [y_up_ne (Or.inl (by decide)), m_S_up (by omega)]; exact n8 p a b
  · intro p a b; rw [y_up_ne (Or.inl (by decide)), y_up_ne (Or.inl (by decide)), m_up_ne (by omega), m_up_ne (by omega)]; exact n9 p a b
  · rw [m_up_ne (by decide)]; exact nm.up (by decide) (by decide)
  · rw [m_up_ne (by decide)]; exact k1
  · rw [m_up_ne (by decide)]; exact k2
  · rw [m_up_ne (by decide)]; exact k3
theorem tb_R.most {V : Nat → Int → Int} {r c w t : Int → Int} {v : Int} (h : tb_R V r c w t) (hv : 1 ≤ v ∧ v ≤ 4) : tb_R (y_up V 1 3 v) r (m_up c 3724 v) w t := by
  obtain ⟨⟨⟨n1, n2, n3, n4, n5⟩, n6, n7, n8, n9⟩, z, nm, hh, mn, k1, k2, k3⟩ := h
  refine ⟨⟨⟨?_, ?_, ?_, ?_, ?_⟩, ?_, ?_, ?_, ?_⟩, z.up (Or.inl rfl), ?_, hh.up (by omega) (by omega), mn.wr m_up_e (by omega), ?_, ?_, ?_⟩
  · rw [y_up_ne (Or.inr (by decide)), m_up_ne (by decide)]; exact n1
  · rw [y_up_ne (Or.inr (by decide)), m_up_ne (by decide)]; exact n2
  · rw [y_up_ne (Or.inr (by decide)), m_up_ne (by decide)]; exact n3
  · rw [y_up_eq, m_up_eq]
  · rw [y_up_ne (Or.inr (by decide)), m_up_ne (by decide)]; exact n5
  · intro k a b; rw [y_up_ne (Or.inl (by decide)), m_sum_up a (by decide)]; exact n6 k a b
  · intro j a b; rw [y_up_ne (Or.inl (by decide)), m_up_ne (by omega)]; exact n7 j a b
  · intro p a b; rw [y_up_ne (Or.inl (by decide)), m_S_up (by omega)]; exact n8 p a b
  · intro p a b; rw [y_up_ne (Or.inl (by decide)), y_up_ne (Or.inl (by decide)), m_up_ne (by omega), m_up_ne (by omega)]; exact n9 p a b
  · rw [m_up_ne (by decide)]; exact nm.up (by decide) (by decide)
  · rw [m_up_ne (by decide)]; exact k1
  · rw [m_up_ne (by decide)]; exact k2
  · rw [m_up_eq]; exact hv.1
/-- both in the middle of a table -/
def tb_I (X : XW) (D T g a : Nat) (n : Int) (B : Int → Int) (σ τ : ST) (V : Nat → Int → Int) (r c w t : Int → Int) (f9 f10 : Int) : Prop := tb_S X D T g σ n B V r f9 f10 ∧ tb_M X a τ n B c w t f9 f10 ∧ tl_K σ D τ a B n ∧ (τ.1 a 12).toInt = 0 ∧ tb_R V r c w t
/-- what the reference's reading leaves alone -/
def tb_P (X : XW) (a : Nat) (τ τ' : ST) : Prop := (∀ j : Int, 0 ≤ j → j < 3720 → m_c X τ' a j = m_c X τ a j) ∧ (∀ j : Int, 0 ≤ j → j < 24 → m_wd X τ' a j = m_wd X τ a j) ∧ (τ'.1 a 0).toInt = (τ.1 a 0).toInt ∧ (τ'.1 a 8).toInt = (τ.1 a 8).toInt
/-- what comes of a part -/
def tb_O (X : XW) (lb : Nat → Nat) (D T g a : Nat) (n : Int) (B : Int → Int) (σ τ σ' τ' : ST) (z : Int32) : Prop :=
  tb_F X lb D σ σ' ∧ tb_P X a τ τ' ∧
  ((z.toInt = 1 ∧ ∃ (V : Nat → Int → Int) (r c w t : Int → Int) (f9 f10 : Int), tb_I X D T g a n B σ' τ' V r c w t f9 f10 ∧ (τ.1 a 15).toInt < (τ'.1 a 15).toInt) ∨ (z.toInt = 0 ∧ tl_F σ' D τ' a))
section TP
variable {X : XW} {lb : Nat → Nat} {D T g a : Nat} {σ τ σ' τ' σ1 τ1 : ST} {n : Int} {B : Int → Int} {V : Nat → Int → Int} {r c w t : Int → Int} {f9 f10 : Int}
theorem tb_P.rf : tb_P X a τ τ := ⟨fun _ _ _ => rfl, fun _ _ _ => rfl, rfl, rfl⟩
theorem tb_P.tr (h : tb_P X a τ τ1) (k : tb_P X a τ1 τ') : tb_P X a τ τ' := ⟨fun j a b => (k.1 j a b).trans (h.1 j a b), fun j a b => (k.2.1 j a b).trans (h.2.1 j a b), k.2.2.1.trans h.2.2.1, k.2.2.2.trans h.2.2.2⟩
theorem tb_P.mk {c' w' t' : Int → Int} {h9 h10 k9 k10 : Int} (M : tb_M X a τ n B c w t h9 h10) (M' : tb_M X a τ' n B c' w' t' k9 k10) (hc : ∀ j : Int, 0 ≤ j → j < 3720 → c' j = c j) (hw : ∀ j : Int, 0 ≤ j → j < 24 → w' j = w j) : tb_P X a τ τ' := ⟨fun j a b => by rw [M.2.1, M'.2.1]; exact hc j a b, fun j a b => by rw [M.2.2.1, M'.2.2.1]; exact hw j a b, M'.2.2.2.2.2.2.1.trans M.2.2.2.2.2.2.1.symm, M'.2.2.2.2.2.2.2.trans M.2.2.2.2.2.2.2.symm⟩
theorem tb_P.rd (hT : q_T X) (ha : q_kd X a = 12) (h : tkl (tn_S2 a) (tn_L a) τ τ') : tb_P X a τ τ' := by
  obtain ⟨k1, k2, k3, k4⟩ := tb_k hT ha
  exact ⟨fun j _ _ => congrArg Int32.toInt (h.1 _ _ (fun q => m_ne k1 ha (by decide) q.1)), fun j _ _ => congrArg Int64.toInt (h.2.1 _ _ (fun q => m_ne k3 ha (by decide) q.1)), congrArg Int32.toInt (h.1 a 0 (fun q => absurd q.2.1 (by decide))), congrArg Int32.toInt (h.1 a 8 (fun q => absurd q.2.1 (by decide)))⟩
theorem tm_must0 (h : (τ.1 a 12).toInt = 0) {v : Int32} (hv : v.toInt = 0) : F_X12_must X τ a v = F_X12_wrong X τ a := by
  simp only [F_X12_must, ↓q_letE]
  rw [h, if_neg (by decide), if_pos hv]
theorem tm_must1 (h : (τ.1 a 12).toInt = 0) {v : Int32} (hv : v.toInt ≠ 0) : F_X12_must X τ a v = F_X12_next X τ a := by
  simp only [F_X12_must, ↓q_letE]
  rw [h, if_neg (by decide), if_neg hv]
/-- a fault, and the reference goes no further -/
theorem tb_O.bad {z : Int32} (hf : tb_F X lb D σ σ') (hp : tb_P X a τ τ') (hz : z.toInt = 0) (h : tl_F σ' D τ' a) (v : Int32) : tb_O X lb D T g a n B σ τ σ' (F_X12_must X τ' a v) z := by
  rw [tm_must2 h.2.1]
  exact ⟨hf, hp, Or.inr ⟨hz, h⟩⟩
/-- the semicolon at a part's end -/
theorem tb_semi (Y : y_S X lb) (H : tb_D X lb D T g) (ha : q_kd X a = 12) (I : tb_I X D T g a n B σ' τ' V r c w t f9 f10) (hf : tb_F X lb D σ σ') (hp : tb_P X a τ τ') (hlt : (τ.1 a 15).toInt ≤ (τ'.1 a 15).toInt) (hlt2 : (τ.1 a 15).toInt < (τ'.1 a 16).toInt) :
    ∃ (z : Int32) (σ2 : ST), F_X3_passSemicolon X σ' D = (z, σ2) ∧ tb_O X lb D T g a n B σ τ σ2 (F_X12_must X τ' a (F_X12_isSign X τ' a 59)) z := by
  obtain ⟨S, M, K, h0, Rr⟩ := I
  obtain ⟨z, σ2, e, hz, o1, o2, o3⟩ := tl_passSemi S.1 M.1 K h0
  obtain ⟨S2, f2⟩ := S.rd Y H o1
  have M2 := M.rd Y.1 ha o2
  refine ⟨z, σ2, e, hf.tr f2, hp.tr (tb_P.rd Y.1 ha o2), ?_⟩
  rcases o3 with ⟨q1, q2, q3, q4⟩ | ⟨q1, q2⟩
  · exact Or.inl ⟨q1, V, r, c, w, t, f9, f10, ⟨S2, M2, q2, q3, Rr⟩, by omega⟩
  · refine Or.inr ⟨?_, q2⟩
    rcases hz with hz | hz
    · exact hz
    · exact absurd hz q1
theorem tl_sameC.s9 (v : Int32) : tl_sameC D σ (q_si σ D 9 v) := fun f _ h => si_f (by omega) D
theorem tl_sameC.s10 (v : Int32) : tl_sameC D σ (q_si σ D 10 v) := fun f _ h => si_f (by omega) D
theorem tb_readLaw (Y : y_S X lb) (H : tb_D X lb D T g) (ha : q_kd X a = 12) (I : tb_I X D T g a n B σ τ V r c w t f9 f10) (h1 : (τ.1 a 14).toInt = 1) :
    ∃ (z : Int32) (σ' : ST), F_X9_readLaw X σ D = (z, σ') ∧ tb_O X lb D T g a n B σ τ σ' (F_X12_must X (F_X12_readLaw X τ a) a (F_X12_isSign X (F_X12_readLaw X τ a) a 59)) z := by
  obtain ⟨S, M, K, h0, Rr⟩ := I
  have kb := K.b
  unfold F_X9_readLaw F_X12_readLaw
  rw [q_letE (σ.1 D 9), q_letE (τ.1 a 25), S.2.2.2.1, M.2.2.2.2.1]
  by_cases q9 : f9 = 0
  · rw [if_pos q9, if_pos q9, q_letE (τ.1 a 12), h0, if_neg (by decide : ¬ (0 : Int) < 0), q_letE (q_si σ D 9 1), q_letE (q_si τ a 25 1)]
    obtain ⟨S1, f1⟩ := S.s9 Y H 1
    obtain ⟨M1, sm1⟩ := M.s9 Y.1 ha 1
    have K1 := K.same (tl_sameC.s9 1) sm1
    have h01 : ((q_si τ a 25 1).1 a 12).toInt = 0 := by rw [sm1.1 12 (by decide) (by decide)]; exact h0
    have p1 : tb_P X a τ (q_si τ a 25 1) := tb_P.mk M M1 (fun _ _ _ => rfl) (fun _ _ _ => rfl)
    have e16 : (q_si τ a 25 1).1 a 16 = τ.1 a 16 := sm1.1 16 (by decide) (by decide)
    obtain ⟨σa, hσa⟩ : ∃ s, s = q_si σ D 9 1 := ⟨_, rfl⟩
    obtain ⟨τa, hτa⟩ : ∃ s, s = q_si τ a 25 1 := ⟨_, rfl⟩
    rw [← hσa] at S1 f1 K1 ⊢
    rw [← hτa] at M1 K1 h01 p1 e16 ⊢
    rw [q_letE (F_X3_advance X σa D), q_letE (F_X12_next X τa a)]
    obtain ⟨c1, m1, K2, g2⟩ := tl_adv2 S1.1 M1.1 K1
    obtain ⟨S2, f2⟩ := S1.rd Y H c1.S2
    have M2 := M1.rd Y.1 ha m1.S2
    have p2 := p1.tr (tb_P.rd Y.1 ha m1.S2)
    have h02 : ((F_X12_next X τa a).1 a 12).toInt = 0 := by rw [tn_12 m1]; exact h01
    obtain ⟨σb, hσb⟩ : ∃ s, s = F_X3_advance X σa D := ⟨_, rfl⟩
    obtain ⟨τb, hτb⟩ : ∃ s, s = F_X12_next X τa a := ⟨_, rfl⟩
    rw [← hσb] at S2 f2 K2 ⊢
    rw [← hτb] at M2 K2 g2 h02 p2 ⊢
    have lw := tm_lawWord (X := X) (σ := τb) (a := a)
    have c3 : y_cw 3 = 688 := rfl
    have c4 : y_cw 4 = 147182 := rfl
    have c5 : y_cw 5 = 624037 := rfl
    rw [← c3, ← c4, ← c5] at lw
    rw [q_letE (F_X3_isWord X σb D 3), q_letE (F_X12_lawWord X τb a), q_letE (F_J9_max_7cf53 X τb 0 (F_X12_lawWord X τb a))]
    -- what the reference has for the law
    have mk : ∀ v : Int, -1 ≤ v → v ≤ 2 → (F_X12_lawWord X τb a).toInt = v → ∃ τc : ST, q_let (q_si τb (q_rf X a 20) (3723 : Int32).toNatClampNeg (F_J9_max_7cf53 X τb 0 (F_X12_lawWord X τb a)) : ST) (fun σ_13 => q_let (F_X12_lawWord X σ_13 a : Int32) (fun r_14 => if r_14.toInt < 0 then q_let (F_X12_must X σ_13 a (0 : Int32) : ST) (fun σ_19 => σ_19) else q_let (F_X12_must X σ_13 a (1 : Int32) : ST) (fun σ_22 => σ_22))) = (if v < 0 then F_X12_wrong X τc a else F_X12_next X τc a) ∧ tb_M X a τc n B (m_up c 3723 (max 0 v)) w t 1 f10 ∧ tl_same a τb τc := by
      intro v v0 v1 hv
      have mx : (F_J9_max_7cf53 X τb 0 (F_X12_lawWord X τb a)).toInt = max 0 v := by
        unfold F_J9_max_7cf53
        have z0 : (0 : Int32).toInt = 0 := rfl
        rw [z0, hv]
        by_cases q : 0 < v
        · rw [if_pos q, hv]; omega
        · rw [if_neg q, z0]; omega
      obtain ⟨M3, sm3⟩ := M2.cw Y.1 ha (i := 3723) (v := F_J9_max_7cf53 X τb 0 (F_X12_lawWord X τb a)) (A := 3723) rfl (by decide)
      rw [mx] at M3
      refine ⟨_, ?_, M3, sm3⟩
      obtain ⟨τc, hτc⟩ : ∃ s, s = q_si τb (q_rf X a 20) (3723 : Int32).toNatClampNeg (F_J9_max_7cf53 X τb 0 (F_X12_lawWord X τb a)) := ⟨_, rfl⟩
      rw [← hτc] at sm3 ⊢
      rw [q_letE, q_letE, q_letE, q_letE]
      have e : (F_X12_lawWord X τc a).toInt = v := by
        rw [tm_lawWord, sm3.1 14 (by decide) (by decide), sm3.2, ← tm_lawWord (X := X)]
        exact hv
      have h03 : (τc.1 a 12).toInt = 0 := by rw [sm3.1 12 (by decide) (by decide)]; exact h02
      rw [e]
      by_cases q : v < 0
      · rw [if_pos q, if_pos q, tm_must0 h03 rfl]
      · rw [if_neg q, if_neg q, tm_must1 h03 (by decide)]
    have iw : ∀ rr : Nat, y_isw rr → (F_X3_isWord X σb D rr).toInt = if (τb.1 a 14).toInt = 1 ∧ (τb.2.1 a 19).toInt = y_cw rr then 1 else 0 := fun rr hr => tl_isWord S2.1 K2 hr
    -- the class goes on with the law v
    have go : ∀ (v : Int32) (vv : Int), v.toInt = vv → 0 ≤ vv → vv ≤ 2 → (F_X12_lawWord X τb a).toInt = vv →
        ∃ (z : Int32) (σ' : ST), q_let (q_si σb (q_rf X (q_rf X D 8) 0) 2 v : ST) (fun σ_18 => q_let (F_X3_advance X σ_18 D : ST) (fun σ_20 => q_bi (F_X3_passSemicolon X σ_20 D) (fun r_21 σ_22 => (r_21, σ_22)))) = (z, σ') ∧ ∃ τ' : ST, q_let (q_si τb (q_rf X a 20) (3723 : Int32).toNatClampNeg (F_J9_max_7cf53 X τb 0 (F_X12_lawWord X τb a)) : ST) (fun σ_13 => q_let (F_X12_lawWord X σ_13 a : Int32) (fun r_14 => if r_14.toInt < 0 then q_let (F_X12_must X σ_13 a (0 : Int32) : ST) (fun σ_19 => σ_19) else q_let (F_X12_must X σ_13 a (1 : Int32) : ST) (fun σ_22 => σ_22))) = τ' ∧ tb_O X lb D T g a n B σ τ σ' (F_X12_must X τ' a (F_X12_isSign X τ' a 59)) z := by
      intro v vv hv v0 v1 hl
      obtain ⟨τc, e1, M3, sm3⟩ := mk vv (by omega) v1 hl
      have em : max 0 vv = vv := by omega
      rw [em] at M3
      rw [if_neg (by omega)] at e1
      have W := (y_W.rf (X := X) (lb := lb) (g := g) (o := 6) (σ := σb)).si Y H.2.2.1 (id := 1) (by decide) 2 v
      rw [S2.2.1, hv] at W
      have hg : q_si σb (y_gA X g 1) 2 v = q_si σb (q_rf X (q_rf X D 8) 0) 2 v := by rw [H.2.1]; rfl
      rw [hg] at W
      obtain ⟨S3, f3⟩ := S2.gm Y H W
      have K3 := K2.same (tl_sameC.W W (by have := H.2.2.2.1; omega)) sm3
      have h03 : (τc.1 a 12).toInt = 0 := by rw [sm3.1 12 (by decide) (by decide)]; exact h02
      obtain ⟨c4, m4, K4, g4⟩ := tl_adv2 S3.1 M3.1 K3
      obtain ⟨S4, f4⟩ := S3.rd Y H c4.S2
      have M4 := M3.rd Y.1 ha m4.S2
      have h04 : ((F_X12_next X τc a).1 a 12).toInt = 0 := by rw [tn_12 m4]; exact h03
      have R4 : tb_R (y_up V 1 2 vv) r (m_up c 3723 vv) w t := Rr.law ⟨v0, v1⟩
      have pP : tb_P X a τ (F_X12_next X τc a) := p2.tr ((tb_P.mk M2 M3 (fun j a b => m_up_ne (by omega)) (fun _ _ _ => rfl)).tr (tb_P.rd Y.1 ha m4.S2))
      have k3b := K3.b
      have k4b := K4.b
      have s15 : τc.1 a 15 = τb.1 a 15 := sm3.1 15 (by decide) (by decide)
      obtain ⟨z, σ2, e2, o⟩ := tb_semi Y H ha (σ := σ) (τ := τ) ⟨S4, M4, K4, h04, R4⟩ (((f1.tr f2).tr f3).tr f4) pP (by rw [e16] at g2; rw [s15] at k3b; omega) (by rw [e16] at g2; rw [s15] at k3b; omega)
      refine ⟨z, σ2, ?_, _, e1, o⟩
      rw [q_letE, q_letE, q_biE, e2]
    rw [iw 3 ⟨by decide, by decide⟩]
    by_cases w3 : (τb.1 a 14).toInt = 1 ∧ (τb.2.1 a 19).toInt = y_cw 3
    · rw [if_pos w3, if_neg (by decide)]
      have l3 : (F_X12_lawWord X τb a).toInt = 0 := by rw [lw, if_pos w3]
      obtain ⟨z, σ', e1, τ', e2, o⟩ := go 0 0 rfl (by decide) (by decide) l3
      rw [e2]
      exact ⟨z, σ', e1, o⟩
    · rw [if_neg w3, if_pos rfl, q_letE (F_X3_isWord X σb D 4), iw 4 ⟨by decide, by decide⟩]
      by_cases w4 : (τb.1 a 14).toInt = 1 ∧ (τb.2.1 a 19).toInt = y_cw 4
      · rw [if_pos w4, if_neg (by decide)]
        have l3 : (F_X12_lawWord X τb a).toInt = 1 := by rw [lw, if_neg w3, if_pos w4]
        obtain ⟨z, σ', e1, τ', e2, o⟩ := go 1 1 rfl (by decide) (by decide) l3
        rw [e2]
        exact ⟨z, σ', e1, o⟩
      · rw [if_neg w4, if_pos rfl, q_letE (F_X3_isWord X σb D 5), iw 5 ⟨by decide, by decide⟩]
        by_cases w5 : (τb.1 a 14).toInt = 1 ∧ (τb.2.1 a 19).toInt = y_cw 5
        · rw [if_pos w5, if_neg (by decide)]
          have l3 : (F_X12_lawWord X τb a).toInt = 2 := by rw [lw, if_neg w3, if_neg w4, if_pos w5]
          obtain ⟨z, σ', e1, τ', e2, o⟩ := go 2 2 rfl (by decide) (by decide) l3
          rw [e2]
          exact ⟨z, σ', e1, o⟩
        · rw [if_neg w5, if_pos rfl]
          have l3 : (F_X12_lawWord X τb a).toInt = -1 := by rw [lw, if_neg w3, if_neg w4, if_neg w5]
          obtain ⟨τc, e1, M3, sm3⟩ := mk (-1) (by decide) (by decide) l3
          rw [if_pos (by decide)] at e1
          have K3 := K2.same tl_sameC.rf sm3
          have h03 : (τc.1 a 12).toInt = 0 := by rw [sm3.1 12 (by decide) (by decide)]; exact h02
          obtain ⟨σ', a1, a2, a3, a4⟩ := tl_wrong (X := X) K3 h03
          rw [e1, q_biE, a1]
          exact ⟨0, σ', rfl, tb_O.bad ((f1.tr f2).tr (S2.rd Y H a2).2) (p2.tr ((tb_P.mk M2 M3 (fun j a b => m_up_ne (by omega)) (fun _ _ _ => rfl)).tr (tb_P.rd Y.1 ha a3))) rfl a4 _⟩
  · rw [if_neg q9, if_neg q9, q_letE, q_letE, q_letE]
    obtain ⟨σ', a1, a2, a3, a4⟩ := tl_fail (X := X) K h0 (by omega) (k := 5) (by decide) (w := τ.1 a 15) rfl
    rw [if_pos a4.2.1, q_biE, a1]
    exact ⟨0, σ', rfl, tb_O.bad (S.rd Y H a2).2 (tb_P.rd Y.1 ha a3) rfl a4 _⟩
theorem tb_readMost (Y : y_S X lb) (H : tb_D X lb D T g) (ha : q_kd X a = 12) (I : tb_I X D T g a n B σ τ V r c w t f9 f10) (h1 : (τ.1 a 14).toInt = 1) :
    ∃ (z : Int32) (σ' : ST), F_X9_readMost X σ D = (z, σ') ∧ tb_O X lb D T g a n B σ τ σ' (F_X12_must X (F_X12_readMost X τ a) a (F_X12_isSign X (F_X12_readMost X τ a) a 59)) z := by
  obtain ⟨S, M, K, h0, Rr⟩ := I
  have kb := K.b
  unfold F_X9_readMost F_X12_readMost
  rw [q_letE (σ.1 D 10), q_letE (τ.1 a 26), S.2.2.2.2, M.2.2.2.2.2.1]
  by_cases q9 : f10 = 0
  · rw [if_pos q9, if_pos q9, q_letE (τ.1 a 12), h0, if_neg (by decide : ¬ (0 : Int) < 0), q_letE (q_si σ D 10 1), q_letE (q_si τ a 26 1)]
    obtain ⟨S1, f1⟩ := S.s10 Y H 1
    obtain ⟨M1, sm1⟩ := M.s10 Y.1 ha 1
    have K1 := K.same (tl_sameC.s10 1) sm1
    have h01 : ((q_si τ a 26 1).1 a 12).toInt = 0 := by rw [sm1.1 12 (by decide) (by decide)]; exact h0
    have p1 : tb_P X a τ (q_si τ a 26 1) := tb_P.mk M M1 (fun _ _ _ => rfl) (fun _ _ _ => rfl)
    have e16 : (q_si τ a 26 1).1 a 16 = τ.1 a 16 := sm1.1 16 (by decide) (by decide)
    obtain ⟨σa, hσa⟩ : ∃ s, s = q_si σ D 10 1 := ⟨_, rfl⟩
    obtain ⟨τa, hτa⟩ : ∃ s, s = q_si τ a 26 1 := ⟨_, rfl⟩
    rw [← hσa] at S1 f1 K1 ⊢
    rw [← hτa] at M1 K1 h01 p1 e16 ⊢
    rw [q_letE (F_X3_advance X σa D), q_letE (F_X12_next X τa a)]
    obtain ⟨c1, m1, K2, g2⟩ := tl_adv2 S1.1 M1.1 K1
    obtain ⟨S2, f2⟩ := S1.rd Y H c1.S2
    have M2 := M1.rd Y.1 ha m1.S2
    have p2 := p1.tr (tb_P.rd Y.1 ha m1.S2)
    have h02 : ((F_X12_next X τa a).1 a 12).toInt = 0 := by rw [tn_12 m1]; exact h01
    obtain ⟨σb, hσb⟩ : ∃ s, s = F_X3_advance X σa D := ⟨_, rfl⟩
    obtain ⟨τb, hτb⟩ : ∃ s, s = F_X12_next X τa a := ⟨_, rfl⟩
    rw [← hσb] at S2 f2 K2 ⊢
    rw [← hτb] at M2 K2 g2 h02 p2 ⊢
    obtain ⟨z, y, σc, τc, e1, e2, ⟨o1, o2, o3⟩, v1, v2⟩ := tl_passNum S2.1 M2.1 K2 h02 1 4 (by decide)
    obtain ⟨S3, f3⟩ := S2.rd Y H o1
    have M3 := M2.rd Y.1 ha o2
    have p3 := p2.tr (tb_P.rd Y.1 ha o2)
    rw [e1, e2, q_biP, q_biP, q_letE (q_si τc (q_rf X a 20) (3724 : Int32).toNatClampNeg y)]
    obtain ⟨M4, sm4⟩ := M3.cw Y.1 ha (i := 3724) (v := y) (A := 3724) rfl (by decide)
    have p4 : tb_P X a τ (q_si τc (q_rf X a 20) (3724 : Int32).toNatClampNeg y) := p3.tr (tb_P.mk M3 M4 (fun j a b => m_up_ne (by omega)) (fun _ _ _ => rfl))
    obtain ⟨τd, hτd⟩ : ∃ s, s = q_si τc (q_rf X a 20) (3724 : Int32).toNatClampNeg y := ⟨_, rfl⟩
    show ∃ (z' : Int32) (σ' : ST), (if z.toInt = -1 then ((0 : Int32), σc) else q_let (q_si σc (q_rf X (q_rf X D 8) 0) 3 z : ST) (fun σ_11 => q_bi (F_X3_passSemicolon X σ_11 D) (fun r_12 σ_13 => (r_12, σ_13)))) = (z', σ') ∧ tb_O X lb D T g a n B σ τ σ' (F_X12_must X (q_si τc (q_rf X a 20) (3724 : Int32).toNatClampNeg y) a (F_X12_isSign X (q_si τc (q_rf X a 20) (3724 : Int32).toNatClampNeg y) a 59)) z'
    rw [← hτd] at M4 sm4 p4 ⊢
    rcases o3 with ⟨q1, q2, q3, q4⟩ | ⟨q1, q2⟩
    · rw [if_neg q1, q_letE, q_biE]
      obtain ⟨w1, w2, w3⟩ := v1 q1
      have W := (y_W.rf (X := X) (lb := lb) (g := g) (o := 6) (σ := σc)).si Y H.2.2.1 (id := 1) (by decide) 3 z
      rw [S3.2.1] at W
      have hg : q_si σc (y_gA X g 1) 3 z = q_si σc (q_rf X (q_rf X D 8) 0) 3 z := by rw [H.2.1]; rfl
      rw [hg] at W
      obtain ⟨S4, f4⟩ := S3.gm Y H W
      have K4 := q2.same (tl_sameC.W W (by have := H.2.2.2.1; omega)) sm4
      have h04 : (τd.1 a 12).toInt = 0 := by rw [sm4.1 12 (by decide) (by decide)]; exact q3
      have e1_ : (1 : Int32).toInt = 1 := rfl
      have e4_ : (4 : Int32).toInt = 4 := rfl
      rw [e1_] at w2
      rw [e4_] at w3
      have R4 : tb_R (y_up V 1 ((3 : Nat) : Int) z.toInt) r (m_up c 3724 y.toInt) w t := by
        rw [w1]
        exact Rr.most ⟨w2, w3⟩
      have k2b := K2.b
      have k4b := K4.b
      have s15 : τd.1 a 15 = τc.1 a 15 := sm4.1 15 (by decide) (by decide)
      obtain ⟨z', σ2, e3, o⟩ := tb_semi Y H ha (σ := σ) (τ := τ) ⟨S4, M4, K4, h04, R4⟩ (((f1.tr f2).tr f3).tr f4) p4 (by rw [e16] at g2; rw [s15]; omega) (by rw [e16] at g2; rw [s15] at k4b; omega)
      rw [e3]
      exact ⟨z', σ2, rfl, o⟩
    · have qz : z.toInt = -1 := Classical.not_not.mp q1
      rw [if_pos qz]
      have F4 : tl_F σc D τd a := by
        obtain ⟨t1, t2, t3⟩ := q2
        refine ⟨?_, ?_, ?_⟩
        · rw [sm4.1 12 (by decide) (by decide)]; exact t1
        · rw [sm4.1 12 (by decide) (by decide)]; exact t2
        · rw [sm4.1 13 (by decide) (by decide)]; exact t3
      exact ⟨0, σc, rfl, tb_O.bad ((f1.tr f2).tr f3) p4 rfl F4 _⟩
  · rw [if_neg q9, if_neg q9, q_letE, q_letE, q_letE]
    obtain ⟨σ', a1, a2, a3, a4⟩ := tl_fail (X := X) K h0 (by omega) (k := 5) (by decide) (w := τ.1 a 15) rfl
    rw [if_pos a4.2.1, q_biE, a1]
    exact ⟨0, σ', rfl, tb_O.bad (S.rd Y H a2).2 (tb_P.rd Y.1 ha a3) rfl a4 _⟩
end TP
end
/-! FROM 48m.player.lean.txt -/
section
/-! A PLAYER TOLD -/
/-- letters f put from place b on, s of them -/
def y_ad (V : Nat → Int → Int) (id : Nat) (b s : Int) (f : Int → Int) : Nat → Int → Int := fun id' i => if id' = id ∧ b ≤ i ∧ i < b + s then f (i - b) else V id' i
theorem y_ad0 {V : Nat → Int → Int} {id : Nat} {b : Int} {f : Int → Int} : y_ad V id b 0 f = V := by
  funext j i
  show (if j = id ∧ b ≤ i ∧ i < b + 0 then f (i - b) else V j i) = V j i
  rw [if_neg (by omega)]
theorem y_ad_s {V : Nat → Int → Int} {id : Nat} {b s v : Int} {f : Int → Int} (h : 0 ≤ s) (hv : v = f s) : y_up (y_ad V id b s f) id (b + s) v = y_ad V id b (s + 1) f := by
  subst hv
  funext j i
  show (if j = id ∧ i = b + s then f s else if j = id ∧ b ≤ i ∧ i < b + s then f (i - b) else V j i) = if j = id ∧ b ≤ i ∧ i < b + (s + 1) then f (i - b) else V j i
  by_cases q : j = id ∧ i = b + s
  · obtain ⟨rfl, rfl⟩ := q
    rw [if_pos ⟨rfl, rfl⟩, if_pos ⟨rfl, by omega, by omega⟩]
    congr 1
    omega
  · rw [if_neg q]
    by_cases q2 : j = id ∧ b ≤ i ∧ i < b + s
    · rw [if_pos q2, if_pos ⟨q2.1, q2.2.1, by omega⟩]
    · rw [if_neg q2, if_neg]
      rintro ⟨e1, e2, e3⟩
      exact q2 ⟨e1, e2, by have : i ≠ b + s := fun e => q ⟨e1, e⟩; omega⟩
theorem y_ad_ne {V : Nat → Int → Int} {id id' : Nat} {b s i : Int} {f : Int → Int} (h : id' ≠ id) : y_ad V id b s f id' i = V id' i := by
  refine if_neg ?_
  rintro ⟨h1, _⟩
  exact h h1
theorem y_up_id (V : Nat → Int → Int) (id : Nat) (i : Int) : y_up V id i (V id i) = V := by
  funext j k
  show (if j = id ∧ k = i then V id i else V j k) = V j k
  by_cases q : j = id ∧ k = i
  · rw [if_pos q, q.1, q.2]
  · rw [if_neg q]
theorem m_up_id (c : Int → Int) (A : Int) : m_up c A (c A) = c := by
  funext j
  show (if j = A then c A else c j) = c j
  by_cases q : j = A
  · rw [if_pos q, q]
  · rw [if_neg q]
section TQ
variable {X : XW} {lb : Nat → Nat} {D T g a : Nat} {σ τ σ' τ' σ1 τ1 : ST} {n : Int} {B : Int → Int} {V : Nat → Int → Int} {r c w t : Int → Int} {f9 f10 : Int}
theorem tc_E.W {o : Nat} {V' : Nat → Int → Int} (E : tc_E X σ D T n B) (h : y_W X lb g o σ σ' V') (hD : lb D / 8192 ≠ o) (hT : lb T / 8192 ≠ o) : tc_E X σ' D T n B := by
  obtain ⟨e1, e2, e3, e4, e5, e6⟩ := E
  exact ⟨by rw [h.2.1]; exact e1, by rw [h.1 D hD]; exact e2, e3, e4, e5, fun p p0 p1 => by rw [h.1 T hT]; exact e6 p p0 p1⟩
theorem tc_addL (Y : y_S X lb) (H : tb_D X lb D T g) (E : tc_E X σ D T n B) {b e : Int} (hb : (σ.1 D 2).toInt = b) (he : (σ.1 D 3).toInt = e) (h0 : 0 ≤ b) (hbe : b ≤ e) (hen : e ≤ n) (h8 : e - b ≤ 8) {P : Int} (hP : 0 ≤ P ∧ P < 6) (k : Nat) : ∀ (x : Int32) (ρ : ST), (2147483647 - x.toInt).toNat < k → 0 ≤ x.toInt → x.toInt ≤ e - b → y_W X lb g 6 σ ρ (y_ad V 5 (8 * P) x.toInt (fun j => B (b + j))) → V 1 4 = P →
    ∃ ρ' : ST, F_X6_addPlayer_L21_1 X D (q_rf X g 0) k x ρ = F_X6_addPlayer_E56_2 X ρ' (q_rf X g 0) D ∧ y_W X lb g 6 σ ρ' (y_ad V 5 (8 * P) (e - b) (fun j => B (b + j))) := by
  have E3 := E.2.2.1
  have hD : lb D / 8192 ≠ 6 := by have := H.2.2.2.1; omega
  have hT : lb T / 8192 ≠ 6 := by have := H.2.2.2.2.1; omega
  induction k with
  | zero => intro x ρ hm; exact absurd hm (Nat.not_lt_zero _)
  | succ k ih =>
    intro x ρ hm x0 x1 W hV
    have Eρ := E.W W hD hT
    have b2 : (ρ.1 D 2).toInt = b := by rw [W.1 D hD]; exact hb
    have b3 : (ρ.1 D 3).toInt = e := by rw [W.1 D hD]; exact he
    have sz : (F_X3_size X ρ D).toInt = e - b := by
      simp only [F_X3_size, ↓q_letE]
      rw [ar_sub, b3, b2, ar_wr (by omega) (by omega)]
    have p4 : (ρ.1 (q_rf X g 0) 4).toInt = P := by
      have z := y_v_rdn (X := X) (g := g) (σ := ρ) (id := 1) (by decide) 4
      rw [W.2.2, y_ad_ne (by decide)] at z
      exact z.trans hV
    rw [F_X6_addPlayer_L21_1_s]
    simp only [F_X6_addPlayer_B21_1, ↓q_letE]
    rw [sz]
    by_cases q : x.toInt < e - b
    · rw [if_pos q]
      have e8 : (8 : Int32).toInt = 8 := rfl
      have ei : (ρ.1 (q_rf X g 0) 4 * 8 + x).toInt = 8 * P + x.toInt := by rw [ar_add, ar_mul, p4, e8, ar_wr (n := P * 8) (by omega) (by omega), ar_wr (by omega) (by omega)]; omega
      have sg := tc_sig Eρ b2 ⟨h0, by omega⟩ (v := x) rfl ⟨x0, by omega⟩
      rw [tx_D_in (by omega) (by omega)] at sg
      have gn : ((y_gn 5 : Nat) : Int) = 48 := rfl
      have W2 := W.set Y H.2.2.1 (id := 5) (r := q_rf X (q_rf X g 0) 6) ⟨by decide, by decide⟩ rfl (ρ.1 (q_rf X g 0) 4 * 8 + x) (F_X3_signAt X ρ D x) (by rw [ei]; omega) (by rw [ei, gn]; omega)
      rw [ei, sg] at W2
      have e1 : (x + 1).toInt = x.toInt + 1 := y_inc (by omega)
      have zz := ih (x + 1) _ (by omega) (by omega) (by omega) (by rw [e1]; exact W2.eq (y_ad_s x0 rfl)) hV
      exact zz
    · rw [if_neg q]
      have ex : x.toInt = e - b := by omega
      rw [ex] at W
      exact ⟨ρ, rfl, W⟩
theorem tc_addPlayer (Y : y_S X lb) (H : tb_D X lb D T g) (E : tc_E X σ D T n B) {b e : Int} (hb : (σ.1 D 2).toInt = b) (he : (σ.1 D 3).toInt = e) (h0 : 0 ≤ b) (hbe : b ≤ e) (hen : e ≤ n) (h8 : e - b ≤ 8) {P : Int} (hP : 0 ≤ P ∧ P < 6) (hv : y_v X g σ = V) (hV : V 1 4 = P) : y_W X lb g 6 σ (F_X6_addPlayer X σ (q_rf X g 0) D) (y_up (y_up (y_ad V 5 (8 * P) (e - b) (fun j => B (b + j))) 6 P (e - b)) 1 4 (P + 1)) := by
  have E3 := E.2.2.1
  have hD : lb D / 8192 ≠ 6 := by have := H.2.2.2.1; omega
  have hT : lb T / 8192 ≠ 6 := by have := H.2.2.2.2.1; omega
  have sz : (F_X3_size X σ D).toInt = e - b := by
    simp only [F_X3_size, ↓q_letE]
    rw [ar_sub, he, hb, ar_wr (by omega) (by omega)]
  have p4 : (σ.1 (q_rf X g 0) 4).toInt = P := by
    have z := y_v_rdn (X := X) (g := g) (σ := σ) (id := 1) (by decide) 4
    rw [hv] at z
    exact z.trans hV
  have W0 : y_W X lb g 6 σ σ (y_ad V 5 (8 * P) (0 : Int32).toInt (fun j => B (b + j))) := by
    have z0 : (0 : Int32).toInt = 0 := rfl
    rw [z0, y_ad0]
    exact y_W.rf.eq hv
  obtain ⟨ρ', a1, a2⟩ := tc_addL Y H E hb he h0 hbe hen h8 hP ((2147483647 - (0 : Int32).toInt).toNat + 1) 0 σ (by decide) (by decide) (by show (0 : Int) ≤ _; omega) W0 hV
  unfold F_X6_addPlayer
  rw [q_letE, p4, if_pos (by omega), q_letE, sz, if_neg (by omega), a1]
  have b2 : (ρ'.1 D 2).toInt = b := by rw [a2.1 D hD]; exact hb
  have b3 : (ρ'.1 D 3).toInt = e := by rw [a2.1 D hD]; exact he
  have sz2 : (F_X3_size X ρ' D).toInt = e - b := by
    simp only [F_X3_size, ↓q_letE]
    rw [ar_sub, b3, b2, ar_wr (by omega) (by omega)]
  have p5 : (ρ'.1 (q_rf X g 0) 4).toInt = P := by
    have z := y_v_rdn (X := X) (g := g) (σ := ρ') (id := 1) (by decide) 4
    rw [a2.2.2, y_ad_ne (by decide)] at z
    exact z.trans hV
  unfold F_X6_addPlayer_E56_2
  rw [q_letE, q_letE, q_letE, q_letE, q_letE, q_letE]
  have gn : ((y_gn 6 : Nat) : Int) = 6 := rfl
  have W3 := a2.set Y H.2.2.1 (id := 6) (r := q_rf X (q_rf X g 0) 7) ⟨by decide, by decide⟩ rfl (ρ'.1 (q_rf X g 0) 4) (F_X3_size X ρ' D) (by rw [p5]; omega) (by rw [p5, gn]; omega)
  rw [p5, sz2] at W3
  obtain ⟨ρ2, hρ2⟩ : ∃ s, s = F_X5_set X ρ' (q_rf X (q_rf X g 0) 7) (ρ'.1 (q_rf X g 0) 4) (F_X3_size X ρ' D) := ⟨_, rfl⟩
  rw [← hρ2] at W3 ⊢
  have p6 : (ρ2.1 (q_rf X g 0) 4).toInt = P := by
    have z := y_v_rdn (X := X) (g := g) (σ := ρ2) (id := 1) (by decide) 4
    rw [W3.2.2, y_up_ne (Or.inl (by decide)), y_ad_ne (by decide)] at z
    exact z.trans hV
  have W4 := W3.si Y H.2.2.1 (id := 1) (by decide) 4 (ρ2.1 (q_rf X g 0) 4 + 1)
  rw [y_inc (by omega), p6] at W4
  exact W4
/-- lies and doubts, if they are told -/
theorem tb_six (Y : y_S X lb) (H : tb_D X lb D T g) (ha : q_kd X a = 12) (S : tb_S X D T g σ n B V r f9 f10) (M : tb_M X a τ n B c w t f9 f10) (K : tl_K σ D τ a B n) (h0 : (τ.1 a 12).toInt = 0) {rr : Nat} (hrr : y_isw rr) {flag : Int32} (hfl : flag.toInt = if (τ.1 a 14).toInt = 1 ∧ (τ.2.1 a 19).toInt = y_cw rr then 1 else 0) {id row : Nat} (hid : id = 10 ∨ id = 11) (hrow : q_rf X row 0 = y_gA X g id) {pl : Int32} {P : Int} (hpl : pl.toInt = P) (hP : 0 ≤ P ∧ P < 6) {Ab : Int32} {A : Int} (hA : Ab.toInt = A) (hA2 : 3730 ≤ A ∧ A ≤ 3736) (hVc : V id P = c (A + P)) :
    ∃ (z : Int32) (σ' τ' : ST) (v u : Int), F_X9_readSixteenths X σ D rr row pl = (z, σ') ∧
      (∀ Kc : ST → ST, (if flag.toInt = 0 then Kc τ else q_let (F_X12_next X τ a : ST) (fun s1 => q_let (Ab + pl : Int32) (fun z1 => q_bi (F_X12_count X s1 a (0 : Int32) (16 : Int32)) (fun r1 s2 => q_let (q_si s2 (q_rf X a 20) z1.toNatClampNeg r1 : ST) (fun s3 => Kc s3))))) = Kc τ') ∧
      (z.toInt = 0 ∨ z.toInt = 1) ∧ tb_F X lb D σ σ' ∧ tb_S X D T g σ' n B (y_up V id P u) r f9 f10 ∧ tb_M X a τ' n B (m_up c (A + P) v) w t f9 f10 ∧
      ((z.toInt = 1 ∧ u = v ∧ tl_K σ' D τ' a B n ∧ (τ'.1 a 12).toInt = 0 ∧ (τ.1 a 15).toInt ≤ (τ'.1 a 15).toInt) ∨ (z.toInt = 0 ∧ tl_F σ' D τ' a)) := by
  have hDn : lb D / 8192 ≠ 6 := by have := H.2.2.2.1; omega
  unfold F_X9_readSixteenths
  rw [q_letE, tl_isWord S.1 K hrr, hfl]
  by_cases q : (τ.1 a 14).toInt = 1 ∧ (τ.2.1 a 19).toInt = y_cw rr
  · rw [if_pos q, if_neg (by decide), q_letE, q_biE]
    obtain ⟨c1, m1, K2, g2⟩ := tl_adv2 S.1 M.1 K
    obtain ⟨S2, f2⟩ := S.rd Y H c1.S2
    have M2 := M.rd Y.1 ha m1.S2
    have h02 : ((F_X12_next X τ a).1 a 12).toInt = 0 := by rw [tn_12 m1]; exact h0
    have kb := K.b
    obtain ⟨σb, hσb⟩ : ∃ s, s = F_X3_advance X σ D := ⟨_, rfl⟩
    obtain ⟨τb, hτb⟩ : ∃ s, s = F_X12_next X τ a := ⟨_, rfl⟩
    rw [← hσb] at S2 f2 K2 ⊢
    rw [← hτb] at M2 K2 g2 h02 ⊢
    obtain ⟨z, y, σc, τc, e1, e2, ⟨o1, o2, o3⟩, v1, v2⟩ := tl_passNum S2.1 M2.1 K2 h02 0 16 (by decide)
    obtain ⟨S3, f3⟩ := S2.rd Y H o1
    have M3 := M2.rd Y.1 ha o2
    have gn : ((y_gn id : Nat) : Int) = 6 := by rcases hid with h | h <;> rw [h] <;> rfl
    have W := (y_W.rf (X := X) (lb := lb) (g := g) (o := 6) (σ := σc)).set Y H.2.2.1 (id := id) (r := row) ⟨by omega, by omega⟩ hrow pl z (by omega) (by rw [gn]; omega)
    rw [S3.2.1, hpl] at W
    obtain ⟨S4, f4⟩ := S3.gm Y H W
    have ei : (Ab + pl).toInt = A + P := by rw [ar_add, hA, hpl, ar_wr (by omega) (by omega)]
    obtain ⟨M4, sm4⟩ := M3.cw Y.1 ha (i := Ab + pl) (v := y) ei (by omega)
    have e0_ : (0 : Int32).toInt = 0 := rfl
    have e16_ : (16 : Int32).toInt = 16 := rfl
    have sC : tl_sameC D σc (F_X5_set X σc row pl z) := tl_sameC.W W hDn
    rw [e1]
    refine ⟨(if z.toInt = -1 then 0 else 1), F_X5_set X σc row pl z, q_si τc (q_rf X a 20) (Ab + pl).toNatClampNeg y, y.toInt, z.toInt, ?_, fun Kc => ?_, ?_, (f2.tr f3).tr f4, S4, M4, ?_⟩
    · rw [q_letE]
      show (if z.toInt = -1 then ((0 : Int32), F_X5_set X σc row pl z) else ((1 : Int32), F_X5_set X σc row pl z)) = _
      split <;> rfl
    · rw [if_neg (by decide), q_letE, q_letE, e2, q_biP, q_letE]
    · split
      · exact Or.inl rfl
      · exact Or.inr rfl
    · rcases o3 with ⟨q1, q2, q3, q4⟩ | ⟨q1, q2⟩
      · rw [if_neg q1]
        refine Or.inl ⟨rfl, (v1 q1).1, q2.same sC sm4, ?_, ?_⟩
        · rw [sm4.1 12 (by decide) (by decide)]; exact q3
        · rw [sm4.1 15 (by decide) (by decide)]; have := K2.b; omega
      · have qz : z.toInt = -1 := Classical.not_not.mp q1
        rw [if_pos qz]
        obtain ⟨t1, t2, t3⟩ := q2
        refine Or.inr ⟨rfl, ?_, ?_, ?_⟩
        · rw [sm4.1 12 (by decide) (by decide), sC 6 (by decide) (by decide)]; exact t1
        · rw [sm4.1 12 (by decide) (by decide)]; exact t2
        · rw [sm4.1 13 (by decide) (by decide), sC 7 (by decide) (by decide)]; exact t3
  · rw [if_neg q, if_pos rfl]
    refine ⟨1, σ, τ, c (A + P), V id P, rfl, fun Kc => by rw [if_pos rfl], Or.inr rfl, tb_F.rf, by rw [y_up_id]; exact S, by rw [m_up_id]; exact M, Or.inl ⟨rfl, hVc, K, h0, Int.le_refl _⟩⟩
/-- a new player stands in the relation -/
theorem tb_R.player {b e P v1 v2 : Int} (h : tb_R V r c w t) (hP : c 3722 = P) (hP6 : 0 ≤ P ∧ P < 6) (hbe : b < e) (h8 : e - b ≤ 8) (hl : ∀ j, b ≤ j → j < e → tx_le (B j)) :
    tb_R (y_up (y_up (y_up (y_up (y_ad V 5 (8 * P) (e - b) (fun j => B (b + j))) 6 P (e - b)) 1 4 (P + 1)) 10 P v1) 11 P v2) r (m_up (m_up (m_up c (3730 + P) v1) (3736 + P) v2) 3722 (P + 1)) (m_up w (24 + P) (tx_wv B b (e - b).toNat)) t := by
  obtain ⟨⟨⟨n1, n2, n3, n4, n5⟩, n6, n7, n8, n9⟩, z, nm, hh, mn, k1, k2, k3⟩ := h
  have rd : ∀ (id : Nat) (i : Int), id ≠ 5 → (id = 6 → i ≠ P) → (id = 1 → i ≠ 4) → (id = 10 → i ≠ P) → (id = 11 → i ≠ P) → y_up (y_up (y_up (y_up (y_ad V 5 (8 * P) (e - b) (fun j => B (b + j))) 6 P (e - b)) 1 4 (P + 1)) 10 P v1) 11 P v2 id i = V id i := by
    intro id i h5 h6 h1 h10 h11
    rw [y_up_ne (by by_cases q : id = 11; exact Or.inr (h11 q); exact Or.inl q), y_up_ne (by by_cases q : id = 10; exact Or.inr (h10 q); exact Or.inl q), y_up_ne (by by_cases q : id = 1; exact Or.inr (h1 q); exact Or.inl q), y_up_ne (by by_cases q : id = 6; exact Or.inr (h6 q); exact Or.inl q), y_ad_ne h5]
  have rc : ∀ j : Int, j ≠ 3722 → j ≠ 3736 + P → j ≠ 3730 + P → m_up (m_up (m_up c (3730 + P) v1) (3736 + P) v2) 3722 (P + 1) j = c j := fun j a1 a2 a3 => by rw [m_up_ne a1, m_up_ne a2, m_up_ne a3]
  refine ⟨⟨⟨?_, ?_, ?_, ?_, ?_⟩, ?_, ?_, ?_, ?_⟩, ?_, ?_, ?_, ?_, ?_, ?_, ?_⟩
  · rw [rd 1 0 (by omega) (by omega) (by omega) (by omega) (by omega), rc _ (by decide) (by omega) (by omega)]; exact n1
  · rw [rd 1 1 (by omega) (by omega) (by omega) (by omega) (by omega), rc _ (by decide) (by omega) (by omega)]; exact n2
  · rw [rd 1 2 (by omega) (by omega) (by omega) (by omega) (by omega), rc _ (by decide) (by omega) (by omega)]; exact n3
  · rw [rd 1 3 (by omega) (by omega) (by omega) (by omega) (by omega), rc _ (by decide) (by omega) (by omega)]; exact n4
  · rw [y_up_ne (Or.inl (by decide)), y_up_ne (Or.inl (by decide)), y_up_eq, m_up_eq]
  · intro k a1 a2
    rw [rd 4 k (by omega) (by omega) (by omega) (by omega) (by omega), m_sum_up a1 (by decide), m_sum_up a1 (by omega), m_sum_up a1 (by omega)]
    exact n6 k a1 a2
  · intro j a1 a2
    rw [rd 7 j (by omega) (by omega) (by omega) (by omega) (by omega), rc _ (by omega) (by omega) (by omega)]
    exact n7 j a1 a2
  · intro p a1 a2
    rw [rd 9 p (by omega) (by omega) (by omega) (by omega) (by omega), m_S_up (by omega), m_S_up (by omega), m_S_up (by omega)]
    exact n8 p a1 a2
  · intro p a1 a2
    by_cases q : p = P
    · subst q
      rw [y_up_ne (Or.inl (by decide)), y_up_eq, y_up_eq, m_up_ne (by omega), m_up_ne (by omega), m_up_eq, m_up_ne (by omega), m_up_eq]
      exact ⟨rfl, rfl⟩
    · rw [rd 10 p (by omega) (by omega) (by omega) (fun _ => q) (by omega), rd 11 p (by omega) (by omega) (by omega) (by omega) (fun _ => q), rc _ (by omega) (by omega) (by omega), rc _ (by omega) (by omega) (by omega)]
      exact n9 p a1 a2
  · have ad : tb_Z (y_ad V 5 (8 * P) (e - b) (fun j => B (b + j))) := by
      obtain ⟨z1, z2, z3⟩ := z
      refine ⟨fun j a b => by rw [y_ad_ne (by decide)]; exact z1 j a b, fun j a b => by rw [y_ad_ne (by decide), y_ad_ne (by decide)]; exact z2 j a b, ?_⟩
      rw [y_ad_ne (by decide), y_ad_ne (by decide), y_ad_ne (by decide), y_ad_ne (by decide), y_ad_ne (by decide), y_ad_ne (by decide), y_ad_ne (by decide), y_ad_ne (by decide), y_ad_ne (by decide)]
      exact z3
    exact (((ad.up (by omega)).up (by omega)).up (by omega)).up (by omega)
  · rw [m_up_eq]
    intro p p0 p1
    have r5 : ∀ i : Int, y_up (y_up (y_up (y_up (y_ad V 5 (8 * P) (e - b) (fun j => B (b + j))) 6 P (e - b)) 1 4 (P + 1)) 10 P v1) 11 P v2 5 i = y_ad V 5 (8 * P) (e - b) (fun j => B (b + j)) 5 i := fun i => by rw [y_up_ne (Or.inl (by decide)), y_up_ne (Or.inl (by decide)), y_up_ne (Or.inl (by decide)), y_up_ne (Or.inl (by decide))]
    by_cases q : p = P
    · subst q
      have e6 : y_up (y_up (y_up (y_up (y_ad V 5 (8 * p) (e - b) (fun j => B (b + j))) 6 p (e - b)) 1 4 (p + 1)) 10 p v1) 11 p v2 6 p = e - b := by rw [y_up_ne (Or.inl (by decide)), y_up_ne (Or.inl (by decide)), y_up_ne (Or.inl (by decide)), y_up_eq]
      have e5 : ∀ i : Int, 0 ≤ i → i < e - b → y_up (y_up (y_up (y_up (y_ad V 5 (8 * p) (e - b) (fun j => B (b + j))) 6 p (e - b)) 1 4 (p + 1)) 10 p v1) 11 p v2 5 (8 * p + i) = B (b + i) := by
        intro i i0 i1
        rw [r5]
        show (if (5 : Nat) = 5 ∧ 8 * p ≤ 8 * p + i ∧ 8 * p + i < 8 * p + (e - b) then B (b + (8 * p + i - 8 * p)) else _) = _
        rw [if_pos ⟨rfl, by omega, by omega⟩]
        congr 1
        omega
      rw [e6, m_up_eq]
      refine ⟨⟨by omega, h8⟩, fun i i0 i1 => by rw [e5 i i0 i1]; exact hl _ (by omega) (by omega), ?_⟩
      refine tx_wv_ext (fun i hi => ?_)
      show B (b + (i : Int)) = _
      rw [Int.zero_add, e5 (i : Int) (Int.natCast_nonneg i) (by omega)]
    · obtain ⟨a1, a2, a3⟩ := nm p p0 (by omega)
      have e6 : y_up (y_up (y_up (y_up (y_ad V 5 (8 * P) (e - b) (fun j => B (b + j))) 6 P (e - b)) 1 4 (P + 1)) 10 P v1) 11 P v2 6 p = V 6 p := rd 6 p (by omega) (fun _ => q) (by omega) (by omega) (by omega)
      have e5 : ∀ i : Int, 0 ≤ i → i < V 6 p → y_up (y_up (y_up (y_up (y_ad V 5 (8 * P) (e - b) (fun j => B (b + j))) 6 P (e - b)) 1 4 (P + 1)) 10 P v1) 11 P v2 5 (8 * p + i) = V 5 (8 * p + i) := by
        intro i i0 i1
        rw [r5]
        show (if (5 : Nat) = 5 ∧ 8 * P ≤ 8 * p + i ∧ 8 * p + i < 8 * P + (e - b) then _ else V 5 (8 * p + i)) = _
        rw [if_neg (by omega)]
      rw [e6, m_up_ne (by omega)]
      refine ⟨a1, fun i i0 i1 => by rw [e5 i i0 i1]; exact a2 i i0 i1, ?_⟩
      rw [a3]
      refine tx_wv_ext (fun i hi => ?_)
      show V 5 (8 * p + (0 + (i : Int))) = _
      rw [Int.zero_add, e5 (i : Int) (Int.natCast_nonneg i) (by omega)]
  · exact ((hh.up (by omega) (fun q => by omega)).up (by omega) (fun q => by omega)).up (by decide) (fun _ => by rw [m_up_ne (by omega), m_up_ne (by omega)]; omega)
  · exact ((mn.wr m_up_e (by omega)).wr m_up_e (by omega)).wr m_up_e (by omega)
  · rw [rc _ (by decide) (by omega) (by omega)]; exact k1
  · rw [rc _ (by decide) (by omega) (by omega)]; exact k2
  · rw [rc _ (by decide) (by omega) (by omega)]; exact k3
end TQ
end
/-! FROM 48n.rdplayer.lean.txt -/
section
/-! A PLAYER READ -/
section TU
variable {X : XW} {lb : Nat → Nat} {D T g a : Nat} {σ τ σ' τ' σ1 τ1 : ST} {n : Int} {B : Int → Int} {V : Nat → Int → Int} {r c w t : Int → Int} {f9 f10 : Int}
theorem tb_R.b (h : tb_R V r c w t) : V 1 0 = c 3720 ∧ V 1 1 = c 3721 ∧ V 1 4 = c 3722 ∧ (2 ≤ c 3720 ∧ c 3720 ≤ 10) ∧ (1 ≤ c 3721 ∧ c 3721 ≤ 8) ∧ (0 ≤ c 3722 ∧ c 3722 ≤ 6) := by
  obtain ⟨⟨⟨n1, n2, n3, n4, n5⟩, n6⟩, z, nm, hh, mn, k1, k2, k3⟩ := h
  exact ⟨n1, n2, n5, ⟨k1, mn.1.2⟩, ⟨k2, mn.2.1.2⟩, mn.2.2.1⟩
/-- behind a fault the reference's player does nothing -/
theorem tm_J160a (h : 0 < (τ.1 a 12).toInt) : F_X12_readPlayer_J160_5 X a τ = τ := by
  unfold F_X12_readPlayer_J160_5
  rw [q_letE, if_neg (by omega)]
theorem tm_J125a (pl : Int32) (h : 0 < (τ.1 a 12).toInt) : F_X12_readPlayer_J125_4 X a pl τ = τ := by
  unfold F_X12_readPlayer_J125_4
  rw [q_letE, if_neg (by omega), tm_J160a h]
theorem tm_J72a (pl : Int32) (h : 0 < (τ.1 a 12).toInt) : F_X12_readPlayer_J72_3 X a pl τ = τ := by
  unfold F_X12_readPlayer_J72_3
  rw [q_letE, if_pos h]
theorem tm_J48a (pl : Int32) (h : 0 < (τ.1 a 12).toInt) : F_X12_readPlayer_J48_2 X a pl τ = τ := by
  unfold F_X12_readPlayer_J48_2
  rw [q_letE, if_neg (by omega), tm_J72a pl h]
theorem tm_J25a (pl : Int32) (h : 0 < (τ.1 a 12).toInt) : F_X12_readPlayer_J25_1 X a pl τ = τ := by
  unfold F_X12_readPlayer_J25_1
  rw [q_letE, if_pos h]
theorem tb_readPlayer (Y : y_S X lb) (H : tb_D X lb D T g) (ha : q_kd X a = 12) (I : tb_I X D T g a n B σ τ V r c w t f9 f10) (h1 : (τ.1 a 14).toInt = 1) :
    ∃ (z : Int32) (σ' : ST), F_X9_readPlayer X σ D = (z, σ') ∧ tb_O X lb D T g a n B σ τ σ' (F_X12_must X (F_X12_readPlayer X τ a) a (F_X12_isSign X (F_X12_readPlayer X τ a) a 59)) z := by
  obtain ⟨S, M, K, h0, Rr⟩ := I
  have kb := K.b
  have hDn : lb D / 8192 ≠ 6 := by have := H.2.2.2.1; omega
  obtain ⟨b0, b1, b4, b20, b21, b22⟩ := Rr.b
  obtain ⟨P, hP⟩ : ∃ P, P = c 3722 := ⟨_, rfl⟩
  rw [← hP] at b22
  have pc : (σ.1 (q_rf X g 0) 4).toInt = P := by
    have z := y_v_rdn (X := X) (g := g) (σ := σ) (id := 1) (by decide) 4
    rw [S.2.1] at z
    exact z.trans (b4.trans hP.symm)
  have pm : (τ.1 (q_rf X a 20) (3722 : Int32).toNatClampNeg).toInt = P := by
    have z := m_rd (X := X) (σ := τ) (a := a) (i := 3722) (A := 3722) rfl rfl
    rw [M.2.1] at z
    exact z.trans hP.symm
  have epl : τ.1 (q_rf X a 20) (3722 : Int32).toNatClampNeg = σ.1 (q_rf X g 0) 4 := Int32.toInt_inj.mp (pm.trans pc.symm)
  unfold F_X9_readPlayer F_X12_readPlayer
  rw [← H.2.1, q_letE (σ.1 (q_rf X g 0) 4), q_letE (τ.1 (q_rf X a 20) (3722 : Int32).toNatClampNeg), epl]
  obtain ⟨pl, hpl⟩ : ∃ s, s = σ.1 (q_rf X g 0) 4 := ⟨_, rfl⟩
  rw [← hpl] at pc ⊢
  by_cases q6 : P = 6
  · rw [q6] at pc
    rw [q_letE (τ.1 a 15)]
    have ng : ¬ pl.toInt < 6 := by omega
    rw [if_neg ng, if_pos pc, q_letE (F_X12_fail X τ a 6 (τ.1 a 15))]
    obtain ⟨σ', a1, a2, a3, a4⟩ := tl_fail (X := X) K h0 (by omega) (k := 6) (by decide) (w := τ.1 a 15) rfl
    rw [tm_J25a pl a4.2.1, a1]
    exact ⟨0, σ', rfl, tb_O.bad (S.rd Y H a2).2 (tb_P.rd Y.1 ha a3) rfl a4 _⟩
  · have lt : pl.toInt < 6 := by omega
    have ne : ¬ pl.toInt = 6 := by omega
    rw [if_pos lt, if_neg ne]
    unfold F_X12_readPlayer_J25_1
    rw [q_letE (τ.1 a 12), h0, if_neg (by decide : ¬ (0 : Int) < 0), q_letE (F_X3_advance X σ D), q_letE (F_X12_next X τ a), q_letE (F_X12_isName X (F_X12_next X τ a) a)]
    obtain ⟨c1, m1, K2, g2⟩ := tl_adv2 S.1 M.1 K
    obtain ⟨S2, f2⟩ := S.rd Y H c1.S2
    have M2 := M.rd Y.1 ha m1.S2
    have h02 : ((F_X12_next X τ a).1 a 12).toInt = 0 := by rw [tn_12 m1]; exact h0
    obtain ⟨σb, hσb⟩ : ∃ s, s = F_X3_advance X σ D := ⟨_, rfl⟩
    obtain ⟨τb, hτb⟩ : ∃ s, s = F_X12_next X τ a := ⟨_, rfl⟩
    rw [← hσb] at S2 f2 K2 ⊢
    rw [← hτb] at M2 K2 g2 h02 ⊢
    have k2b := K2.b
    rcases tl_mustBeName S2.1 M2.1 K2 h02 with ⟨m3, m4, m5, m6⟩ | ⟨m3, σ', m4, m5, m6, m7⟩
    · rw [m6, q_biP, if_neg (by decide : ¬ (1 : Int32).toInt = 0), m3, if_neg (by decide : ¬ (1 : Int) = 0)]
      unfold F_X12_readPlayer_J48_2
      rw [q_letE (τb.1 a 12), h02, if_pos (Eq.refl (0 : Int)), q_letE (F_X12_named X τb a 4), q_letE (F_X6_playerNamed X σb (q_rf X g 0) D)]
      have nmw : y_nm V (m_wd X τb a) (6 * 4) P := by
        rw [M2.2.2.1, hP]
        exact Rr.2.2.1
      obtain ⟨nm1, nm2⟩ := tl_named Y H.2.2.1 ((y_W.rf (lb := lb) (o := 6) (σ := σb)).eq S2.2.1) S2.1 K2 m4 m5 (v := 4) (bl := 4) rfl ⟨by decide, by decide⟩ (P := P) (by rw [M2.2.1, hP]; rfl) b22 (b4.trans hP.symm) nmw
      rw [nm1]
      rcases nm2 with ⟨q1, q2⟩ | ⟨q1, q2⟩
      · rw [if_pos q1, if_pos (by omega : (F_X12_named X τb a 4).toInt < 0)]
        unfold F_X12_readPlayer_J72_3
        rw [q_letE (τb.1 a 12), h02, if_neg (by decide : ¬ (0 : Int) < 0), q_letE (F_X6_addPlayer X σb (q_rf X g 0) D), q_letE ((24 : Int32) + pl), q_letE (τb.2.1 a 19), q_letE (q_sl τb (q_rf X a 23) ((24 : Int32) + pl).toNatClampNeg (τb.2.1 a 19))]
        have W := tc_addPlayer Y H S2.1 K2.1 K2.2.1 K2.2.2.2.2.2.2.1 k2b.1 k2b.2.1 m5 (P := P) ⟨b22.1, by omega⟩ S2.2.1 (b4.trans hP.symm)
        obtain ⟨S3, f3⟩ := S2.gm Y H W
        have i24 : ((24 : Int32) + pl).toInt = 24 + P := by
          have e24 : (24 : Int32).toInt = 24 := rfl
          rw [ar_add, e24, pc, ar_wr (by omega) (by omega)]
        obtain ⟨M3, sm3⟩ := M2.word Y.1 ha (i := (24 : Int32) + pl) (v := τb.2.1 a 19) (A := 24 + P) i24 (by omega)
        have K3 := K2.same (tl_sameC.W W hDn) sm3
        have wv : (τb.2.1 a 19).toInt = tx_wv B (τb.1 a 15).toInt ((τb.1 a 16).toInt - (τb.1 a 15).toInt).toNat := (K2.2.2.2.2.2.1.2 m4).2.1 m5
        have hl := tl_le K2 m4
        rw [wv] at M3
        have h03 : ((q_sl τb (q_rf X a 23) ((24 : Int32) + pl).toNatClampNeg (τb.2.1 a 19)).1 a 12).toInt = 0 := by rw [sm3.1 12 (by decide) (by decide)]; exact h02
        have e316 : (q_sl τb (q_rf X a 23) ((24 : Int32) + pl).toNatClampNeg (τb.2.1 a 19)).1 a 16 = τb.1 a 16 := sm3.1 16 (by decide) (by decide)
        obtain ⟨bb, hbb⟩ : ∃ s, s = (τb.1 a 15).toInt := ⟨_, rfl⟩
        obtain ⟨ee, hee⟩ : ∃ s, s = (τb.1 a 16).toInt := ⟨_, rfl⟩
        rw [← hbb, ← hee] at W S3 M3 hl k2b m5
        rw [← hbb] at g2
        obtain ⟨V1, hV1⟩ : ∃ v, v = y_up (y_up (y_ad V 5 (8 * P) (ee - bb) (fun j => B (bb + j))) 6 P (ee - bb)) 1 4 (P + 1) := ⟨_, rfl⟩
        have r1 : ∀ (id : Nat) (i : Int), id ≠ 5 → id ≠ 6 → id ≠ 1 → V1 id i = V id i := fun id i i5 i6 i1 => by
          rw [hV1, y_up_ne (Or.inl i1), y_up_ne (Or.inl i6), y_ad_ne i5]
        rw [← hV1] at W S3
        obtain ⟨σc, hσc⟩ : ∃ s, s = F_X6_addPlayer X σb (q_rf X g 0) D := ⟨_, rfl⟩
        obtain ⟨τc, hτc⟩ : ∃ s, s = q_sl τb (q_rf X a 23) ((24 : Int32) + pl).toNatClampNeg (τb.2.1 a 19) := ⟨_, rfl⟩
        rw [← hσc] at W S3 f3 K3 ⊢
        rw [← hτc] at M3 sm3 K3 h03 e316 ⊢
        have k3b := K3.b
        obtain ⟨c4, m4', K4, g4⟩ := tl_adv2 S3.1 M3.1 K3
        obtain ⟨S4, f4⟩ := S3.rd Y H c4.S2
        have M4 := M3.rd Y.1 ha m4'.S2
        have h04 : ((F_X12_next X τc a).1 a 12).toInt = 0 := by rw [tn_12 m4']; exact h03
        rw [q_letE (F_X3_advance X σc D), q_letE (F_X12_next X τc a)]
        obtain ⟨σd, hσd⟩ : ∃ s, s = F_X3_advance X σc D := ⟨_, rfl⟩
        obtain ⟨τd, hτd⟩ : ∃ s, s = F_X12_next X τc a := ⟨_, rfl⟩
        rw [← hσd] at S4 f4 K4 ⊢
        rw [← hτd] at M4 K4 g4 h04 ⊢
        rw [q_letE (F_X12_isLies X τd a)]
        have n9 := Rr.1.2.2.2.2 P b22.1 (by omega)
        have gP : 0 ≤ P ∧ P < 6 := ⟨b22.1, by omega⟩
        obtain ⟨z, σe, τe, v, u, e5, e6, hz, f5, S5, M5, o⟩ := tb_six Y H ha S4 M4 K4 h04 (rr := 9) ⟨by decide, by decide⟩ (flag := F_X12_isLies X τd a) tm_isLies (id := 10) (row := q_rf X (q_rf X g 1) 3) (Or.inl rfl) rfl (pl := pl) (P := P) pc gP (Ab := 3730) (A := 3730) rfl ⟨by decide, by decide⟩ (by rw [r1 10 P (by decide) (by decide) (by decide)]; exact n9.1)
        rw [e5, q_biP, e6 (F_X12_readPlayer_J125_4 X a pl)]
        rcases o with ⟨o1, o2, o3, o4, o5⟩ | ⟨o1, o2⟩
        · rw [if_neg (by omega : ¬ z.toInt = 0)]
          unfold F_X12_readPlayer_J125_4
          rw [q_letE (τe.1 a 12), o4, if_pos (Eq.refl (0 : Int)), q_letE (F_X12_isDoubts X τe a)]
          rw [o2] at S5
          obtain ⟨z2, σf, τf, v2, u2, e7, e8, hz2, f6, S6, M6, p⟩ := tb_six Y H ha S5 M5 o3 o4 (rr := 10) ⟨by decide, by decide⟩ (flag := F_X12_isDoubts X τe a) tm_isDoubts (id := 11) (row := q_rf X (q_rf X g 1) 4) (Or.inr rfl) rfl (pl := pl) (P := P) pc gP (Ab := 3736) (A := 3736) rfl ⟨by decide, by decide⟩ (by rw [y_up_ne (Or.inl (by decide)), m_up_ne (by omega), r1 11 P (by decide) (by decide) (by decide)]; exact n9.2)
          rw [e7, q_biP, e8 (F_X12_readPlayer_J160_5 X a)]
          rcases p with ⟨p1, p2, p3, p4, p5⟩ | ⟨p1, p2⟩
          · rw [if_neg (by omega : ¬ z2.toInt = 0)]
            unfold F_X12_readPlayer_J160_5
            rw [q_letE (τf.1 a 12), p4, if_pos (Eq.refl (0 : Int)), q_letE, q_letE, q_letE]
            rw [p2] at S6
            have hf : (τf.1 (q_rf X a 20) (3722 : Int32).toNatClampNeg).toInt = P := by
              have z := m_rd (X := X) (σ := τf) (a := a) (i := 3722) (A := 3722) rfl rfl
              rw [M6.2.1, m_up_ne (by omega), m_up_ne (by omega)] at z
              exact z.trans hP.symm
            have inc : (τf.1 (q_rf X a 20) (3722 : Int32).toNatClampNeg + 1).toInt = P + 1 := by
              rw [y_inc (by omega), hf]
            obtain ⟨M7, sm7⟩ := M6.cw Y.1 ha (i := 3722) (v := τf.1 (q_rf X a 20) (3722 : Int32).toNatClampNeg + 1) (A := 3722) rfl (by decide)
            rw [inc] at M7
            obtain ⟨τg, hτg⟩ : ∃ s, s = q_si τf (q_rf X a 20) (3722 : Int32).toNatClampNeg (τf.1 (q_rf X a 20) (3722 : Int32).toNatClampNeg + 1) := ⟨_, rfl⟩
            rw [← hτg] at M7 sm7 ⊢
            have K7 := p3.same tl_sameC.rf sm7
            have h07 : (τg.1 a 12).toInt = 0 := by rw [sm7.1 12 (by decide) (by decide)]; exact p4
            have R7 := Rr.player (b := bb) (e := ee) (v1 := v) (v2 := v2) hP.symm gP (by omega) m5 hl
            rw [← hV1] at R7
            have pP : tb_P X a τ τg := tb_P.mk M M7 (fun j a1 a2 => by rw [m_up_ne (by omega), m_up_ne (by omega), m_up_ne (by omega)]) (fun j a1 a2 => m_up_ne (by omega))
            have e715 : τg.1 a 15 = τf.1 a 15 := sm7.1 15 (by decide) (by decide)
            have k7b := K7.b
            obtain ⟨z3, σ2, e9, x1, x2, x3⟩ := tb_semi Y H ha (σ := σ) (τ := τ) ⟨S6, M7, K7, h07, R7⟩ ((((f2.tr f3).tr f4).tr f5).tr f6) pP (by rw [e715]; rw [e316] at g4; omega) (by rw [e715] at k7b; rw [e316] at g4; omega)
            rw [e9, q_biP]
            rcases x3 with ⟨y1, y2⟩ | ⟨y1, y2⟩
            · rw [if_neg (by omega)]
              exact ⟨1, σ2, rfl, x1, x2, Or.inl ⟨rfl, y2⟩⟩
            · rw [if_pos y1]
              exact ⟨0, σ2, rfl, x1, x2, Or.inr ⟨rfl, y2⟩⟩
          · rw [if_pos p1, tm_J160a p2.2.1]
            exact ⟨0, σf, rfl, tb_O.bad ((((f2.tr f3).tr f4).tr f5).tr f6) (tb_P.mk M M6 (fun j a1 a2 => by rw [m_up_ne (by omega), m_up_ne (by omega)]) (fun j a1 a2 => m_up_ne (by omega))) rfl p2 _⟩
        · rw [if_pos o1, tm_J125a pl o2.2.1]
          exact ⟨0, σe, rfl, tb_O.bad (((f2.tr f3).tr f4).tr f5) (tb_P.mk M M5 (fun j a1 a2 => m_up_ne (by omega)) (fun j a1 a2 => m_up_ne (by omega))) rfl o2 _⟩
      · rw [if_neg (by omega : ¬ (F_X12_named X τb a 4).toInt = -1), if_neg (by omega : ¬ (F_X12_named X τb a 4).toInt < 0), q_biE, q_letE, q_letE]
        obtain ⟨σ', a1, a2, a3, a4⟩ := tl_fail (X := X) K2 h02 (by omega) (k := 3) (by decide) (w := τb.1 a 15) rfl
        rw [tm_J72a pl a4.2.1, a1]
        exact ⟨0, σ', rfl, tb_O.bad (f2.tr (S2.rd Y H a2).2) ((tb_P.mk M M2 (fun _ _ _ => rfl) (fun _ _ _ => rfl)).tr (tb_P.rd Y.1 ha a3)) rfl a4 _⟩
    · rw [m4, q_biP, if_pos (by decide : (0 : Int32).toInt = 0), m3, if_pos (Eq.refl (0 : Int)), q_letE (F_X12_wrong X τb a), tm_J48a pl m7.2.1]
      exact ⟨0, σ', rfl, tb_O.bad (f2.tr (S2.rd Y H m5).2) ((tb_P.mk M M2 (fun _ _ _ => rfl) (fun _ _ _ => rfl)).tr (tb_P.rd Y.1 ha m6)) rfl m7 _⟩
end TU
end
/-! FROM 48o.hand.lean.txt -/
section
/-! A HAND TOLD: bits, sums, the relation -/
def tb_pw (k : Int) : Int := if k = 0 then 1 else if k = 1 then 2 else if k = 2 then 4 else if k = 3 then 8 else if k = 4 then 16 else if k = 5 then 32 else if k = 6 then 64 else if k = 7 then 128 else if k = 8 then 256 else 512
theorem tb_ten {k : Int} (hk : 0 ≤ k ∧ k < 10) : k = 0 ∨ k = 1 ∨ k = 2 ∨ k = 3 ∨ k = 4 ∨ k = 5 ∨ k = 6 ∨ k = 7 ∨ k = 8 ∨ k = 9 := by omega
theorem tb_pw_b {k : Int} (hk : 0 ≤ k ∧ k < 10) : 1 ≤ tb_pw k ∧ tb_pw k ≤ 512 := by
  rcases tb_ten hk with rfl | rfl | rfl | rfl | rfl | rfl | rfl | rfl | rfl | rfl <;> decide
theorem tb_shl {f : Int32} {k : Int} (hf : f.toInt = k) (hk : 0 ≤ k ∧ k < 10) : ((1 : Int32) <<< (f &&& 31)).toInt = tb_pw k := by
  rcases tb_ten hk with rfl | rfl | rfl | rfl | rfl | rfl | rfl | rfl | rfl | rfl
  · have e : f = 0 := Int32.toInt_inj.mp hf
    subst e
    rfl
  · have e : f = 1 := Int32.toInt_inj.mp hf
    subst e
    rfl
  · have e : f = 2 := Int32.toInt_inj.mp hf
    subst e
    rfl
  · have e : f = 3 := Int32.toInt_inj.mp hf
    subst e
    rfl
  · have e : f = 4 := Int32.toInt_inj.mp hf
    subst e
    rfl
  · have e : f = 5 := Int32.toInt_inj.mp hf
    subst e
    rfl
  · have e : f = 6 := Int32.toInt_inj.mp hf
    subst e
    rfl
  · have e : f = 7 := Int32.toInt_inj.mp hf
    subst e
    rfl
  · have e : f = 8 := Int32.toInt_inj.mp hf
    subst e
    rfl
  · have e : f = 9 := Int32.toInt_inj.mp hf
    subst e
    rfl
theorem tb_bit {x f : Int32} {t : Int → Int} {p k : Int} (hx : x.toInt = tb_bits t p) (hf : f.toInt = k) (hk : 0 ≤ k ∧ k < 10) (ht : ∀ i : Int, 0 ≤ i → i < 10 → t (10 * p + i) = 0 ∨ t (10 * p + i) = 1) : ((x >>> (f &&& 31)) &&& 1).toInt = t (10 * p + k) := by
  have b : ∀ i : Int, 0 ≤ i → i < 10 → 0 ≤ t (10 * p + i) ∧ t (10 * p + i) ≤ 1 := fun i i0 i1 => by rcases ht i i0 i1 with h | h <;> rw [h] <;> decide
  have b0 := b 0 (by decide) (by decide)
  rw [Int.add_zero] at b0
  have b1 := b 1 (by decide) (by decide)
  have b2 := b 2 (by decide) (by decide)
  have b3 := b 3 (by decide) (by decide)
  have b4 := b 4 (by decide) (by decide)
  have b5 := b 5 (by decide) (by decide)
  have b6 := b 6 (by decide) (by decide)
  have b7 := b 7 (by decide) (by decide)
  have b8 := b 8 (by decide) (by decide)
  have b9 := b 9 (by decide) (by decide)
  clear b ht
  unfold tb_bits at hx
  rcases tb_ten hk with rfl | rfl | rfl | rfl | rfl | rfl | rfl | rfl | rfl | rfl
  · have e : f = 0 := Int32.toInt_inj.mp hf
    subst e
    rw [Jvm.Kit.i32_mask (k := 1) _ 1 (by decide) (by decide), Jvm.Kit.i32_shr x _ (k := 0) (by decide), hx]
    have e1 : (2 : Int) ^ 1 = 2 := rfl
    have e2 : (2 : Int) ^ 0 = 1 := rfl
    rw [e1, e2]
    rw [Int.add_zero]
    omega
  · have e : f = 1 := Int32.toInt_inj.mp hf
    subst e
    rw [Jvm.Kit.i32_mask (k := 1) _ 1 (by decide) (by decide), Jvm.Kit.i32_shr x _ (k := 1) (by decide), hx]
    have e1 : (2 : Int) ^ 1 = 2 := rfl
    have e2 : (2 : Int) ^ 1 = 2 := rfl
    rw [e1]
    omega
  · have e : f = 2 := Int32.toInt_inj.mp hf
    subst e
    rw [Jvm.Kit.i32_mask (k := 1) _ 1 (by decide) (by decide), Jvm.Kit.i32_shr x _ (k := 2) (by decide), hx]
    have e1 : (2 : Int) ^ 1 = 2 := rfl
    have e2 : (2 : Int) ^ 2 = 4 := rfl
    rw [e1, e2]
    omega
  · have e : f = 3 := Int32.toInt_inj.mp hf
    subst e
    rw [Jvm.Kit.i32_mask (k := 1) _ 1 (by decide) (by decide), Jvm.Kit.i32_shr x _ (k := 3) (by decide), hx]
    have e1 : (2 : Int) ^ 1 = 2 := rfl
    have e2 : (2 : Int) ^ 3 = 8 := rfl
    rw [e1, e2]
    omega
  · have e : f = 4 := Int32.toInt_inj.mp hf
    subst e
    rw [Jvm.Kit.i32_mask (k := 1) _ 1 (by decide) (by decide), Jvm.Kit.i32_shr x _ (k := 4) (by decide), hx]
    have e1 : (2 : Int) ^ 1 = 2 := rfl
    have e2 : (2 : Int) ^ 4 = 16 := rfl
    rw [e1, e2]
    omega
  · have e : f = 5 := Int32.toInt_inj.mp hf
    subst e
    rw [Jvm.Kit.i32_mask (k := 1) _ 1 (by decide) (by decide), Jvm.Kit.i32_shr x _ (k := 5) (by decide), hx]
    have e1 : (2 : Int) ^ 1 = 2 := rfl
    have e2 : (2 : Int) ^ 5 = 32 := rfl
    rw [e1, e2]
    omega
  · have e : f = 6 := Int32.toInt_inj.mp hf
    subst e
    rw [Jvm.Kit.i32_mask (k := 1) _ 1 (by decide) (by decide), Jvm.Kit.i32_shr x _ (k := 6) (by decide), hx]
    have e1 : (2 : Int) ^ 1 = 2 := rfl
    have e2 : (2 : Int) ^ 6 = 64 := rfl
    rw [e1, e2]
    omega
  · have e : f = 7 := Int32.toInt_inj.mp hf
    subst e
    rw [Jvm.Kit.i32_mask (k := 1) _ 1 (by decide) (by decide), Jvm.Kit.i32_shr x _ (k := 7) (by decide), hx]
    have e1 : (2 : Int) ^ 1 = 2 := rfl
    have e2 : (2 : Int) ^ 7 = 128 := rfl
    rw [e1, e2]
    omega
  · have e : f = 8 := Int32.toInt_inj.mp hf
    subst e
    rw [Jvm.Kit.i32_mask (k := 1) _ 1 (by decide) (by decide), Jvm.Kit.i32_shr x _ (k := 8) (by decide), hx]
    have e1 : (2 : Int) ^ 1 = 2 := rfl
    have e2 : (2 : Int) ^ 8 = 256 := rfl
    rw [e1, e2]
    omega
  · have e : f = 9 := Int32.toInt_inj.mp hf
    subst e
    rw [Jvm.Kit.i32_mask (k := 1) _ 1 (by decide) (by decide), Jvm.Kit.i32_shr x _ (k := 9) (by decide), hx]
    have e1 : (2 : Int) ^ 1 = 2 := rfl
    have e2 : (2 : Int) ^ 9 = 512 := rfl
    rw [e1, e2]
    omega
theorem tb_bits_up {t : Int → Int} {p k : Int} (hk : 0 ≤ k ∧ k < 10) (ht : t (10 * p + k) = 0) : tb_bits (m_up t (10 * p + k) 1) p = tb_bits t p + tb_pw k := by
  have e : ∀ i : Int, m_up t (10 * p + k) 1 (10 * p + i) = if i = k then 1 else t (10 * p + i) := by
    intro i
    unfold m_up
    by_cases q : i = k
    · rw [if_pos q, if_pos (by omega)]
    · rw [if_neg q, if_neg (by omega)]
  have e0 := e 0
  rw [Int.add_zero] at e0
  unfold tb_bits tb_pw
  rw [e0, e 1, e 2, e 3, e 4, e 5, e 6, e 7, e 8, e 9]
  clear e e0
  rcases tb_ten hk with rfl | rfl | rfl | rfl | rfl | rfl | rfl | rfl | rfl | rfl
  · rw [Int.add_zero] at ht
    simp only [Int.reduceEq, ↓reduceIte]
    omega
  · simp only [Int.reduceEq, ↓reduceIte]
    omega
  · simp only [Int.reduceEq, ↓reduceIte]
    omega
  · simp only [Int.reduceEq, ↓reduceIte]
    omega
  · simp only [Int.reduceEq, ↓reduceIte]
    omega
  · simp only [Int.reduceEq, ↓reduceIte]
    omega
  · simp only [Int.reduceEq, ↓reduceIte]
    omega
  · simp only [Int.reduceEq, ↓reduceIte]
    omega
  · simp only [Int.reduceEq, ↓reduceIte]
    omega
  · simp only [Int.reduceEq, ↓reduceIte]
    omega
theorem tb_bits_ne {t : Int → Int} {p q k v : Int} (hk : 0 ≤ k ∧ k < 10) (h : q ≠ p) : tb_bits (m_up t (10 * p + k) v) q = tb_bits t q := by
  unfold tb_bits
  rw [m_up_ne (by omega), m_up_ne (by omega), m_up_ne (by omega), m_up_ne (by omega), m_up_ne (by omega), m_up_ne (by omega), m_up_ne (by omega), m_up_ne (by omega), m_up_ne (by omega), m_up_ne (by omega)]
theorem m_sum_e {c : Int → Int} {k : Int} : m_sum c 3720 k = c (3754 + 10 * 0 + k) + c (3754 + 10 * 1 + k) + c (3754 + 10 * 2 + k) + c (3754 + 10 * 3 + k) + c (3754 + 10 * 4 + k) + c (3754 + 10 * 5 + k) := rfl
theorem m_sum_ne {c : Int → Int} {p k k' v : Int} (hk : 0 ≤ k ∧ k < 10) (hk' : 0 ≤ k' ∧ k' < 10) (h : k' ≠ k) : m_sum (m_up c (3754 + (10 * p + k)) v) 3720 k' = m_sum c 3720 k' := by
  unfold m_sum
  rw [m_up_ne (by omega), m_up_ne (by omega), m_up_ne (by omega), m_up_ne (by omega), m_up_ne (by omega), m_up_ne (by omega)]
theorem m_sum_at {c : Int → Int} {p k v : Int} (hp : 0 ≤ p ∧ p < 6) (h0 : c (3754 + (10 * p + k)) = 0) : m_sum (m_up c (3754 + (10 * p + k)) v) 3720 k = m_sum c 3720 k + v := by
  have e : ∀ i : Int, m_up c (3754 + (10 * p + k)) v (3754 + 10 * i + k) = if i = p then v else c (3754 + 10 * i + k) := by
    intro i
    unfold m_up
    by_cases q : i = p
    · rw [if_pos q, if_pos (by omega)]
    · rw [if_neg q, if_neg (by omega)]
  rw [m_sum_e, m_sum_e, e 0, e 1, e 2, e 3, e 4, e 5]
  clear e
  have h0' : c (3754 + 10 * p + k) = 0 := by
    have z : 3754 + 10 * p + k = 3754 + (10 * p + k) := by omega
    rw [z]
    exact h0
  rcases (by omega : p = 0 ∨ p = 1 ∨ p = 2 ∨ p = 3 ∨ p = 4 ∨ p = 5) with rfl | rfl | rfl | rfl | rfl | rfl
  · simp only [Int.reduceEq, ↓reduceIte]
    omega
  · simp only [Int.reduceEq, ↓reduceIte]
    omega
  · simp only [Int.reduceEq, ↓reduceIte]
    omega
  · simp only [Int.reduceEq, ↓reduceIte]
    omega
  · simp only [Int.reduceEq, ↓reduceIte]
    omega
  · simp only [Int.reduceEq, ↓reduceIte]
    omega
theorem m_S_at {c : Int → Int} {b A v : Int} : ∀ N : Nat, b ≤ A → A < b + (N : Int) → m_S (m_up c A v) b N = m_S c b N + v - c A := by
  intro N
  induction N with
  | zero => intro h1 h2; omega
  | succ N ih =>
    intro h1 h2
    show m_S (m_up c A v) b N + m_up c A v (b + (N : Int)) = m_S c b N + c (b + (N : Int)) + v - c A
    by_cases q : A = b + (N : Int)
    · subst q
      rw [m_up_eq, m_S_ext (c := c) (fun j a1 a2 => m_up_ne (by omega))]
      omega
    · rw [m_up_ne (fun z => q z.symm), ih h1 (by omega)]
      omega
section TH
variable {X : XW} {lb : Nat → Nat} {D T g a : Nat} {σ τ σ' τ' σ1 τ1 : ST} {n : Int} {B : Int → Int} {V : Nat → Int → Int} {r c w t : Int → Int} {f9 f10 : Int}
theorem tb_R.hand {p k v s : Int} (h : tb_R V r c w t) (hp : 0 ≤ p ∧ p < c 3722) (hk : 0 ≤ k ∧ k < c 3720) (hv : 0 ≤ v) (ht : t (10 * p + k) = 0) (hs : m_sum c 3720 k + v ≤ c 3721) (es : s = r p + tb_pw k) :
    tb_R (y_up (y_up (y_up V 4 k (V 4 k + v)) 7 (10 * p + k) (V 7 (10 * p + k) + v)) 9 p (V 9 p + v)) (fun j => if j = p then s else r j) (m_up c (3754 + (10 * p + k)) v) w (m_up t (10 * p + k) 1) := by
  obtain ⟨⟨⟨n1, n2, n3, n4, n5⟩, n6, n7, n8, n9⟩, z, nm, ⟨h1, h2, h3⟩, mn, k1, k2, k3⟩ := h
  have hP : c 3722 ≤ 6 := mn.2.2.1.2
  have hK : c 3720 ≤ 10 := mn.1.2
  have hE : c 3721 ≤ 8 := mn.2.1.2
  have hk10 : 0 ≤ k ∧ k < 10 := by omega
  have c0 : c (3754 + (10 * p + k)) = 0 := (h1 (10 * p + k) (by omega) (by omega)).2 ht
  have rd : ∀ (id : Nat) (i : Int), id ≠ 4 → id ≠ 7 → id ≠ 9 → y_up (y_up (y_up V 4 k (V 4 k + v)) 7 (10 * p + k) (V 7 (10 * p + k) + v)) 9 p (V 9 p + v) id i = V id i := fun id i i4 i7 i9 => by
    rw [y_up_ne (Or.inl i9), y_up_ne (Or.inl i7), y_up_ne (Or.inl i4)]
  have rc : ∀ j : Int, j < 3754 → m_up c (3754 + (10 * p + k)) v j = c j := fun j hj => m_up_ne (by omega)
  refine ⟨⟨⟨?_, ?_, ?_, ?_, ?_⟩, ?_, ?_, ?_, ?_⟩, ?_, ?_, ⟨?_, ?_, ?_⟩, ?_, ?_, ?_, ?_⟩
  · rw [rd 1 0 (by decide) (by decide) (by decide), rc _ (by decide)]; exact n1
  · rw [rd 1 1 (by decide) (by decide) (by decide), rc _ (by decide)]; exact n2
  · rw [rd 1 2 (by decide) (by decide) (by decide), rc _ (by decide)]; exact n3
  · rw [rd 1 3 (by decide) (by decide) (by decide), rc _ (by decide)]; exact n4
  · rw [rd 1 4 (by decide) (by decide) (by decide), rc _ (by decide)]; exact n5
  · intro k' a1 a2
    rw [y_up_ne (Or.inl (by decide)), y_up_ne (Or.inl (by decide))]
    by_cases q : k' = k
    · subst q
      rw [y_up_eq, m_sum_at ⟨hp.1, by omega⟩ c0, n6 k' a1 a2]
    · rw [y_up_ne (Or.inr q), m_sum_ne hk10 ⟨a1, a2⟩ q]
      exact n6 k' a1 a2
  · intro j a1 a2
    rw [y_up_ne (Or.inl (by decide))]
    by_cases q : j = 10 * p + k
    · subst q
      rw [y_up_eq, m_up_eq, n7 _ a1 a2, c0, Int.zero_add]
    · rw [y_up_ne (Or.inr q), y_up_ne (Or.inl (by decide)), m_up_ne (by omega)]
      exact n7 j a1 a2
  · intro q a1 a2
    by_cases e : q = p
    · subst e
      rw [y_up_eq, n8 q a1 a2, m_S_at 10 (by omega) (by show _ < _ + ((10 : Nat) : Int); omega), c0, Int.sub_zero]
    · rw [y_up_ne (Or.inr e), y_up_ne (Or.inl (by decide)), y_up_ne (Or.inl (by decide)), m_S_ext (fun j b1 b2 => m_up_ne (by have : ((10 : Nat) : Int) = 10 := rfl; omega))]
      exact n8 q a1 a2
  · intro q a1 a2
    rw [rd 10 q (by decide) (by decide) (by decide), rd 11 q (by decide) (by decide) (by decide), rc _ (by omega), rc _ (by omega)]
    exact n9 q a1 a2
  · exact ((z.up (by omega)).up (by omega)).up (by omega)
  · rw [rc _ (by decide)]
    exact ((nm.up (by decide) (by decide)).up (by decide) (by decide)).up (by decide) (by decide)
  · intro j a1 a2
    by_cases q : j = 10 * p + k
    · subst q
      rw [m_up_eq]
      exact ⟨Or.inr rfl, fun e => absurd e (by decide)⟩
    · rw [m_up_ne q, m_up_ne (by omega)]
      exact h1 j a1 a2
  · intro q a1 a2
    show (if q = p then s else r q) = _
    by_cases e : q = p
    · subst e
      rw [if_pos rfl, tb_bits_up hk10 ht, es, h2 q a1 a2]
    · rw [if_neg e, tb_bits_ne hk10 e]
      exact h2 q a1 a2
  · intro j a1 a2 a3
    rw [rc _ (by decide)] at a3
    rw [m_up_ne (by omega)]
    exact h3 j a1 a2 a3
  · exact mn.hand ⟨hp.1, by omega⟩ hk10 hk.2 m_up_e hv (by omega)
  · rw [rc _ (by decide)]; exact k1
  · rw [rc _ (by decide)]; exact k2
  · rw [rc _ (by decide)]; exact k3
theorem tb_S.get (H : tb_D X lb D T g) (S : tb_S X D T g σ n B V r f9 f10) {x : Int32} {p : Int} (hx : x.toInt = p) (hp : 0 ≤ p ∧ p < 6) : (F_X5_get X σ (q_rf X D 11) x).toInt = r p := by
  have hl : (q_len X (q_rf X (q_rf X D 11) 0)).toInt = 6 := by
    unfold q_len
    have : q_ln X (q_rf X (q_rf X D 11) 0) = 6 := H.2.2.2.2.2.2.2.1
    rw [this]
    rfl
  simp only [F_X5_get, ↓q_letE]
  rw [hl, hx, if_neg (by omega), if_pos (by omega), ar_cl, hx]
  exact S.2.2.1 p hp.1 hp.2
/-- how many of a kind have been told -/
theorem tm_toldOf (e : m_c X τ a = c) (mn : m_N c) {v : Int32} {k : Int} (hv : v.toInt = k) (hk : 0 ≤ k ∧ k < 10) : (F_X12_toldOf X τ a v).toInt = m_sum c 3720 k := by
  have hs := mn.2.2.2.2.2.2.2.2.1 k hk.1 hk.2
  rw [m_sum_e] at hs ⊢
  have hc := mn.2.2.2.2.2.2.2.1
  have d0 := hc (3754 + 10 * 0 + k) (by omega) (by omega)
  have d1 := hc (3754 + 10 * 1 + k) (by omega) (by omega)
  have d2 := hc (3754 + 10 * 2 + k) (by omega) (by omega)
  have d3 := hc (3754 + 10 * 3 + k) (by omega) (by omega)
  have d4 := hc (3754 + 10 * 4 + k) (by omega) (by omega)
  have d5 := hc (3754 + 10 * 5 + k) (by omega) (by omega)
  have st : ∀ (f : Nat) (x y : Int32) (j s : Int), y.toInt = j → 0 ≤ j → j < 6 → x.toInt = s → 0 ≤ s → s ≤ 100 → 0 ≤ c (3754 + 10 * j + k) → c (3754 + 10 * j + k) ≤ 8 → ∃ x' y' : Int32, F_X12_toldOf_L4_1 X v τ a (f + 1) x y = F_X12_toldOf_L4_1 X v τ a f x' y' ∧ x'.toInt = s + c (3754 + 10 * j + k) ∧ y'.toInt = j + 1 := by
    intro f x y j s hy j0 j1 hx s0 s1 c0 c1
    have ei : ((3754 : Int32) + (10 : Int32) * y + v).toInt = 3754 + 10 * j + k := by
      have e1 : (3754 : Int32).toInt = 3754 := rfl
      have e10 : (10 : Int32).toInt = 10 := rfl
      rw [ar_add, ar_add, ar_mul, e1, e10, hy, hv, ar_wr (n := 10 * j) (by omega) (by omega), ar_wr (n := 3754 + 10 * j) (by omega) (by omega), ar_wr (by omega) (by omega)]
    have ec : (τ.1 (q_rf X a 20) ((3754 : Int32) + (10 : Int32) * y + v).toNatClampNeg).toInt = c (3754 + 10 * j + k) := by
      have z := m_rd (X := X) (σ := τ) (a := a) rfl ei
      rw [e] at z
      exact z
    refine ⟨x + τ.1 (q_rf X a 20) ((3754 : Int32) + (10 : Int32) * y + v).toNatClampNeg, y + 1, ?_, ?_, ?_⟩
    · rw [F_X12_toldOf_L4_1_s]
      unfold F_X12_toldOf_B4_1
      rw [hy, if_pos j1, q_letE, q_letE, q_letE, q_letE, q_letE, q_letE]
    · rw [ar_add, hx, ec, ar_wr (by omega) (by omega)]
    · rw [y_inc (by omega), hy]
  have z0 : (0 : Int32).toInt = 0 := rfl
  unfold F_X12_toldOf
  obtain ⟨f, hf⟩ : ∃ f, (2147483647 - (0 : Int32).toInt).toNat + 1 = f + 1 + 1 + 1 + 1 + 1 + 1 + 1 := ⟨(2147483647 - (0 : Int32).toInt).toNat + 1 - 7, by rw [z0]; omega⟩
  rw [hf]
  obtain ⟨x1, y1, e1, hx1, hy1⟩ := st (f + 1 + 1 + 1 + 1 + 1 + 1) 0 0 0 0 z0 (by decide) (by decide) z0 (by decide) (by decide) d0 (by omega)
  obtain ⟨x2, y2, e2, hx2, hy2⟩ := st (f + 1 + 1 + 1 + 1 + 1) x1 y1 1 _ hy1 (by decide) (by decide) hx1 (by omega) (by omega) d1 (by omega)
  obtain ⟨x3, y3, e3, hx3, hy3⟩ := st (f + 1 + 1 + 1 + 1) x2 y2 2 _ hy2 (by decide) (by decide) hx2 (by omega) (by omega) d2 (by omega)
  obtain ⟨x4, y4, e4, hx4, hy4⟩ := st (f + 1 + 1 + 1) x3 y3 3 _ hy3 (by decide) (by decide) hx3 (by omega) (by omega) d3 (by omega)
  obtain ⟨x5, y5, e5, hx5, hy5⟩ := st (f + 1 + 1) x4 y4 4 _ hy4 (by decide) (by decide) hx4 (by omega) (by omega) d4 (by omega)
  obtain ⟨x6, y6, e6, hx6, hy6⟩ := st (f + 1) x5 y5 5 _ hy5 (by decide) (by decide) hx5 (by omega) (by omega) d5 (by omega)
  rw [e1, e2, e3, e4, e5, e6, F_X12_toldOf_L4_1_s]
  unfold F_X12_toldOf_B4_1
  rw [hy6, if_neg (by decide), hx6]
  omega
end TH
end
/-! FROM 48p.rdhand.lean.txt -/
section
/-! A HAND READ -/
/-- the reference's hand, stretch by stretch -/
noncomputable def tm_h3 (X : XW) (a : Nat) (r_4 r_8 f_14 r_18 : Int32) (σ_19 : ST) : ST :=
  q_let ((10 : Int32) * r_4 : Int32) (fun z_20 => q_let (z_20 + r_18 : Int32) (fun z_21 => q_let (σ_19.1 a 12 : Int32) (fun f_22 => if f_22.toInt = 0 then q_let (σ_19.1 (q_rf X a 22) z_21.toNatClampNeg : Int32) (fun f_29 => if f_29.toInt = 1 then q_let (F_X12_fail X σ_19 a (5 : Int32) f_14 : ST) (fun σ_33 => q_let (σ_33.1 a 12 : Int32) (fun f_34 => if 0 < f_34.toInt then σ_33 else q_let (q_si σ_33 (q_rf X a 22) z_21.toNatClampNeg (1 : Int32) : ST) (fun σ_36 => q_let ((3754 : Int32) + z_21 : Int32) (fun z_37 => q_let (q_si σ_36 (q_rf X a 20) z_37.toNatClampNeg r_8 : ST) (fun σ_38 => σ_38))))) else q_let (F_X12_toldOf X σ_19 a r_18 : Int32) (fun r_39 => q_let (r_39 + r_8 : Int32) (fun z_41 => q_let (σ_19.1 (q_rf X a 20) (3721 : Int32).toNatClampNeg : Int32) (fun f_42 => if f_42.toInt < z_41.toInt then q_let (F_X12_fail X σ_19 a (5 : Int32) f_14 : ST) (fun σ_51 => q_let (σ_51.1 a 12 : Int32) (fun f_52 => if 0 < f_52.toInt then σ_51 else q_let (q_si σ_51 (q_rf X a 22) z_21.toNatClampNeg (1 : Int32) : ST) (fun σ_54 => q_let ((3754 : Int32) + z_21 : Int32) (fun z_55 => q_let (q_si σ_54 (q_rf X a 20) z_55.toNatClampNeg r_8 : ST) (fun σ_56 => σ_56))))) else q_let (σ_19.1 a 12 : Int32) (fun f_44 => if 0 < f_44.toInt then σ_19 else q_let (q_si σ_19 (q_rf X a 22) z_21.toNatClampNeg (1 : Int32) : ST) (fun σ_46 => q_let ((3754 : Int32) + z_21 : Int32) (fun z_47 => q_let (q_si σ_46 (q_rf X a 20) z_47.toNatClampNeg r_8 : ST) (fun σ_48 => σ_48)))))))) else q_let (σ_19.1 a 12 : Int32) (fun f_24 => if 0 < f_24.toInt then σ_19 else q_let (q_si σ_19 (q_rf X a 22) z_21.toNatClampNeg (1 : Int32) : ST) (fun σ_26 => q_let ((3754 : Int32) + z_21 : Int32) (fun z_27 => q_let (q_si σ_26 (q_rf X a 20) z_27.toNatClampNeg r_8 : ST) (fun σ_28 => σ_28)))))))
noncomputable def tm_h2 (X : XW) (a : Nat) (r_4 r_8 : Int32) (σ_9 : ST) : ST :=
  q_let (F_X12_isOf X σ_9 a : Int32) (fun r_10 => q_let (F_X12_must X σ_9 a r_10 : ST) (fun σ_13 => q_let (σ_13.1 a 15 : Int32) (fun f_14 => q_let (σ_13.1 (q_rf X a 20) (3720 : Int32).toNatClampNeg : Int32) (fun f_15 => q_let (f_15 - (1 : Int32) : Int32) (fun z_16 => q_bi (F_X12_count X σ_13 a (0 : Int32) z_16) (fun r_18 σ_19 => tm_h3 X a r_4 r_8 f_14 r_18 σ_19))))))
noncomputable def tm_h1 (X : XW) (a : Nat) (r_4 : Int32) (σ_5 : ST) : ST :=
  q_bi (F_X12_count X σ_5 a (0 : Int32) (8 : Int32)) (fun r_8 σ_9 => tm_h2 X a r_4 r_8 σ_9)
theorem tm_hE (X : XW) (τ : ST) (a : Nat) : F_X12_readHand X τ a = q_let (F_X12_next X τ a : ST) (fun σ_2 => q_bi (F_X12_readTold X σ_2 a (4 : Int32)) (fun r_4 σ_5 => tm_h1 X a r_4 σ_5)) := rfl
section TI
variable {X : XW} {lb : Nat → Nat} {D T g a : Nat} {σ τ σ' τ' σ1 τ1 : ST} {n : Int} {B : Int → Int} {V : Nat → Int → Int} {r c w t : Int → Int} {f9 f10 : Int}
theorem tm_h3a (h : 0 < (τ.1 a 12).toInt) (y r8 f14 k : Int32) : tm_h3 X a y r8 f14 k τ = τ := by
  unfold tm_h3
  rw [q_letE, q_letE, q_letE, if_neg (by omega), q_letE, if_pos h]
theorem tm_h2a (h : 0 < (τ.1 a 12).toInt) (y r8 : Int32) : tm_h2 X a y r8 τ = τ := by
  unfold tm_h2
  rw [q_letE, q_letE, tm_must2 h, q_letE, q_letE, q_letE, tm_count2 h, q_biP, tm_h3a h]
theorem tm_h1a (h : 0 < (τ.1 a 12).toInt) (y : Int32) : tm_h1 X a y τ = τ := by
  unfold tm_h1
  rw [tm_count2 h, q_biP, tm_h2a h]
/-- a fault at a token that the reference has passed already -/
theorem tl_fail3 {R : Nat} (K : tl_K σ R τ a B n) (h4 : (τ.1 a 14).toInt ≠ 4) (h : (τ'.1 a 12).toInt = 0) {k : Int32} (hk : 0 < k.toInt) {w : Int32} (hw : w.toInt = (τ.1 a 15).toInt) : ∃ σ' : ST, F_X3_fails X σ R k = (0, σ') ∧ tk (tc_S2 R) σ σ' ∧ tkl (tn_S2 a) (tn_L a) τ' (F_X12_fail X τ' a k w) ∧ tl_F σ' R (F_X12_fail X τ' a k w) a := by
  obtain ⟨k1, k2, k3, -⟩ := id K
  obtain ⟨σ', a1, a2, a3, a4⟩ := tc_fails (X := X) (σ := σ) (R := R) k
  obtain ⟨b1, b2, b3⟩ := tm_fail (X := X) h k w
  have q : ¬ (σ.1 R 4).toInt = 4 := by rw [k3]; exact h4
  rw [if_neg q] at a3
  exact ⟨σ', a1, a2, b1, by rw [a3, b2], by rw [b2]; exact hk, by rw [a4, b3, k1, hw]⟩
theorem tb_addE (H : tb_D X lb D T g) {x v : Int32} {p : Int} (hx : x.toInt = p) (hp : 0 ≤ p ∧ p < 6) : F_X5_add X σ (q_rf X D 11) x v = q_si σ (tb_T X D) x.toNatClampNeg (σ.1 (tb_T X D) x.toNatClampNeg + v) := by
  simp only [F_X5_add, ↓q_letE]
  have hl : (q_len X (q_rf X (q_rf X D 11) 0)).toInt = 6 := by
    unfold q_len
    have : q_ln X (q_rf X (q_rf X D 11) 0) = 6 := H.2.2.2.2.2.2.2.1
    rw [this]
    rfl
  rw [hl, hx, if_neg (by omega), if_pos (by omega)]
  rfl
theorem m_cell {k p : Int} (mn : m_N c) (hp : 0 ≤ p ∧ p < 6) (hk : 0 ≤ k ∧ k < 10) : 0 ≤ c (3754 + 10 * p + k) ∧ c (3754 + 10 * p + k) ≤ 8 := by
  have hs := mn.2.2.2.2.2.2.2.2.1 k hk.1 hk.2
  rw [m_sum_e] at hs
  have hc := mn.2.2.2.2.2.2.2.1
  have d0 := hc (3754 + 10 * 0 + k) (by omega) (by omega)
  have d1 := hc (3754 + 10 * 1 + k) (by omega) (by omega)
  have d2 := hc (3754 + 10 * 2 + k) (by omega) (by omega)
  have d3 := hc (3754 + 10 * 3 + k) (by omega) (by omega)
  have d4 := hc (3754 + 10 * 4 + k) (by omega) (by omega)
  have d5 := hc (3754 + 10 * 5 + k) (by omega) (by omega)
  clear hc mn
  rcases (by omega : p = 0 ∨ p = 1 ∨ p = 2 ∨ p = 3 ∨ p = 4 ∨ p = 5) with rfl | rfl | rfl | rfl | rfl | rfl <;> omega
theorem m_S_b {b : Int} : ∀ N : Nat, (∀ j : Int, b ≤ j → j < b + (N : Int) → 0 ≤ c j ∧ c j ≤ 8) → 0 ≤ m_S c b N ∧ m_S c b N ≤ 8 * (N : Int) := by
  intro N
  induction N with
  | zero => intro _; exact ⟨Int.le_refl _, Int.le_refl _⟩
  | succ N ih =>
    intro h
    have i := ih (fun j a1 a2 => h j a1 (by omega))
    have d := h (b + (N : Int)) (by omega) (by omega)
    show 0 ≤ m_S c b N + c (b + (N : Int)) ∧ m_S c b N + c (b + (N : Int)) ≤ _
    omega
theorem tb_bits_b {p : Int} (ht : ∀ i : Int, 0 ≤ i → i < 10 → t (10 * p + i) = 0 ∨ t (10 * p + i) = 1) : 0 ≤ tb_bits t p ∧ tb_bits t p ≤ 1023 := by
  have b : ∀ i : Int, 0 ≤ i → i < 10 → 0 ≤ t (10 * p + i) ∧ t (10 * p + i) ≤ 1 := fun i i0 i1 => by rcases ht i i0 i1 with h | h <;> rw [h] <;> decide
  have b0 := b 0 (by decide) (by decide)
  rw [Int.add_zero] at b0
  have b1 := b 1 (by decide) (by decide)
  have b2 := b 2 (by decide) (by decide)
  have b3 := b 3 (by decide) (by decide)
  have b4 := b 4 (by decide) (by decide)
  have b5 := b 5 (by decide) (by decide)
  have b6 := b 6 (by decide) (by decide)
  have b7 := b 7 (by decide) (by decide)
  have b8 := b 8 (by decide) (by decide)
  have b9 := b 9 (by decide) (by decide)
  clear b ht
  unfold tb_bits
  omega
/-- the class's table and hands take the cards told -/
theorem tb_deal (Y : y_S X lb) (G : y_G X lb g 6) (W : y_W X lb g 6 σ1 σ V) {z f v : Int32} {p k : Int} (hz : z.toInt = p) (hf : f.toInt = k) (hp : 0 ≤ p ∧ p < 6) (hk : 0 ≤ k ∧ k < 10) (hv : 0 ≤ v.toInt ∧ v.toInt ≤ 8) (b4 : 0 ≤ V 4 k ∧ V 4 k ≤ 100) (b7 : 0 ≤ V 7 (10 * p + k) ∧ V 7 (10 * p + k) ≤ 100) (b9 : 0 ≤ V 9 p ∧ V 9 p ≤ 100) :
    y_W X lb g 6 σ1 (F_X1_deal X (F_X5_add X σ (q_rf X (q_rf X g 0) 5) f v) (q_rf X g 1) z f v) (y_up (y_up (y_up V 4 k (V 4 k + v.toInt)) 7 (10 * p + k) (V 7 (10 * p + k) + v.toInt)) 9 p (V 9 p + v.toInt)) := by
  have e10 : (10 : Int32).toInt = 10 := rfl
  have gn4 : ((y_gn 4 : Nat) : Int) = 10 := rfl
  have gn7 : ((y_gn 7 : Nat) : Int) = 60 := rfl
  have gn9 : ((y_gn 9 : Nat) : Int) = 6 := rfl
  have W1 := W.add Y G (id := 4) (r := q_rf X (q_rf X g 0) 5) ⟨by decide, by decide⟩ rfl f v (by omega) (by rw [gn4]; omega)
  rw [hf, ar_wr (by omega) (by omega)] at W1
  obtain ⟨σ2, hσ2⟩ : ∃ s, s = F_X5_add X σ (q_rf X (q_rf X g 0) 5) f v := ⟨_, rfl⟩
  rw [← hσ2] at W1 ⊢
  have ei : (z * 10 + f).toInt = 10 * p + k := by
    rw [ar_add, ar_mul, hz, hf, e10, ar_wr (n := p * 10) (by omega) (by omega), ar_wr (by omega) (by omega)]
    omega
  have W2 := W1.add Y G (id := 7) (r := q_rf X (q_rf X g 1) 0) ⟨by decide, by decide⟩ rfl (z * 10 + f) v (by omega) (by rw [gn7]; omega)
  rw [ei, y_up_ne (Or.inl (by decide)), ar_wr (by omega) (by omega)] at W2
  unfold F_X1_deal
  rw [q_letE, q_letE, q_letE, q_letE]
  obtain ⟨σ3, hσ3⟩ : ∃ s, s = F_X5_add X σ2 (q_rf X (q_rf X g 1) 0) (z * 10 + f) v := ⟨_, rfl⟩
  rw [← hσ3] at W2 ⊢
  have W3 := W2.add Y G (id := 9) (r := q_rf X (q_rf X g 1) 2) ⟨by decide, by decide⟩ rfl z v (by omega) (by rw [gn9]; omega)
  rw [hz, y_up_ne (Or.inl (by decide)), y_up_ne (Or.inl (by decide)), ar_wr (by omega) (by omega)] at W3
  exact W3
set_option maxHeartbeats 1000000 in
theorem tb_readHand (Y : y_S X lb) (H : tb_D X lb D T g) (ha : q_kd X a = 12) (I : tb_I X D T g a n B σ τ V r c w t f9 f10) (h1 : (τ.1 a 14).toInt = 1) :
    ∃ (z : Int32) (σ' : ST), F_X9_readHand X σ D = (z, σ') ∧ tb_O X lb D T g a n B σ τ σ' (F_X12_must X (F_X12_readHand X τ a) a (F_X12_isSign X (F_X12_readHand X τ a) a 59)) z := by
  obtain ⟨S, M, K, h0, Rr⟩ := I
  have kb := K.b
  have hDn : lb D / 8192 ≠ 6 := by have := H.2.2.2.1; omega
  obtain ⟨b0, b1, b4, b20, b21, b22⟩ := Rr.b
  obtain ⟨t1, t2, t3⟩ := Rr.2.2.2.1
  have mn := Rr.2.2.2.2.1
  unfold F_X9_readHand
  rw [tm_hE, ← H.2.1, q_letE, q_letE]
  obtain ⟨c1, m1, K2, g2⟩ := tl_adv2 S.1 M.1 K
  obtain ⟨S2, f2⟩ := S.rd Y H c1.S2
  have M2 := M.rd Y.1 ha m1.S2
  have h02 : ((F_X12_next X τ a).1 a 12).toInt = 0 := by rw [tn_12 m1]; exact h0
  obtain ⟨σb, hσb⟩ : ∃ s, s = F_X3_advance X σ D := ⟨_, rfl⟩
  obtain ⟨τb, hτb⟩ : ∃ s, s = F_X12_next X τ a := ⟨_, rfl⟩
  rw [← hσb] at S2 f2 K2 ⊢
  rw [← hτb] at M2 K2 g2 h02 ⊢
  have k2b := K2.b
  have nmw : y_nm V (m_wd X τb a) (6 * 4) (c 3722) := by
    rw [M2.2.2.1]
    exact Rr.2.2.1
  obtain ⟨z, y, σc, τc, e1, e2, ⟨o1, o2, o3⟩, v1, v2⟩ := tl_passPlayer Y H.2.2.1 ((y_W.rf (lb := lb) (o := 6) (σ := σb)).eq S2.2.1) S2.1 M2.1 K2 h02 (v := 4) (bl := 4) rfl ⟨by decide, by decide⟩ (P := c 3722) (by rw [M2.2.1]; rfl) b22 b4 nmw
  obtain ⟨S3, f3⟩ := S2.rd Y H o1
  have M3 := M2.rd Y.1 ha o2
  rw [e1, q_biP z σc, e2, q_biP y τc]
  rcases o3 with ⟨q1, K3, h03, g3⟩ | ⟨q1, q2⟩
  · obtain ⟨ev, y0, yP⟩ := v1 q1
    have ezy : z = y := Int32.toInt_inj.mp ev
    rw [if_neg q1, ← ezy]
    rw [← ev] at y0 yP
    clear v1 v2
    have k3b := K3.b
    unfold tm_h1
    obtain ⟨z2, w2, σd, τd, e3, e4, ⟨o4, o5, o6⟩, v3, v4⟩ := tl_passNum S3.1 M3.1 K3 h03 0 8 (by decide)
    obtain ⟨S4, f4⟩ := S3.rd Y H o4
    have M4 := M3.rd Y.1 ha o5
    rw [e3, q_biP z2 σd, e4, q_biP w2 τd]
    rcases o6 with ⟨q3, K4, h04, g4⟩ | ⟨q3, q4⟩
    · obtain ⟨ev2, z20, z28⟩ := v3 q3
      have ez2 : z2 = w2 := Int32.toInt_inj.mp ev2
      rw [if_neg q3, ← ez2]
      have z20' : 0 ≤ z2.toInt := by rw [ev2]; exact z20
      have z28' : z2.toInt ≤ 8 := by rw [ev2]; exact z28
      clear v3 v4
      have k4b := K4.b
      unfold tm_h2
      rw [q_letE (F_X12_isOf X τd a)]
      obtain ⟨z3, σe, e5, hz3, ⟨o7, o8, o9⟩⟩ := tl_passWord S4.1 M4.1 K4 h04 (r := 12) ⟨by decide, by decide⟩ (v := F_X12_isOf X τd a) tm_isOf
      obtain ⟨S5, f5⟩ := S4.rd Y H o7
      have M5 := M4.rd Y.1 ha o8
      rw [e5, q_biP z3 σe, q_letE (F_X12_must X τd a (F_X12_isOf X τd a))]
      obtain ⟨τe, hτe⟩ : ∃ s, s = F_X12_must X τd a (F_X12_isOf X τd a) := ⟨_, rfl⟩
      rw [← hτe] at M5 o9 ⊢
      rcases o9 with ⟨q5, K5, h05, g5⟩ | ⟨q5, q6⟩
      · rw [if_neg (by omega : ¬ z3.toInt = 0)]
        have k5b := K5.b
        have pc : (σe.1 (q_rf X g 0) 0).toInt = c 3720 := by
          have zz := y_v_rdn (X := X) (g := g) (σ := σe) (id := 1) (by decide) 0
          rw [S5.2.1] at zz
          exact zz.trans b0
        have pm : (τe.1 (q_rf X a 20) (3720 : Int32).toNatClampNeg).toInt = c 3720 := by
          have zz := m_rd (X := X) (σ := τe) (a := a) (i := 3720) (A := 3720) rfl rfl
          rw [M5.2.1] at zz
          exact zz
        have epk : τe.1 (q_rf X a 20) (3720 : Int32).toNatClampNeg = σe.1 (q_rf X g 0) 0 := Int32.toInt_inj.mp (pm.trans pc.symm)
        rw [q_letE (τe.1 a 15), q_letE (τe.1 (q_rf X a 20) (3720 : Int32).toNatClampNeg), epk, q_letE (σe.1 (q_rf X g 0) 0), q_letE (σe.1 (q_rf X g 0) 0 - 1), q_letE (σe.1 (q_rf X g 0) 0 - 1)]
        have hhi : (σe.1 (q_rf X g 0) 0 - 1).toInt = c 3720 - 1 := by
          have one : (1 : Int32).toInt = 1 := rfl
          rw [ar_sub, pc, one, ar_wr (by omega) (by omega)]
        obtain ⟨hi, ehi⟩ : ∃ s, s = σe.1 (q_rf X g 0) 0 - 1 := ⟨_, rfl⟩
        rw [← ehi] at hhi ⊢
        rcases tl_mustNum S5.1 M5.1 K5 h05 0 hi with ⟨x1, x2, x3, e6, e7⟩ | ⟨σ', v, τ', e6, e7, x1, x2, x3⟩
        · rw [e6, q_biP 1 σe, e7, q_biP (τe.1 a 17) (F_X12_next X τe a), if_neg (by decide : ¬ (1 : Int32).toInt = 0)]
          have fk0 := K5.2.2.2.1 x1
          have efk : τe.1 a 17 = σe.1 D 5 := Int32.toInt_inj.mp fk0.symm
          obtain ⟨k, hk⟩ : ∃ s, s = (τe.1 a 17).toInt := ⟨_, rfl⟩
          rw [← hk] at fk0 x2 x3
          have kr : 0 ≤ k ∧ k < 10 := ⟨x2, by omega⟩
          rw [efk, q_letE (σe.1 D 5)]
          obtain ⟨f, hf⟩ : ∃ s, s = σe.1 D 5 := ⟨_, rfl⟩
          rw [← hf] at fk0 ⊢
          have pr : 0 ≤ z.toInt ∧ z.toInt < 6 := ⟨y0, by omega⟩
          have gz := tb_S.get H S5 (x := z) (p := z.toInt) rfl pr
          have tt : ∀ i : Int, 0 ≤ i → i < 10 → t (10 * z.toInt + i) = 0 ∨ t (10 * z.toInt + i) = 1 := fun i i0 i1 => (t1 (10 * z.toInt + i) (by omega) (by omega)).1
          have rb := tb_bits_b tt
          have rp := t2 z.toInt pr.1 pr.2
          have bit := tb_bit (f := f) (gz.trans rp) fk0 kr tt
          rw [q_letE (F_X5_get X σe (q_rf X D 11) z), q_letE, q_letE, bit]
          obtain ⟨c6, m6, K6, g6⟩ := tl_adv2 S5.1 M5.1 K5
          have M6 := M5.rd Y.1 ha m6.S2
          have h06 : ((F_X12_next X τe a).1 a 12).toInt = 0 := by rw [tn_12 m6]; exact h05
          obtain ⟨τf, hτf⟩ : ∃ s, s = F_X12_next X τe a := ⟨_, rfl⟩
          rw [← hτf] at M6 K6 g6 h06 m6 ⊢
          have i21 : ((10 : Int32) * z + f).toInt = 10 * z.toInt + k := by
            have e10 : (10 : Int32).toInt = 10 := rfl
            rw [ar_add, ar_mul, fk0, e10, ar_wr (n := 10 * z.toInt) (by omega) (by omega), ar_wr (by omega) (by omega)]
          have tv : (τf.1 (q_rf X a 22) ((10 : Int32) * z + f).toNatClampNeg).toInt = t (10 * z.toInt + k) := by
            rw [ar_cl, i21]
            exact M6.2.2.2.1 _ (by omega) (by omega)
          have h15 : (τe.1 a 14).toInt ≠ 4 := by omega
          have bad := tl_fail3 (X := X) (τ' := τf) K5 h15 h06 (k := 5) (by decide) (w := τe.1 a 15) rfl
          have pf : tb_P X a τ τf := tb_P.mk M M6 (fun _ _ _ => rfl) (fun _ _ _ => rfl)
          have ff := ((f2.tr f3).tr f4).tr f5
          unfold tm_h3
          rw [q_letE ((10 : Int32) * z), q_letE ((10 : Int32) * z + f), q_letE (τf.1 a 12), h06, if_pos (Eq.refl (0 : Int)), q_letE (τf.1 (q_rf X a 22) ((10 : Int32) * z + f).toNatClampNeg), tv]
          by_cases qt : t (10 * z.toInt + k) = 0
          · rw [if_pos qt, if_neg (by omega : ¬ t (10 * z.toInt + k) = 1)]
            unfold F_X9_readHand_J92_1
            rw [← H.2.1, if_pos (by decide : (0 : Int32).toInt = 0)]
            have n4 : V 4 k = m_sum c 3720 k := Rr.1.2.1 k kr.1 kr.2
            have ms := mn.2.2.2.2.2.2.2.2.1 k kr.1 kr.2
            have ms0 : 0 ≤ m_sum c 3720 k := by
              rw [m_sum_e]
              have d0 := (m_cell (p := 0) mn ⟨by decide, by decide⟩ kr).1
              have d1 := (m_cell (p := 1) mn ⟨by decide, by decide⟩ kr).1
              have d2 := (m_cell (p := 2) mn ⟨by decide, by decide⟩ kr).1
              have d3 := (m_cell (p := 3) mn ⟨by decide, by decide⟩ kr).1
              have d4 := (m_cell (p := 4) mn ⟨by decide, by decide⟩ kr).1
              have d5 := (m_cell (p := 5) mn ⟨by decide, by decide⟩ kr).1
              omega
            have gn4 : ((y_gn 4 : Nat) : Int) = 10 := rfl
            have gd : (F_X5_get X σe (q_rf X (q_rf X g 0) 5) f).toInt = m_sum c 3720 k := (y_getI Y H.2.2.1 ((y_W.rf (lb := lb) (o := 6) (σ := σe)).eq S5.2.1) (id := 4) ⟨by decide, by decide⟩ rfl fk0 kr.1 (by rw [gn4]; exact kr.2)).trans n4
            have gt := tm_toldOf (X := X) M6.2.1 mn (v := f) fk0 kr
            have sc : (F_X5_get X σe (q_rf X (q_rf X g 0) 5) f + z2).toInt = m_sum c 3720 k + z2.toInt := by rw [ar_add, gd, ar_wr (by omega) (by omega)]
            have sm : (F_X12_toldOf X τf a f + z2).toInt = m_sum c 3720 k + z2.toInt := by rw [ar_add, gt, ar_wr (by omega) (by omega)]
            have pe1 : (σe.1 (q_rf X g 0) 1).toInt = c 3721 := by
              have zz := y_v_rdn (X := X) (g := g) (σ := σe) (id := 1) (by decide) 1
              rw [S5.2.1] at zz
              exact zz.trans b1
            have pe2 : (τf.1 (q_rf X a 20) (3721 : Int32).toNatClampNeg).toInt = c 3721 := by
              have zz := m_rd (X := X) (σ := τf) (a := a) (i := 3721) (A := 3721) rfl rfl
              rw [M6.2.1] at zz
              exact zz
            rw [q_letE (F_X5_get X σe (q_rf X (q_rf X g 0) 5) f), q_letE (F_X5_get X σe (q_rf X (q_rf X g 0) 5) f + z2), q_letE (σe.1 (q_rf X g 0) 1), q_letE (F_X12_toldOf X τf a f), q_letE (F_X12_toldOf X τf a f + z2), q_letE (τf.1 (q_rf X a 20) (3721 : Int32).toNatClampNeg), sc, pe1, sm, pe2]
            by_cases qs : c 3721 < m_sum c 3720 k + z2.toInt
            · obtain ⟨σ', a1, a2, a3, a4⟩ := bad
              rw [if_pos qs, if_pos qs, a1, q_biP, q_letE (F_X12_fail X τf a 5 (τe.1 a 15)), q_letE ((F_X12_fail X τf a 5 (τe.1 a 15)).1 a 12), if_pos a4.2.1]
              exact ⟨0, σ', rfl, tb_O.bad (ff.tr (S5.rd Y H a2).2) (pf.tr (tb_P.rd Y.1 ha a3)) rfl a4 _⟩
            · clear bad
              have i37 : ((3754 : Int32) + ((10 : Int32) * z + f)).toInt = 3754 + (10 * z.toInt + k) := by
                have e3 : (3754 : Int32).toInt = 3754 := rfl
                rw [ar_add, i21, e3, ar_wr (by omega) (by omega)]
              rw [if_neg qs, if_neg qs, q_letE (τf.1 a 12), h06, if_neg (by decide : ¬ (0 : Int) < 0), q_letE (q_si τf (q_rf X a 22) ((10 : Int32) * z + f).toNatClampNeg 1), q_letE ((3754 : Int32) + ((10 : Int32) * z + f)), q_letE (q_si (q_si τf (q_rf X a 22) ((10 : Int32) * z + f).toNatClampNeg 1) (q_rf X a 20) ((3754 : Int32) + ((10 : Int32) * z + f)).toNatClampNeg z2)]
              obtain ⟨M7, sm7⟩ := M6.told Y.1 ha (i := (10 : Int32) * z + f) (v := 1) i21 ⟨by omega, by omega⟩
              have one : (1 : Int32).toInt = 1 := rfl
              rw [one] at M7
              obtain ⟨τg, hτg⟩ : ∃ s, s = q_si τf (q_rf X a 22) ((10 : Int32) * z + f).toNatClampNeg 1 := ⟨_, rfl⟩
              rw [← hτg] at M7 sm7 ⊢
              obtain ⟨M8, sm8⟩ := M7.cw Y.1 ha (i := (3754 : Int32) + ((10 : Int32) * z + f)) (v := z2) i37 (by omega)
              obtain ⟨τh, hτh⟩ : ∃ s, s = q_si τg (q_rf X a 20) ((3754 : Int32) + ((10 : Int32) * z + f)).toNatClampNeg z2 := ⟨_, rfl⟩
              rw [← hτh] at M8 sm8 ⊢
              -- the class
              have pw := tb_pw_b kr
              obtain ⟨S6, f6⟩ := S5.told Y H (x := z) (v := (1 : Int32) <<< (f &&& 31)) (p := z.toInt) rfl pr (s := r z.toInt + tb_pw k) (by rw [tb_shl fk0 kr, ar_wr (by omega) (by omega)])
              have sC6 : tl_sameC D σe (F_X5_add X σe (q_rf X D 11) z ((1 : Int32) <<< (f &&& 31))) := fun j _ _ => by
                rw [tb_addE H (p := z.toInt) rfl pr]
                exact q_si_ne (Ne.symm (tb_TD H)) j
              rw [q_letE ((1 : Int32) <<< (f &&& 31)), q_letE (F_X5_add X σe (q_rf X D 11) z ((1 : Int32) <<< (f &&& 31)))]
              obtain ⟨σg, hσg⟩ : ∃ s, s = F_X5_add X σe (q_rf X D 11) z ((1 : Int32) <<< (f &&& 31)) := ⟨_, rfl⟩
              rw [← hσg] at S6 f6 sC6 ⊢
              have n7 : V 7 (10 * z.toInt + k) = c (3754 + (10 * z.toInt + k)) := Rr.1.2.2.1 _ (by omega) (by omega)
              have c0 : c (3754 + (10 * z.toInt + k)) = 0 := (t1 _ (by omega) (by omega)).2 qt
              have n9 : V 9 z.toInt = m_S c (3754 + 10 * z.toInt) 10 := Rr.1.2.2.2.1 z.toInt pr.1 pr.2
              have ten : ((10 : Nat) : Int) = 10 := rfl
              have b9 := m_S_b (c := c) (b := 3754 + 10 * z.toInt) 10 (fun j a1 a2 => by
                rw [ten] at a2
                have := m_cell (p := z.toInt) (k := j - (3754 + 10 * z.toInt)) mn pr ⟨by omega, by omega⟩
                have ej : 3754 + 10 * z.toInt + (j - (3754 + 10 * z.toInt)) = j := by omega
                rw [ej] at this
                exact this)
              rw [ten, ← n9] at b9
              have W := tb_deal Y H.2.2.1 ((y_W.rf (lb := lb) (o := 6) (σ := σg)).eq S6.2.1) (z := z) (f := f) (v := z2) (p := z.toInt) (k := k) rfl fk0 pr kr ⟨z20', z28'⟩ ⟨by omega, by omega⟩ ⟨by omega, by omega⟩ ⟨by omega, by omega⟩
              obtain ⟨S7, f7⟩ := S6.gm Y H W
              rw [q_letE (F_X5_add X σg (q_rf X (q_rf X g 0) 5) f z2), q_letE (F_X1_deal X (F_X5_add X σg (q_rf X (q_rf X g 0) 5) f z2) (q_rf X g 1) z f z2)]
              have sC7 := tl_sameC.W W hDn
              obtain ⟨σh, hσh⟩ : ∃ s, s = F_X1_deal X (F_X5_add X σg (q_rf X (q_rf X g 0) 5) f z2) (q_rf X g 1) z f z2 := ⟨_, rfl⟩
              rw [← hσh] at S7 f7 sC7 ⊢
              have K7 : tl_K σh D τe a B n := (K5.same sC6 tl_same.rf).same sC7 tl_same.rf
              obtain ⟨c9, m9, K9, g9⟩ := tl_adv2 S7.1 M5.1 K7
              rw [← hτf] at K9 m9 g9
              obtain ⟨S9, f9'⟩ := S7.rd Y H c9.S2
              rw [q_letE (F_X3_advance X σh D)]
              obtain ⟨σi, hσi⟩ : ∃ s, s = F_X3_advance X σh D := ⟨_, rfl⟩
              rw [← hσi] at S9 f9' K9 ⊢
              have K10 : tl_K σi D τh a B n := (K9.same tl_sameC.rf sm7).same tl_sameC.rf sm8
              have h010 : (τh.1 a 12).toInt = 0 := by rw [sm8.1 12 (by decide) (by decide), sm7.1 12 (by decide) (by decide)]; exact h06
              have R10 := Rr.hand (p := z.toInt) (k := k) (v := z2.toInt) (s := r z.toInt + tb_pw k) ⟨pr.1, yP⟩ ⟨kr.1, by omega⟩ z20' qt (by omega) rfl
              have pP : tb_P X a τ τh := tb_P.mk M M8 (fun j a1 a2 => m_up_ne (by omega)) (fun _ _ _ => rfl)
              have e15 : τh.1 a 15 = τf.1 a 15 := (sm8.1 15 (by decide) (by decide)).trans (sm7.1 15 (by decide) (by decide))
              have k10b := K10.b
              have k6b := K6.b
              obtain ⟨z', σ2, e9, o⟩ := tb_semi Y H ha (σ := σ) (τ := τ) ⟨S9, M8, K10, h010, R10⟩ (((ff.tr f6).tr f7).tr f9') pP (by rw [e15]; omega) (by rw [e15] at k10b; omega)
              rw [e9, q_biP z' σ2]
              exact ⟨z', σ2, rfl, o⟩
          · have qt1 : t (10 * z.toInt + k) = 1 := (tt k kr.1 kr.2).resolve_left qt
            obtain ⟨σ', a1, a2, a3, a4⟩ := bad
            rw [if_neg qt, if_pos qt1]
            unfold F_X9_readHand_J92_1
            rw [if_neg (by decide : ¬ (1 : Int32).toInt = 0), a1, q_biP, q_letE (F_X12_fail X τf a 5 (τe.1 a 15)), q_letE ((F_X12_fail X τf a 5 (τe.1 a 15)).1 a 12), if_pos a4.2.1]
            exact ⟨0, σ', rfl, tb_O.bad (ff.tr (S5.rd Y H a2).2) (pf.tr (tb_P.rd Y.1 ha a3)) rfl a4 _⟩
        · rw [e6, q_biP 0 σ', e7, q_biP 0 τ', if_pos (by decide : (0 : Int32).toInt = 0), tm_h3a x3.2.1]
          exact ⟨0, σ', rfl, tb_O.bad ((((f2.tr f3).tr f4).tr f5).tr (S5.rd Y H x1).2) ((tb_P.mk M M5 (fun _ _ _ => rfl) (fun _ _ _ => rfl)).tr (tb_P.rd Y.1 ha x2)) rfl x3 _⟩
      · have hz30 : z3.toInt = 0 := by
          rcases hz3 with h | h
          · exact h
          · exact absurd h q5
        rw [if_pos hz30, q_letE, q_letE, q_letE, tm_count2 q6.2.1, q_biP, tm_h3a q6.2.1]
        exact ⟨0, σe, rfl, tb_O.bad (((f2.tr f3).tr f4).tr f5) (tb_P.mk M M5 (fun _ _ _ => rfl) (fun _ _ _ => rfl)) rfl q6 _⟩
    · have qz : z2.toInt = -1 := Classical.not_not.mp q3
      rw [if_pos qz, tm_h2a q4.2.1]
      exact ⟨0, σd, rfl, tb_O.bad ((f2.tr f3).tr f4) (tb_P.mk M M4 (fun _ _ _ => rfl) (fun _ _ _ => rfl)) rfl q4 _⟩
  · have qz : z.toInt = -1 := Classical.not_not.mp q1
    rw [if_pos qz, tm_h1a q2.2.1]
    exact ⟨0, σc, rfl, tb_O.bad (f2.tr f3) (tb_P.mk M M3 (fun _ _ _ => rfl) (fun _ _ _ => rfl)) rfl q2 _⟩
end TI
end
/-! FROM 48q.rdpart.lean.txt -/
section
/-! A PART READ, ALL PARTS, THE HEAD -/
noncomputable def tm_part (X : XW) (τ : ST) (a : Nat) : ST :=
  if (F_X12_isLaw X τ a).toInt = 0 then if (F_X12_isMost X τ a).toInt = 0 then if (F_X12_isPlayer X τ a).toInt = 0 then if (F_X12_isHand X τ a).toInt = 0 then F_X12_wrong X τ a else F_X12_readHand X τ a else F_X12_readPlayer X τ a else F_X12_readMost X τ a else F_X12_readLaw X τ a
theorem tm_E232 (X : XW) (τ : ST) (a : Nat) : F_X12_table_E232_7 X τ a = F_X12_table_E232_6 X τ a := rfl
section TJ
variable {X : XW} {lb : Nat → Nat} {D T g a : Nat} {σ τ σ' τ' σ1 τ1 : ST} {n : Int} {B : Int → Int} {V : Nat → Int → Int} {r c w t : Int → Int} {f9 f10 : Int}
theorem tm_B145 (Bf : ST → Int32 × ST) : F_X12_table_B145_5 X a Bf τ = if (τ.1 a 12).toInt = 0 then (if (τ.1 a 14).toInt = 0 then F_X12_table_E232_6 X τ a else Bf (F_X12_must X (tm_part X τ a) a (F_X12_isSign X (tm_part X τ a) a 59))) else F_X12_table_E232_6 X τ a := by
  unfold F_X12_table_B145_5
  rw [q_letE]
  by_cases h : (τ.1 a 12).toInt = 0
  · rw [if_pos h, if_pos h, q_letE]
    by_cases h2 : (τ.1 a 14).toInt = 0
    · rw [if_pos h2, if_pos h2, tm_E232]
    · rw [if_neg h2, if_neg h2, q_letE]
      unfold tm_part
      by_cases h3 : (F_X12_isLaw X τ a).toInt = 0
      · rw [if_pos h3, if_pos h3, q_letE]
        by_cases h4 : (F_X12_isMost X τ a).toInt = 0
        · rw [if_pos h4, if_pos h4, q_letE]
          by_cases h5 : (F_X12_isPlayer X τ a).toInt = 0
          · rw [if_pos h5, if_pos h5, q_letE]
            by_cases h6 : (F_X12_isHand X τ a).toInt = 0
            · rw [if_pos h6, if_pos h6, q_letE, q_letE, q_letE]
            · rw [if_neg h6, if_neg h6, q_letE, q_letE, q_letE]
          · rw [if_neg h5, if_neg h5, q_letE, q_letE, q_letE]
        · rw [if_neg h4, if_neg h4, q_letE, q_letE, q_letE]
      · rw [if_neg h3, if_neg h3, q_letE, q_letE, q_letE]
  · rw [if_neg h, if_neg h]
theorem tb_readPart (Y : y_S X lb) (H : tb_D X lb D T g) (ha : q_kd X a = 12) (I : tb_I X D T g a n B σ τ V r c w t f9 f10) :
    ∃ (z : Int32) (σ' : ST), F_X9_readPart X σ D = (z, σ') ∧ tb_O X lb D T g a n B σ τ σ' (F_X12_must X (tm_part X τ a) a (F_X12_isSign X (tm_part X τ a) a 59)) z := by
  obtain ⟨S, M, K, h0, Rr⟩ := id I
  have iw : ∀ rr : Nat, y_isw rr → (F_X3_isWord X σ D rr).toInt = if (τ.1 a 14).toInt = 1 ∧ (τ.2.1 a 19).toInt = y_cw rr then 1 else 0 := fun rr hr => tl_isWord S.1 K hr
  have cL : (F_X12_isLaw X τ a).toInt = if (τ.1 a 14).toInt = 1 ∧ (τ.2.1 a 19).toInt = y_cw 2 then 1 else 0 := tm_isLaw
  have cM : (F_X12_isMost X τ a).toInt = if (τ.1 a 14).toInt = 1 ∧ (τ.2.1 a 19).toInt = y_cw 6 then 1 else 0 := tm_isMost
  have cP : (F_X12_isPlayer X τ a).toInt = if (τ.1 a 14).toInt = 1 ∧ (τ.2.1 a 19).toInt = y_cw 7 then 1 else 0 := tm_isPlayer
  have cH : (F_X12_isHand X τ a).toInt = if (τ.1 a 14).toInt = 1 ∧ (τ.2.1 a 19).toInt = y_cw 11 then 1 else 0 := tm_isHand
  have z0 : (0 : Int) = 0 := rfl
  have z1 : ¬ (1 : Int) = 0 := by decide
  unfold F_X9_readPart tm_part
  rw [q_letE, iw 2 ⟨by decide, by decide⟩, cL]
  by_cases w2 : (τ.1 a 14).toInt = 1 ∧ (τ.2.1 a 19).toInt = y_cw 2
  · rw [if_pos w2, if_neg z1, if_neg z1]
    obtain ⟨z, σ', e, o⟩ := tb_readLaw Y H ha I w2.1
    rw [e, q_biP]
    exact ⟨z, σ', rfl, o⟩
  · rw [if_neg w2, if_pos z0, if_pos z0, q_letE, iw 6 ⟨by decide, by decide⟩, cM]
    by_cases w6 : (τ.1 a 14).toInt = 1 ∧ (τ.2.1 a 19).toInt = y_cw 6
    · rw [if_pos w6, if_neg z1, if_neg z1]
      obtain ⟨z, σ', e, o⟩ := tb_readMost Y H ha I w6.1
      rw [e, q_biP]
      exact ⟨z, σ', rfl, o⟩
    · rw [if_neg w6, if_pos z0, if_pos z0, q_letE, iw 7 ⟨by decide, by decide⟩, cP]
      by_cases w7 : (τ.1 a 14).toInt = 1 ∧ (τ.2.1 a 19).toInt = y_cw 7
      · rw [if_pos w7, if_neg z1, if_neg z1]
        obtain ⟨z, σ', e, o⟩ := tb_readPlayer Y H ha I w7.1
        rw [e, q_biP]
        exact ⟨z, σ', rfl, o⟩
      · rw [if_neg w7, if_pos z0, if_pos z0, q_letE, iw 11 ⟨by decide, by decide⟩, cH]
        by_cases w11 : (τ.1 a 14).toInt = 1 ∧ (τ.2.1 a 19).toInt = y_cw 11
        · rw [if_pos w11, if_neg z1, if_neg z1]
          obtain ⟨z, σ', e, o⟩ := tb_readHand Y H ha I w11.1
          rw [e, q_biP]
          exact ⟨z, σ', rfl, o⟩
        · rw [if_neg w11, if_pos z0, if_pos z0]
          obtain ⟨σ', a1, a2, a3, a4⟩ := tl_wrong (X := X) K h0
          rw [a1, q_biP]
          exact ⟨0, σ', rfl, tb_O.bad (S.rd Y H a2).2 (tb_P.rd Y.1 ha a3) rfl a4 _⟩
/-- what comes of all parts -/
def tb_U (X : XW) (lb : Nat → Nat) (D T g a : Nat) (n : Int) (B : Int → Int) (σ τ σ' τ' : ST) (z : Int32) : Prop :=
  tb_F X lb D σ σ' ∧ tb_P X a τ τ' ∧ ((z.toInt = 1 ∧ ∃ (V : Nat → Int → Int) (r c w t : Int → Int) (f9 f10 : Int), tb_I X D T g a n B σ' τ' V r c w t f9 f10) ∨ (z.toInt = 0 ∧ tl_F σ' D τ' a))
theorem tb_takesL (Y : y_S X lb) (H : tb_D X lb D T g) (ha : q_kd X a = 12) (k : Nat) : ∀ (m : Nat) (x : Int32) (σ τ : ST) (V : Nat → Int → Int) (r c w t : Int → Int) (f9 f10 : Int), (2147483647 - x.toInt).toNat < k → (902 - (τ.1 a 15).toInt).toNat ≤ m → 0 ≤ x.toInt → x.toInt ≤ (τ.1 a 15).toInt → tb_I X D T g a n B σ τ V r c w t f9 f10 →
    ∃ (z : Int32) (σ' τ' : ST), F_X9_takes_L41_1 X D k x σ = (z, σ') ∧ F_X12_table_L145_5 X a m τ = F_X12_table_E232_6 X τ' a ∧ tb_U X lb D T g a n B σ τ σ' τ' z := by
  induction k with
  | zero => intro m x σ τ V r c w t f9 f10 hm; exact absurd hm (Nat.not_lt_zero _)
  | succ k ih =>
    intro m x σ τ V r c w t f9 f10 hk hm x0 xb I
    obtain ⟨S, M, K, h0, Rr⟩ := id I
    have n9 : n ≤ 900 := S.1.2.2.1.2
    have kb := K.b
    have k8 := K.2.2.2.2.2.2.2
    obtain ⟨m', hm'⟩ : ∃ m', m = m' + 1 + 1 := ⟨m - 2, by omega⟩
    subst hm'
    rw [F_X9_takes_L41_1_s, F_X12_table_L145_5_s, tm_B145, h0, if_pos (Eq.refl (0 : Int))]
    unfold F_X9_takes_B41_1
    by_cases hx : x.toInt < 900
    · rw [if_pos hx, q_letE, K.2.2.1]
      by_cases hty : (τ.1 a 14).toInt = 0
      · rw [if_pos hty, if_pos hty]
        exact ⟨1, σ, τ, rfl, rfl, tb_F.rf, tb_P.rf, Or.inl ⟨rfl, V, r, c, w, t, f9, f10, I⟩⟩
      · rw [if_neg hty, if_neg hty]
        obtain ⟨z, σ1, e, o1, o2, o3⟩ := tb_readPart Y H ha I
        rw [e, q_biP]
        obtain ⟨τ1, hτ1⟩ : ∃ s, s = F_X12_must X (tm_part X τ a) a (F_X12_isSign X (tm_part X τ a) a 59) := ⟨_, rfl⟩
        rw [← hτ1] at o2 o3 ⊢
        rcases o3 with ⟨q1, V', r', c', w', t', f9', f10', I', lt⟩ | ⟨q1, q2⟩
        · rw [if_neg (by omega : ¬ z.toInt = 0), q_letE]
          have e1 : (x + 1).toInt = x.toInt + 1 := y_inc (by omega)
          obtain ⟨z', σ2, τ2, a1, a2, a3, a4, a5⟩ := ih (m' + 1) (x + 1) σ1 τ1 V' r' c' w' t' f9' f10' (by omega) (by omega) (by omega) (by omega) I'
          exact ⟨z', σ2, τ2, a1, a2, o1.tr a3, o2.tr a4, a5⟩
        · have q3 := q2.2.1
          rw [if_pos q1, F_X12_table_L145_5_s, tm_B145, if_neg (by omega : ¬ (τ1.1 a 12).toInt = 0)]
          exact ⟨0, σ1, τ1, rfl, rfl, o1, o2, Or.inr ⟨rfl, q2⟩⟩
    · have hty : (τ.1 a 14).toInt = 0 := by omega
      rw [if_neg hx, if_pos hty]
      exact ⟨1, σ, τ, rfl, rfl, tb_F.rf, tb_P.rf, Or.inl ⟨rfl, V, r, c, w, t, f9, f10, I⟩⟩
/-- before the head -/
def tb_R0 (V : Nat → Int → Int) (r c t : Int → Int) : Prop :=
  (V 1 2 = 0 ∧ V 1 3 = 4 ∧ V 1 4 = 0) ∧ (∀ k : Int, 0 ≤ k → k < 10 → V 4 k = 0) ∧ (∀ j : Int, 0 ≤ j → j < 60 → V 7 j = 0) ∧ (∀ p : Int, 0 ≤ p → p < 6 → V 9 p = 0 ∧ V 10 p = 0 ∧ V 11 p = 0) ∧ tb_Z V ∧
  (∀ p : Int, 0 ≤ p → p < 6 → r p = 0) ∧ (∀ j : Int, 3720 ≤ j → j < 4650 → c j = if j = 3724 then 4 else 0) ∧ ∀ j : Int, 0 ≤ j → j < 60 → t j = 0
theorem m_S_0 {b : Int} : ∀ N : Nat, (∀ j : Int, b ≤ j → j < b + (N : Int) → c j = 0) → m_S c b N = 0 := by
  intro N
  induction N with
  | zero => intro _; rfl
  | succ N ih =>
    intro h
    show m_S c b N + c (b + (N : Int)) = 0
    rw [ih (fun j a1 a2 => h j a1 (by omega)), h (b + (N : Int)) (by omega) (by omega)]
    rfl
theorem tb_R0.head {kk ee : Int} (h : tb_R0 V r c t) (hk : 2 ≤ kk ∧ kk ≤ 10) (he : 1 ≤ ee ∧ ee ≤ 8) : tb_R (y_up (y_up V 1 0 kk) 1 1 ee) r (m_up (m_up c 3720 kk) 3721 ee) w t := by
  obtain ⟨⟨h2, h3, h4⟩, hk4, h7, h9, hz, hr, hc, ht⟩ := h
  have rc : ∀ j : Int, 3722 ≤ j → j < 4650 → m_up (m_up c 3720 kk) 3721 ee j = if j = 3724 then 4 else 0 := fun j a1 a2 => by rw [m_up_ne (by omega), m_up_ne (by omega)]; exact hc j (by omega) a2
  have rz : ∀ j : Int, 3725 ≤ j → j < 4650 → m_up (m_up c 3720 kk) 3721 ee j = 0 := fun j a1 a2 => by rw [rc j (by omega) a2, if_neg (by omega)]
  have c20 : m_up (m_up c 3720 kk) 3721 ee 3720 = kk := by rw [m_up_ne (by decide), m_up_eq]
  have c21 : m_up (m_up c 3720 kk) 3721 ee 3721 = ee := m_up_eq _ _ _
  have c22 : m_up (m_up c 3720 kk) 3721 ee 3722 = 0 := by rw [rc _ (by decide) (by decide)]; rfl
  have c23 : m_up (m_up c 3720 kk) 3721 ee 3723 = 0 := by rw [rc _ (by decide) (by decide)]; rfl
  have c24 : m_up (m_up c 3720 kk) 3721 ee 3724 = 4 := by rw [rc _ (by decide) (by decide)]; rfl
  have sm : ∀ k : Int, 0 ≤ k → k < 10 → m_sum (m_up (m_up c 3720 kk) 3721 ee) 3720 k = 0 := fun k a1 a2 => by
    rw [m_sum_e, rz _ (by omega) (by omega), rz _ (by omega) (by omega), rz _ (by omega) (by omega), rz _ (by omega) (by omega), rz _ (by omega) (by omega), rz _ (by omega) (by omega)]
    rfl
  have rd : ∀ (id : Nat) (i : Int), id ≠ 1 ∨ 2 ≤ i → y_up (y_up V 1 0 kk) 1 1 ee id i = V id i := fun id i h => by
    rw [y_up_ne (by omega), y_up_ne (by omega)]
  have v0 : y_up (y_up V 1 0 kk) 1 1 ee 1 0 = kk := by rw [y_up_ne (Or.inr (by decide)), y_up_eq]
  have v1 : y_up (y_up V 1 0 kk) 1 1 ee 1 1 = ee := y_up_eq _ _ _ _
  have ten : ((10 : Nat) : Int) = 10 := rfl
  refine ⟨⟨⟨?_, ?_, ?_, ?_, ?_⟩, ?_, ?_, ?_, ?_⟩, ?_, ?_, ⟨?_, ?_, ?_⟩, ⟨?_, ?_, ?_, ?_, ?_, ?_, ?_, ?_, ?_, ?_, ?_⟩, ?_, ?_, ?_⟩
  · rw [v0, c20]
  · rw [v1, c21]
  · rw [rd 1 2 (Or.inr (by decide)), c23, h2]
  · rw [rd 1 3 (Or.inr (by decide)), c24, h3]
  · rw [rd 1 4 (Or.inr (by decide)), c22, h4]
  · intro k a1 a2
    rw [rd 4 k (Or.inl (by decide)), sm k a1 a2, hk4 k a1 a2]
  · intro j a1 a2
    rw [rd 7 j (Or.inl (by decide)), rz _ (by omega) (by omega), h7 j a1 a2]
  · intro p a1 a2
    rw [rd 9 p (Or.inl (by decide)), (h9 p a1 a2).1, m_S_0 10 (fun j b1 b2 => rz j (by omega) (by rw [ten] at b2; omega))]
  · intro p a1 a2
    rw [rd 10 p (Or.inl (by decide)), rd 11 p (Or.inl (by decide)), rz _ (by omega) (by omega), rz _ (by omega) (by omega)]
    exact (h9 p a1 a2).2
  · exact (hz.up (by omega)).up (by omega)
  · rw [c22]
    intro p p0 p1
    omega
  · intro j a1 a2
    exact ⟨Or.inl (ht j a1 a2), fun _ => rz _ (by omega) (by omega)⟩
  · intro p a1 a2
    rw [hr p a1 a2]
    unfold tb_bits
    rw [ht _ (by omega) (by omega), ht _ (by omega) (by omega), ht _ (by omega) (by omega), ht _ (by omega) (by omega), ht _ (by omega) (by omega), ht _ (by omega) (by omega), ht _ (by omega) (by omega), ht _ (by omega) (by omega), ht _ (by omega) (by omega), ht _ (by omega) (by omega)]
    rfl
  · intro j a1 a2 _
    exact ht j a1 a2
  · rw [c20]; omega
  · rw [c21]; omega
  · rw [c22]; decide
  · rw [c23]; decide
  · rw [c24]; decide
  · intro j a1 a2; exact rz j a1 (by omega)
  · intro j a1 a2; exact rz j (by omega) (by omega)
  · intro j a1 a2; rw [rz j (by omega) (by omega)]; decide
  · intro k a1 a2; rw [sm k a1 a2]; decide
  · intro j a1 a2; exact rz j (by omega) a2
  · intro p k a0 a1 a2 a3 _; exact rz _ (by omega) (by omega)
  · rw [c20]; omega
  · rw [c21]; omega
  · rw [c24]; decide
/-! the reference's head, stretch by stretch -/
noncomputable def tm_hd3 (X : XW) (a : Nat) (Kc : ST → Int32 × ST) (r_33 : Int32) (σ_34 : ST) : Int32 × ST :=
  q_let (q_si σ_34 (q_rf X a 20) (3721 : Int32).toNatClampNeg r_33 : ST) (fun σ_35 => q_let (F_X12_isSign X σ_35 a (59 : Int32) : Int32) (fun r_37 => q_let (F_X12_must X σ_35 a r_37 : ST) (fun σ_40 => Kc σ_40)))
noncomputable def tm_hd2 (X : XW) (a : Nat) (Kc : ST → Int32 × ST) (r_24 : Int32) (σ_25 : ST) : Int32 × ST :=
  q_let (q_si σ_25 (q_rf X a 20) (3720 : Int32).toNatClampNeg r_24 : ST) (fun σ_26 => q_let (F_X12_isEach X σ_26 a : Int32) (fun r_27 => q_let (F_X12_must X σ_26 a r_27 : ST) (fun σ_30 => q_bi (F_X12_count X σ_30 a (1 : Int32) (8 : Int32)) (fun r_33 σ_34 => tm_hd3 X a Kc r_33 σ_34))))
noncomputable def tm_hd1 (X : XW) (a : Nat) (Kc : ST → Int32 × ST) (σ_17 : ST) : Int32 × ST :=
  q_let (F_X12_isKinds X σ_17 a : Int32) (fun r_18 => q_let (F_X12_must X σ_17 a r_18 : ST) (fun σ_21 => q_bi (F_X12_count X σ_21 a (2 : Int32) (10 : Int32)) (fun r_24 σ_25 => tm_hd2 X a Kc r_24 σ_25)))
noncomputable def tm_Kc (X : XW) (a : Nat) (s : ST) : Int32 × ST := F_X12_table_L145_5 X a ((901 - (s.1 a 15).toInt).toNat + (1 - (s.1 a 12).toInt).toNat + 1) s
theorem tm_E70 (X : XW) (τ : ST) (a : Nat) : F_X12_table_E70_7 X τ a = q_let (q_si τ a 25 (0 : Int32) : ST) (fun σ_15 => q_let (q_si σ_15 a 26 (0 : Int32) : ST) (fun σ_16 => q_let (q_si σ_16 (q_rf X a 20) (3724 : Int32).toNatClampNeg (4 : Int32) : ST) (fun σ_17 => tm_hd1 X a (tm_Kc X a) σ_17))) := rfl
theorem tl_F.same {R : Nat} (h : tl_F σ R τ a) (k : tl_same a τ τ') : tl_F σ R τ' a := by
  unfold tl_F at h ⊢
  rw [k.1 12 (by decide) (by decide), k.1 13 (by decide) (by decide)]
  exact h
theorem tl_same.tr {τ2 : ST} (h : tl_same a τ τ') (k : tl_same a τ' τ2) : tl_same a τ τ2 := ⟨fun f f1 f2 => (k.1 f f1 f2).trans (h.1 f f1 f2), k.2.trans h.2⟩
theorem tm_hd3a (Y : y_S X lb) (ha : q_kd X a = 12) (M : tb_M X a τ n B c w t f9 f10) (h : 0 < (τ.1 a 12).toInt) (Kc : ST → Int32 × ST) (v : Int32) : ∃ (τ' : ST) (c' : Int → Int), tm_hd3 X a Kc v τ = Kc τ' ∧ tb_M X a τ' n B c' w t f9 f10 ∧ (∀ j : Int, 0 ≤ j → j < 3720 → c' j = c j) ∧ tl_same a τ τ' := by
  obtain ⟨M1, s1⟩ := M.cw Y.1 ha (i := 3721) (v := v) (A := 3721) rfl (by decide)
  have h1 : 0 < ((q_si τ (q_rf X a 20) (3721 : Int32).toNatClampNeg v).1 a 12).toInt := by rw [s1.1 12 (by decide) (by decide)]; exact h
  refine ⟨_, _, ?_, M1, fun j a1 a2 => m_up_ne (by omega), s1⟩
  unfold tm_hd3
  rw [q_letE, q_letE, tm_must2 h1, q_letE]
theorem tm_hd2a (Y : y_S X lb) (ha : q_kd X a = 12) (M : tb_M X a τ n B c w t f9 f10) (h : 0 < (τ.1 a 12).toInt) (Kc : ST → Int32 × ST) (v : Int32) : ∃ (τ' : ST) (c' : Int → Int), tm_hd2 X a Kc v τ = Kc τ' ∧ tb_M X a τ' n B c' w t f9 f10 ∧ (∀ j : Int, 0 ≤ j → j < 3720 → c' j = c j) ∧ tl_same a τ τ' := by
  obtain ⟨M1, s1⟩ := M.cw Y.1 ha (i := 3720) (v := v) (A := 3720) rfl (by decide)
  have h1 : 0 < ((q_si τ (q_rf X a 20) (3720 : Int32).toNatClampNeg v).1 a 12).toInt := by rw [s1.1 12 (by decide) (by decide)]; exact h
  obtain ⟨τ', c', e, M2, hc, s2⟩ := tm_hd3a Y ha M1 h1 Kc 0
  refine ⟨τ', c', ?_, M2, fun j a1 a2 => (hc j a1 a2).trans (m_up_ne (by omega)), s1.tr s2⟩
  unfold tm_hd2
  rw [q_letE, q_letE, tm_must2 h1, q_letE, tm_count2 h1, q_biP]
  exact e
theorem tb_head (Y : y_S X lb) (H : tb_D X lb D T g) (ha : q_kd X a = 12) (S : tb_S X D T g σ n B V r f9 f10) (M : tb_M X a τ n B c w t f9 f10) (K : tl_K σ D τ a B n) (h0 : (τ.1 a 12).toInt = 0) (R0 : tb_R0 V r c t) (Kc : ST → Int32 × ST) :
    ∃ (z : Int32) (σ' τ' : ST), F_X9_readHead X σ D = (z, σ') ∧ tm_hd1 X a Kc τ = Kc τ' ∧ tb_U X lb D T g a n B σ τ σ' τ' z := by
  have hDn : lb D / 8192 ≠ 6 := by have := H.2.2.2.1; omega
  unfold F_X9_readHead tm_hd1
  rw [q_letE (F_X12_isKinds X τ a), ← H.2.1]
  obtain ⟨z1, σ1, e1, hz1, ⟨o1, o2, o3⟩⟩ := tl_passWord S.1 M.1 K h0 (r := 0) ⟨by decide, by decide⟩ (v := F_X12_isKinds X τ a) tm_isKinds
  obtain ⟨S1, f1⟩ := S.rd Y H o1
  have M1 := M.rd Y.1 ha o2
  rw [e1, q_biP, q_letE (F_X12_must X τ a (F_X12_isKinds X τ a))]
  obtain ⟨τ1, hτ1⟩ : ∃ s, s = F_X12_must X τ a (F_X12_isKinds X τ a) := ⟨_, rfl⟩
  rw [← hτ1] at M1 o3 ⊢
  rcases o3 with ⟨q1, K1, h01, g1⟩ | ⟨q1, q2⟩
  · rw [if_neg (by omega : ¬ z1.toInt = 0)]
    obtain ⟨z2, w2, σ2, τ2, e3, e4, ⟨o4, o5, o6⟩, v3, v4⟩ := tl_passNum S1.1 M1.1 K1 h01 2 10 (by decide)
    obtain ⟨S2, f2⟩ := S1.rd Y H o4
    have M2 := M1.rd Y.1 ha o5
    rw [e3, q_biP z2 σ2, e4, q_biP w2 τ2]
    rcases o6 with ⟨q3, K2, h02, g2⟩ | ⟨q3, q4⟩
    · obtain ⟨ev2, z22, z210⟩ := v3 q3
      rw [if_neg q3]
      unfold tm_hd2
      obtain ⟨M3, s3⟩ := M2.cw Y.1 ha (i := 3720) (v := w2) (A := 3720) rfl (by decide)
      rw [q_letE (q_si τ2 (q_rf X a 20) (3720 : Int32).toNatClampNeg w2)]
      obtain ⟨τ3, hτ3⟩ : ∃ s, s = q_si τ2 (q_rf X a 20) (3720 : Int32).toNatClampNeg w2 := ⟨_, rfl⟩
      rw [← hτ3] at M3 s3 ⊢
      have K3 := K2.same (tl_sameC.rf (σ := σ2)) s3
      have h03 : (τ3.1 a 12).toInt = 0 := by rw [s3.1 12 (by decide) (by decide)]; exact h02
      rw [q_letE (F_X12_isEach X τ3 a)]
      obtain ⟨z4, σ4, e5, hz4, ⟨o7, o8, o9⟩⟩ := tl_passWord S2.1 M3.1 K3 h03 (r := 1) ⟨by decide, by decide⟩ (v := F_X12_isEach X τ3 a) tm_isEach
      obtain ⟨S4, f4⟩ := S2.rd Y H o7
      have M4 := M3.rd Y.1 ha o8
      rw [e5, q_biP z4 σ4, q_letE (F_X12_must X τ3 a (F_X12_isEach X τ3 a))]
      obtain ⟨τ4, hτ4⟩ : ∃ s, s = F_X12_must X τ3 a (F_X12_isEach X τ3 a) := ⟨_, rfl⟩
      rw [← hτ4] at M4 o9 ⊢
      rcases o9 with ⟨q5, K4, h04, g4⟩ | ⟨q5, q6⟩
      · rw [if_neg (by omega : ¬ z4.toInt = 0)]
        obtain ⟨z5, w5, σ5, τ5, e7, e8, ⟨o10, o11, o12⟩, v5, v6⟩ := tl_passNum S4.1 M4.1 K4 h04 1 8 (by decide)
        obtain ⟨S5, f5⟩ := S4.rd Y H o10
        have M5 := M4.rd Y.1 ha o11
        rw [e7, q_biP z5 σ5, e8, q_biP w5 τ5]
        rcases o12 with ⟨q7, K5, h05, g5⟩ | ⟨q7, q8⟩
        · obtain ⟨ev5, z51, z58⟩ := v5 q7
          rw [if_neg q7]
          unfold tm_hd3
          obtain ⟨M6, s6⟩ := M5.cw Y.1 ha (i := 3721) (v := w5) (A := 3721) rfl (by decide)
          rw [q_letE (q_si τ5 (q_rf X a 20) (3721 : Int32).toNatClampNeg w5)]
          obtain ⟨τ6, hτ6⟩ : ∃ s, s = q_si τ5 (q_rf X a 20) (3721 : Int32).toNatClampNeg w5 := ⟨_, rfl⟩
          rw [← hτ6] at M6 s6 ⊢
          have K6 := K5.same (tl_sameC.rf (σ := σ5)) s6
          have h06 : (τ6.1 a 12).toInt = 0 := by rw [s6.1 12 (by decide) (by decide)]; exact h05
          have W := (((y_W.rf (lb := lb) (g := g) (o := 6) (σ := σ5)).eq S5.2.1).si Y H.2.2.1 (id := 1) (by decide) 0 z2).si Y H.2.2.1 (id := 1) (by decide) 1 z5
          obtain ⟨S7, f7⟩ := S5.gm Y H W
          have K7 := K6.same (tl_sameC.W W hDn) (tl_same.rf (τ := τ6))
          have R7 : tb_R (y_up (y_up V 1 ((0 : Nat) : Int) z2.toInt) 1 ((1 : Nat) : Int) z5.toInt) r (m_up (m_up c 3720 w2.toInt) 3721 w5.toInt) w t := by
            rw [ev2, ev5]
            exact R0.head ⟨z22, z210⟩ ⟨z51, z58⟩
          have eg : y_gA X g 1 = q_rf X g 0 := rfl
          rw [eg] at S7 f7 K7
          rw [q_letE (q_si σ5 (q_rf X g 0) 0 z2), q_letE (q_si (q_si σ5 (q_rf X g 0) 0 z2) (q_rf X g 0) 1 z5), q_letE (F_X12_isSign X τ6 a 59)]
          obtain ⟨z8, σ8, e9, hz8, ⟨p1, p2, p3⟩⟩ := tl_passSemi S7.1 M6.1 K7 h06
          obtain ⟨S8, f8⟩ := S7.rd Y H p1
          have M8 := M6.rd Y.1 ha p2
          rw [e9, q_biP z8 σ8, q_letE]
          have pP : tb_P X a τ (F_X12_must X τ6 a (F_X12_isSign X τ6 a 59)) := tb_P.mk M M8 (fun j a1 a2 => by rw [m_up_ne (by omega), m_up_ne (by omega)]) (fun _ _ _ => rfl)
          refine ⟨z8, σ8, _, rfl, rfl, ((((f1.tr f2).tr f4).tr f5).tr f7).tr f8, pP, ?_⟩
          rcases p3 with ⟨y1, y2, y3, y4⟩ | ⟨y1, y2⟩
          · exact Or.inl ⟨y1, _, _, _, _, _, _, _, S8, M8, y2, y3, R7⟩
          · refine Or.inr ⟨?_, y2⟩
            rcases hz8 with h | h
            · exact h
            · exact absurd h y1
        · have qz : z5.toInt = -1 := Classical.not_not.mp q7
          obtain ⟨τ', c', e, M', hc', s'⟩ := tm_hd3a Y ha M5 q8.2.1 Kc w5
          rw [if_pos qz, e]
          exact ⟨0, σ5, τ', rfl, rfl, ((f1.tr f2).tr f4).tr f5, tb_P.mk M M' (fun j a1 a2 => (hc' j a1 a2).trans (m_up_ne (by omega))) (fun _ _ _ => rfl), Or.inr ⟨rfl, q8.same s'⟩⟩
      · have hz0 : z4.toInt = 0 := by
          rcases hz4 with h | h
          · exact h
          · exact absurd h q5
        obtain ⟨τ', c', e, M', hc', s'⟩ := tm_hd3a Y ha M4 q6.2.1 Kc 0
        rw [if_pos hz0, tm_count2 q6.2.1, q_biP, e]
        exact ⟨0, σ4, τ', rfl, rfl, (f1.tr f2).tr f4, tb_P.mk M M' (fun j a1 a2 => (hc' j a1 a2).trans (m_up_ne (by omega))) (fun _ _ _ => rfl), Or.inr ⟨rfl, q6.same s'⟩⟩
    · have qz : z2.toInt = -1 := Classical.not_not.mp q3
      obtain ⟨τ', c', e, M', hc', s'⟩ := tm_hd2a Y ha M2 q4.2.1 Kc w2
      rw [if_pos qz, e]
      exact ⟨0, σ2, τ', rfl, rfl, f1.tr f2, tb_P.mk M M' hc' (fun _ _ _ => rfl), Or.inr ⟨rfl, q4.same s'⟩⟩
  · have hz0 : z1.toInt = 0 := by
      rcases hz1 with h | h
      · exact h
      · exact absurd h q1
    obtain ⟨τ', c', e, M', hc', s'⟩ := tm_hd2a Y ha M1 q2.2.1 Kc 0
    rw [if_pos hz0, tm_count2 q2.2.1, q_biP, e]
    exact ⟨0, σ1, τ', rfl, rfl, f1, tb_P.mk M M' hc' (fun _ _ _ => rfl), Or.inr ⟨rfl, q2.same s'⟩⟩
end TJ
end
/-! FROM 48r.start.lean.txt -/
section
/-! A NEW GAME, THE START OF A READING -/
theorem y_bl_ne {V : Nat → Int → Int} {id id' : Nat} {n i : Int} {f : Int → Int} (h : id' ≠ id) : y_bl V id n f id' i = V id' i := if_neg (fun q => h q.1)
theorem y_bl_in {V : Nat → Int → Int} {id : Nat} {n i : Int} {f : Int → Int} (h0 : 0 ≤ i) (h1 : i < n) : y_bl V id n f id i = f i := if_pos ⟨rfl, h0, h1⟩
def tb_Rv (V : Nat → Int → Int) : Prop :=
  (V 1 2 = 0 ∧ V 1 3 = 4 ∧ V 1 4 = 0) ∧ (∀ k : Int, 0 ≤ k → k < 10 → V 4 k = 0) ∧ (∀ j : Int, 0 ≤ j → j < 60 → V 7 j = 0) ∧ (∀ p : Int, 0 ≤ p → p < 6 → V 9 p = 0 ∧ V 10 p = 0 ∧ V 11 p = 0) ∧ tb_Z V
section TK
variable {X : XW} {lb : Nat → Nat} {D T g a : Nat} {σ τ σ' τ' σ1 τ1 : ST} {n : Int} {B : Int → Int} {V : Nat → Int → Int} {r c w t : Int → Int} {f9 f10 : Int}
theorem tb_reset (Y : y_S X lb) (G : y_G X lb g 6) : ∃ V' : Nat → Int → Int, y_W X lb g 6 σ (F_X0_reset X σ g) V' ∧ tb_Rv V' := by
  obtain ⟨V, hV⟩ : ∃ V, y_v X g σ = V := ⟨_, rfl⟩
  have w0 : y_W X lb g 6 σ σ V := y_W.rf.eq hV
  obtain ⟨V1, hV1⟩ : ∃ v, v = y_up V 1 0 2 := ⟨_, rfl⟩
  have w1 : y_W X lb g 6 σ (q_si σ (y_gA X g 1) 0 2) V1 := (w0.si Y G (id := 1) (by decide) 0 2).eq hV1.symm
  obtain ⟨s1, hs1⟩ : ∃ s, s = q_si σ (y_gA X g 1) 0 2 := ⟨_, rfl⟩
  rw [← hs1] at w1
  obtain ⟨V2, hV2⟩ : ∃ v, v = y_up V1 1 1 1 := ⟨_, rfl⟩
  have w2 : y_W X lb g 6 σ (q_si s1 (y_gA X g 1) 1 1) V2 := (w1.si Y G (id := 1) (by decide) 1 1).eq hV2.symm
  obtain ⟨s2, hs2⟩ : ∃ s, s = q_si s1 (y_gA X g 1) 1 1 := ⟨_, rfl⟩
  rw [← hs2] at w2
  obtain ⟨V3, hV3⟩ : ∃ v, v = y_up V2 1 2 0 := ⟨_, rfl⟩
  have w3 : y_W X lb g 6 σ (q_si s2 (y_gA X g 1) 2 0) V3 := (w2.si Y G (id := 1) (by decide) 2 0).eq hV3.symm
  obtain ⟨s3, hs3⟩ : ∃ s, s = q_si s2 (y_gA X g 1) 2 0 := ⟨_, rfl⟩
  rw [← hs3] at w3
  obtain ⟨V4, hV4⟩ : ∃ v, v = y_up V3 1 3 4 := ⟨_, rfl⟩
  have w4 : y_W X lb g 6 σ (q_si s3 (y_gA X g 1) 3 4) V4 := (w3.si Y G (id := 1) (by decide) 3 4).eq hV4.symm
  obtain ⟨s4, hs4⟩ : ∃ s, s = q_si s3 (y_gA X g 1) 3 4 := ⟨_, rfl⟩
  rw [← hs4] at w4
  obtain ⟨V5, hV5⟩ : ∃ v, v = y_up V4 1 4 0 := ⟨_, rfl⟩
  have w5 : y_W X lb g 6 σ (q_si s4 (y_gA X g 1) 4 0) V5 := (w4.si Y G (id := 1) (by decide) 4 0).eq hV5.symm
  obtain ⟨s5, hs5⟩ : ∃ s, s = q_si s4 (y_gA X g 1) 4 0 := ⟨_, rfl⟩
  rw [← hs5] at w5
  obtain ⟨V6, hV6⟩ : ∃ v, v = y_bl V5 4 10 (fun _ => 0) := ⟨_, rfl⟩
  have w6 : y_W X lb g 6 σ (F_X5_clear X s5 (q_rf X (q_rf X g 0) 5)) V6 := (w5.clear Y G (id := 4) (r := q_rf X (q_rf X g 0) 5) ⟨by decide, by decide⟩ rfl).eq hV6.symm
  obtain ⟨s6, hs6⟩ : ∃ s, s = F_X5_clear X s5 (q_rf X (q_rf X g 0) 5) := ⟨_, rfl⟩
  rw [← hs6] at w6
  obtain ⟨V7, hV7⟩ : ∃ v, v = y_bl V6 7 60 (fun _ => 0) := ⟨_, rfl⟩
  have w7 : y_W X lb g 6 σ (F_X5_clear X s6 (q_rf X (q_rf X g 1) 0)) V7 := (w6.clear Y G (id := 7) (r := q_rf X (q_rf X g 1) 0) ⟨by decide, by decide⟩ rfl).eq hV7.symm
  obtain ⟨s7, hs7⟩ : ∃ s, s = F_X5_clear X s6 (q_rf X (q_rf X g 1) 0) := ⟨_, rfl⟩
  rw [← hs7] at w7
  obtain ⟨V8, hV8⟩ : ∃ v, v = y_bl V7 8 60 (fun _ => 0) := ⟨_, rfl⟩
  have w8 : y_W X lb g 6 σ (F_X5_clear X s7 (q_rf X (q_rf X g 1) 1)) V8 := (w7.clear Y G (id := 8) (r := q_rf X (q_rf X g 1) 1) ⟨by decide, by decide⟩ rfl).eq hV8.symm
  obtain ⟨s8, hs8⟩ : ∃ s, s = F_X5_clear X s7 (q_rf X (q_rf X g 1) 1) := ⟨_, rfl⟩
  rw [← hs8] at w8
  obtain ⟨V9, hV9⟩ : ∃ v, v = y_bl V8 9 6 (fun _ => 0) := ⟨_, rfl⟩
  have w9 : y_W X lb g 6 σ (F_X5_clear X s8 (q_rf X (q_rf X g 1) 2)) V9 := (w8.clear Y G (id := 9) (r := q_rf X (q_rf X g 1) 2) ⟨by decide, by decide⟩ rfl).eq hV9.symm
  obtain ⟨s9, hs9⟩ : ∃ s, s = F_X5_clear X s8 (q_rf X (q_rf X g 1) 2) := ⟨_, rfl⟩
  rw [← hs9] at w9
  obtain ⟨V10, hV10⟩ : ∃ v, v = y_bl V9 10 6 (fun _ => 0) := ⟨_, rfl⟩
  have w10 : y_W X lb g 6 σ (F_X5_clear X s9 (q_rf X (q_rf X g 1) 3)) V10 := (w9.clear Y G (id := 10) (r := q_rf X (q_rf X g 1) 3) ⟨by decide, by decide⟩ rfl).eq hV10.symm
  obtain ⟨s10, hs10⟩ : ∃ s, s = F_X5_clear X s9 (q_rf X (q_rf X g 1) 3) := ⟨_, rfl⟩
  rw [← hs10] at w10
  obtain ⟨V11, hV11⟩ : ∃ v, v = y_bl V10 11 6 (fun _ => 0) := ⟨_, rfl⟩
  have w11 : y_W X lb g 6 σ (F_X5_clear X s10 (q_rf X (q_rf X g 1) 4)) V11 := (w10.clear Y G (id := 11) (r := q_rf X (q_rf X g 1) 4) ⟨by decide, by decide⟩ rfl).eq hV11.symm
  obtain ⟨s11, hs11⟩ : ∃ s, s = F_X5_clear X s10 (q_rf X (q_rf X g 1) 4) := ⟨_, rfl⟩
  rw [← hs11] at w11
  obtain ⟨V12, hV12⟩ : ∃ v, v = y_bl V11 12 6 (fun _ => 0) := ⟨_, rfl⟩
  have w12 : y_W X lb g 6 σ (F_X5_clear X s11 (q_rf X (q_rf X g 1) 5)) V12 := (w11.clear Y G (id := 12) (r := q_rf X (q_rf X g 1) 5) ⟨by decide, by decide⟩ rfl).eq hV12.symm
  obtain ⟨s12, hs12⟩ : ∃ s, s = F_X5_clear X s11 (q_rf X (q_rf X g 1) 5) := ⟨_, rfl⟩
  rw [← hs12] at w12
  obtain ⟨V13, hV13⟩ : ∃ v, v = y_bl V12 13 6 (fun _ => 0) := ⟨_, rfl⟩
  have w13 : y_W X lb g 6 σ (F_X5_clear X s12 (q_rf X (q_rf X g 1) 6)) V13 := (w12.clear Y G (id := 13) (r := q_rf X (q_rf X g 1) 6) ⟨by decide, by decide⟩ rfl).eq hV13.symm
  obtain ⟨s13, hs13⟩ : ∃ s, s = F_X5_clear X s12 (q_rf X (q_rf X g 1) 6) := ⟨_, rfl⟩
  rw [← hs13] at w13
  obtain ⟨V14, hV14⟩ : ∃ v, v = y_up V13 2 0 0 := ⟨_, rfl⟩
  have w14 : y_W X lb g 6 σ (q_si s13 (y_gA X g 2) 0 0) V14 := (w13.si Y G (id := 2) (by decide) 0 0).eq hV14.symm
  obtain ⟨s14, hs14⟩ : ∃ s, s = q_si s13 (y_gA X g 2) 0 0 := ⟨_, rfl⟩
  rw [← hs14] at w14
  obtain ⟨V15, hV15⟩ : ∃ v, v = y_up V14 2 1 0 := ⟨_, rfl⟩
  have w15 : y_W X lb g 6 σ (q_si s14 (y_gA X g 2) 1 0) V15 := (w14.si Y G (id := 2) (by decide) 1 0).eq hV15.symm
  obtain ⟨s15, hs15⟩ : ∃ s, s = q_si s14 (y_gA X g 2) 1 0 := ⟨_, rfl⟩
  rw [← hs15] at w15
  obtain ⟨V16, hV16⟩ : ∃ v, v = y_up V15 3 0 0 := ⟨_, rfl⟩
  have w16 : y_W X lb g 6 σ (q_si s15 (y_gA X g 3) 0 0) V16 := (w15.si Y G (id := 3) (by decide) 0 0).eq hV16.symm
  obtain ⟨s16, hs16⟩ : ∃ s, s = q_si s15 (y_gA X g 3) 0 0 := ⟨_, rfl⟩
  rw [← hs16] at w16
  obtain ⟨V17, hV17⟩ : ∃ v, v = y_up V16 3 1 0 := ⟨_, rfl⟩
  have w17 : y_W X lb g 6 σ (q_si s16 (y_gA X g 3) 1 0) V17 := (w16.si Y G (id := 3) (by decide) 1 0).eq hV17.symm
  obtain ⟨s17, hs17⟩ : ∃ s, s = q_si s16 (y_gA X g 3) 1 0 := ⟨_, rfl⟩
  rw [← hs17] at w17
  obtain ⟨V18, hV18⟩ : ∃ v, v = y_up V17 3 2 0 := ⟨_, rfl⟩
  have w18 : y_W X lb g 6 σ (q_si s17 (y_gA X g 3) 2 0) V18 := (w17.si Y G (id := 3) (by decide) 2 0).eq hV18.symm
  obtain ⟨s18, hs18⟩ : ∃ s, s = q_si s17 (y_gA X g 3) 2 0 := ⟨_, rfl⟩
  rw [← hs18] at w18
  obtain ⟨V19, hV19⟩ : ∃ v, v = y_up V18 0 4 0 := ⟨_, rfl⟩
  have w19 : y_W X lb g 6 σ (q_si s18 (y_gA X g 0) 4 0) V19 := (w18.si Y G (id := 0) (by decide) 4 0).eq hV19.symm
  obtain ⟨s19, hs19⟩ : ∃ s, s = q_si s18 (y_gA X g 0) 4 0 := ⟨_, rfl⟩
  rw [← hs19] at w19
  obtain ⟨V20, hV20⟩ : ∃ v, v = y_up V19 0 5 0 := ⟨_, rfl⟩
  have w20 : y_W X lb g 6 σ (q_si s19 (y_gA X g 0) 5 0) V20 := (w19.si Y G (id := 0) (by decide) 5 0).eq hV20.symm
  obtain ⟨s20, hs20⟩ : ∃ s, s = q_si s19 (y_gA X g 0) 5 0 := ⟨_, rfl⟩
  rw [← hs20] at w20
  obtain ⟨V21, hV21⟩ : ∃ v, v = y_up V20 0 6 (-1) := ⟨_, rfl⟩
  have w21 : y_W X lb g 6 σ (q_si s20 (y_gA X g 0) 6 (-1)) V21 := (w20.si Y G (id := 0) (by decide) 6 (-1)).eq hV21.symm
  obtain ⟨s21, hs21⟩ : ∃ s, s = q_si s20 (y_gA X g 0) 6 (-1) := ⟨_, rfl⟩
  rw [← hs21] at w21
  obtain ⟨V22, hV22⟩ : ∃ v, v = y_up V21 0 7 0 := ⟨_, rfl⟩
  have w22 : y_W X lb g 6 σ (q_si s21 (y_gA X g 0) 7 0) V22 := (w21.si Y G (id := 0) (by decide) 7 0).eq hV22.symm
  obtain ⟨s22, hs22⟩ : ∃ s, s = q_si s21 (y_gA X g 0) 7 0 := ⟨_, rfl⟩
  rw [← hs22] at w22
  refine ⟨V22, ?_, ?_⟩
  · have e : F_X0_reset X σ g = s22 := by
      unfold F_X0_reset F_X6_reset F_X1_reset F_X2_clear F_X8_clear
      rw [q_letE (q_si σ (q_rf X g 0) 0 2)]
      have z1 : q_si σ (q_rf X g 0) 0 2 = s1 := hs1.symm
      rw [z1]
      rw [q_letE (q_si s1 (q_rf X g 0) 1 1)]
      have z2 : q_si s1 (q_rf X g 0) 1 1 = s2 := hs2.symm
      rw [z2]
      rw [q_letE (q_si s2 (q_rf X g 0) 2 0)]
      have z3 : q_si s2 (q_rf X g 0) 2 0 = s3 := hs3.symm
      rw [z3]
      rw [q_letE (q_si s3 (q_rf X g 0) 3 4)]
      have z4 : q_si s3 (q_rf X g 0) 3 4 = s4 := hs4.symm
      rw [z4]
      rw [q_letE (q_si s4 (q_rf X g 0) 4 0)]
      have z5 : q_si s4 (q_rf X g 0) 4 0 = s5 := hs5.symm
      rw [z5]
      rw [q_letE (F_X5_clear X s5 (q_rf X (q_rf X g 0) 5))]
      have z6 : F_X5_clear X s5 (q_rf X (q_rf X g 0) 5) = s6 := hs6.symm
      rw [z6]
      rw [q_letE s6]
      rw [q_letE (F_X5_clear X s6 (q_rf X (q_rf X g 1) 0))]
      have z7 : F_X5_clear X s6 (q_rf X (q_rf X g 1) 0) = s7 := hs7.symm
      rw [z7]
      rw [q_letE (F_X5_clear X s7 (q_rf X (q_rf X g 1) 1))]
      have z8 : F_X5_clear X s7 (q_rf X (q_rf X g 1) 1) = s8 := hs8.symm
      rw [z8]
      rw [q_letE (F_X5_clear X s8 (q_rf X (q_rf X g 1) 2))]
      have z9 : F_X5_clear X s8 (q_rf X (q_rf X g 1) 2) = s9 := hs9.symm
      rw [z9]
      rw [q_letE (F_X5_clear X s9 (q_rf X (q_rf X g 1) 3))]
      have z10 : F_X5_clear X s9 (q_rf X (q_rf X g 1) 3) = s10 := hs10.symm
      rw [z10]
      rw [q_letE (F_X5_clear X s10 (q_rf X (q_rf X g 1) 4))]
      have z11 : F_X5_clear X s10 (q_rf X (q_rf X g 1) 4) = s11 := hs11.symm
      rw [z11]
      rw [q_letE (F_X5_clear X s11 (q_rf X (q_rf X g 1) 5))]
      have z12 : F_X5_clear X s11 (q_rf X (q_rf X g 1) 5) = s12 := hs12.symm
      rw [z12]
      rw [q_letE (F_X5_clear X s12 (q_rf X (q_rf X g 1) 6))]
      have z13 : F_X5_clear X s12 (q_rf X (q_rf X g 1) 6) = s13 := hs13.symm
      rw [z13]
      rw [q_letE s13]
      rw [q_letE (q_si s13 (q_rf X g 2) 0 0)]
      have z14 : q_si s13 (q_rf X g 2) 0 0 = s14 := hs14.symm
      rw [z14]
      rw [q_letE (q_si s14 (q_rf X g 2) 1 0)]
      have z15 : q_si s14 (q_rf X g 2) 1 0 = s15 := hs15.symm
      rw [z15]
      rw [q_letE s15]
      rw [q_letE (q_si s15 (q_rf X g 3) 0 0)]
      have z16 : q_si s15 (q_rf X g 3) 0 0 = s16 := hs16.symm
      rw [z16]
      rw [q_letE (q_si s16 (q_rf X g 3) 1 0)]
      have z17 : q_si s16 (q_rf X g 3) 1 0 = s17 := hs17.symm
      rw [z17]
      rw [q_letE (q_si s17 (q_rf X g 3) 2 0)]
      have z18 : q_si s17 (q_rf X g 3) 2 0 = s18 := hs18.symm
      rw [z18]
      rw [q_letE s18]
      rw [q_letE (q_si s18 (g) 4 0)]
      have z19 : q_si s18 (g) 4 0 = s19 := hs19.symm
      rw [z19]
      rw [q_letE (q_si s19 (g) 5 0)]
      have z20 : q_si s19 (g) 5 0 = s20 := hs20.symm
      rw [z20]
      rw [q_letE (q_si s20 (g) 6 (-1))]
      have z21 : q_si s20 (g) 6 (-1) = s21 := hs21.symm
      rw [z21]
      rw [q_letE (q_si s21 (g) 7 0)]
      have z22 : q_si s21 (g) 7 0 = s22 := hs22.symm
      rw [z22]
    rw [e]
    exact w22
  · refine ⟨⟨?_, ?_, ?_⟩, ?_, ?_, ?_, ?_, ?_, ?_, ?_, ?_, ?_, ?_, ?_, ?_, ?_, ?_⟩
    · rw [hV22, y_up_ne (Or.inl (by decide)), hV21, y_up_ne (Or.inl (by decide)), hV20, y_up_ne (Or.inl (by decide)), hV19, y_up_ne (Or.inl (by decide)), hV18, y_up_ne (Or.inl (by decide)), hV17, y_up_ne (Or.inl (by decide)), hV16, y_up_ne (Or.inl (by decide)), hV15, y_up_ne (Or.inl (by decide)), hV14, y_up_ne (Or.inl (by decide)), hV13, y_bl_ne (by decide), hV12, y_bl_ne (by decide), hV11, y_bl_ne (by decide), hV10, y_bl_ne (by decide), hV9, y_bl_ne (by decide), hV8, y_bl_ne (by decide), hV7, y_bl_ne (by decide), hV6, y_bl_ne (by decide), hV5, y_up_ne (Or.inr (by decide)), hV4, y_up_ne (Or.inr (by decide)), hV3, y_up_eq]
    · rw [hV22, y_up_ne (Or.inl (by decide)), hV21, y_up_ne (Or.inl (by decide)), hV20, y_up_ne (Or.inl (by decide)), hV19, y_up_ne (Or.inl (by decide)), hV18, y_up_ne (Or.inl (by decide)), hV17, y_up_ne (Or.inl (by decide)), hV16, y_up_ne (Or.inl (by decide)), hV15, y_up_ne (Or.inl (by decide)), hV14, y_up_ne (Or.inl (by decide)), hV13, y_bl_ne (by decide), hV12, y_bl_ne (by decide), hV11, y_bl_ne (by decide), hV10, y_bl_ne (by decide), hV9, y_bl_ne (by decide), hV8, y_bl_ne (by decide), hV7, y_bl_ne (by decide), hV6, y_bl_ne (by decide), hV5, y_up_ne (Or.inr (by decide)), hV4, y_up_eq]
    · rw [hV22, y_up_ne (Or.inl (by decide)), hV21, y_up_ne (Or.inl (by decide)), hV20, y_up_ne (Or.inl (by decide)), hV19, y_up_ne (Or.inl (by decide)), hV18, y_up_ne (Or.inl (by decide)), hV17, y_up_ne (Or.inl (by decide)), hV16, y_up_ne (Or.inl (by decide)), hV15, y_up_ne (Or.inl (by decide)), hV14, y_up_ne (Or.inl (by decide)), hV13, y_bl_ne (by decide), hV12, y_bl_ne (by decide), hV11, y_bl_ne (by decide), hV10, y_bl_ne (by decide), hV9, y_bl_ne (by decide), hV8, y_bl_ne (by decide), hV7, y_bl_ne (by decide), hV6, y_bl_ne (by decide), hV5, y_up_eq]
    · intro j a1 a2
      rw [hV22, y_up_ne (Or.inl (by decide)), hV21, y_up_ne (Or.inl (by decide)), hV20, y_up_ne (Or.inl (by decide)), hV19, y_up_ne (Or.inl (by decide)), hV18, y_up_ne (Or.inl (by decide)), hV17, y_up_ne (Or.inl (by decide)), hV16, y_up_ne (Or.inl (by decide)), hV15, y_up_ne (Or.inl (by decide)), hV14, y_up_ne (Or.inl (by decide)), hV13, y_bl_ne (by decide), hV12, y_bl_ne (by decide), hV11, y_bl_ne (by decide), hV10, y_bl_ne (by decide), hV9, y_bl_ne (by decide), hV8, y_bl_ne (by decide), hV7, y_bl_ne (by decide), hV6, y_bl_in a1 a2]
    · intro j a1 a2
      rw [hV22, y_up_ne (Or.inl (by decide)), hV21, y_up_ne (Or.inl (by decide)), hV20, y_up_ne (Or.inl (by decide)), hV19, y_up_ne (Or.inl (by decide)), hV18, y_up_ne (Or.inl (by decide)), hV17, y_up_ne (Or.inl (by decide)), hV16, y_up_ne (Or.inl (by decide)), hV15, y_up_ne (Or.inl (by decide)), hV14, y_up_ne (Or.inl (by decide)), hV13, y_bl_ne (by decide), hV12, y_bl_ne (by decide), hV11, y_bl_ne (by decide), hV10, y_bl_ne (by decide), hV9, y_bl_ne (by decide), hV8, y_bl_ne (by decide), hV7, y_bl_in a1 a2]
    · intro j a1 a2
      refine ⟨?_, ?_, ?_⟩
      · rw [hV22, y_up_ne (Or.inl (by decide)), hV21, y_up_ne (Or.inl (by decide)), hV20, y_up_ne (Or.inl (by decide)), hV19, y_up_ne (Or.inl (by decide)), hV18, y_up_ne (Or.inl (by decide)), hV17, y_up_ne (Or.inl (by decide)), hV16, y_up_ne (Or.inl (by decide)), hV15, y_up_ne (Or.inl (by decide)), hV14, y_up_ne (Or.inl (by decide)), hV13, y_bl_ne (by decide), hV12, y_bl_ne (by decide), hV11, y_bl_ne (by decide), hV10, y_bl_ne (by decide), hV9, y_bl_in a1 a2]
      · rw [hV22, y_up_ne (Or.inl (by decide)), hV21, y_up_ne (Or.inl (by decide)), hV20, y_up_ne (Or.inl (by decide)), hV19, y_up_ne (Or.inl (by decide)), hV18, y_up_ne (Or.inl (by decide)), hV17, y_up_ne (Or.inl (by decide)), hV16, y_up_ne (Or.inl (by decide)), hV15, y_up_ne (Or.inl (by decide)), hV14, y_up_ne (Or.inl (by decide)), hV13, y_bl_ne (by decide), hV12, y_bl_ne (by decide), hV11, y_bl_ne (by decide), hV10, y_bl_in a1 a2]
      · rw [hV22, y_up_ne (Or.inl (by decide)), hV21, y_up_ne (Or.inl (by decide)), hV20, y_up_ne (Or.inl (by decide)), hV19, y_up_ne (Or.inl (by decide)), hV18, y_up_ne (Or.inl (by decide)), hV17, y_up_ne (Or.inl (by decide)), hV16, y_up_ne (Or.inl (by decide)), hV15, y_up_ne (Or.inl (by decide)), hV14, y_up_ne (Or.inl (by decide)), hV13, y_bl_ne (by decide), hV12, y_bl_ne (by decide), hV11, y_bl_in a1 a2]
    · intro j a1 a2
      rw [hV22, y_up_ne (Or.inl (by decide)), hV21, y_up_ne (Or.inl (by decide)), hV20, y_up_ne (Or.inl (by decide)), hV19, y_up_ne (Or.inl (by decide)), hV18, y_up_ne (Or.inl (by decide)), hV17, y_up_ne (Or.inl (by decide)), hV16, y_up_ne (Or.inl (by decide)), hV15, y_up_ne (Or.inl (by decide)), hV14, y_up_ne (Or.inl (by decide)), hV13, y_bl_ne (by decide), hV12, y_bl_ne (by decide), hV11, y_bl_ne (by decide), hV10, y_bl_ne (by decide), hV9, y_bl_ne (by decide), hV8, y_bl_in a1 a2]
    · intro j a1 a2
      refine ⟨?_, ?_⟩
      · rw [hV22, y_up_ne (Or.inl (by decide)), hV21, y_up_ne (Or.inl (by decide)), hV20, y_up_ne (Or.inl (by decide)), hV19, y_up_ne (Or.inl (by decide)), hV18, y_up_ne (Or.inl (by decide)), hV17, y_up_ne (Or.inl (by decide)), hV16, y_up_ne (Or.inl (by decide)), hV15, y_up_ne (Or.inl (by decide)), hV14, y_up_ne (Or.inl (by decide)), hV13, y_bl_ne (by decide), hV12, y_bl_in a1 a2]
      · rw [hV22, y_up_ne (Or.inl (by decide)), hV21, y_up_ne (Or.inl (by decide)), hV20, y_up_ne (Or.inl (by decide)), hV19, y_up_ne (Or.inl (by decide)), hV18, y_up_ne (Or.inl (by decide)), hV17, y_up_ne (Or.inl (by decide)), hV16, y_up_ne (Or.inl (by decide)), hV15, y_up_ne (Or.inl (by decide)), hV14, y_up_ne (Or.inl (by decide)), hV13, y_bl_in a1 a2]
    · rw [hV22, y_up_ne (Or.inr (by decide)), hV21, y_up_ne (Or.inr (by decide)), hV20, y_up_ne (Or.inr (by decide)), hV19, y_up_eq]
    · rw [hV22, y_up_ne (Or.inr (by decide)), hV21, y_up_ne (Or.inr (by decide)), hV20, y_up_eq]
    · rw [hV22, y_up_ne (Or.inr (by decide)), hV21, y_up_eq]
    · rw [hV22, y_up_eq]
    · rw [hV22, y_up_ne (Or.inl (by decide)), hV21, y_up_ne (Or.inl (by decide)), hV20, y_up_ne (Or.inl (by decide)), hV19, y_up_ne (Or.inl (by decide)), hV18, y_up_ne (Or.inl (by decide)), hV17, y_up_ne (Or.inl (by decide)), hV16, y_up_ne (Or.inl (by decide)), hV15, y_up_ne (Or.inr (by decide)), hV14, y_up_eq]
    · rw [hV22, y_up_ne (Or.inl (by decide)), hV21, y_up_ne (Or.inl (by decide)), hV20, y_up_ne (Or.inl (by decide)), hV19, y_up_ne (Or.inl (by decide)), hV18, y_up_ne (Or.inl (by decide)), hV17, y_up_ne (Or.inl (by decide)), hV16, y_up_ne (Or.inl (by decide)), hV15, y_up_eq]
    · rw [hV22, y_up_ne (Or.inl (by decide)), hV21, y_up_ne (Or.inl (by decide)), hV20, y_up_ne (Or.inl (by decide)), hV19, y_up_ne (Or.inl (by decide)), hV18, y_up_ne (Or.inr (by decide)), hV17, y_up_ne (Or.inr (by decide)), hV16, y_up_eq]
    · rw [hV22, y_up_ne (Or.inl (by decide)), hV21, y_up_ne (Or.inl (by decide)), hV20, y_up_ne (Or.inl (by decide)), hV19, y_up_ne (Or.inl (by decide)), hV18, y_up_ne (Or.inr (by decide)), hV17, y_up_eq]
    · rw [hV22, y_up_ne (Or.inl (by decide)), hV21, y_up_ne (Or.inl (by decide)), hV20, y_up_ne (Or.inl (by decide)), hV19, y_up_ne (Or.inl (by decide)), hV18, y_up_eq]
/-- the hands told are none -/
theorem tb_clearL {d A : Nat} (hA : q_rf X d 0 = A) (hl : (q_len X A).toInt = 6) (k : Nat) : ∀ (x : Int32) (τ : ST), (2147483647 - x.toInt).toNat < k → 0 ≤ x.toInt → x.toInt ≤ 6 → tk (fun b _ => b = A) σ τ → (∀ p : Int, 0 ≤ p → p < x.toInt → (τ.1 A p.toNat).toInt = 0) → tk (fun b _ => b = A) σ (F_X5_clear_L2_1 X d k x τ) ∧ ∀ p : Int, 0 ≤ p → p < 6 → ((F_X5_clear_L2_1 X d k x τ).1 A p.toNat).toInt = 0 := by
  induction k with
  | zero => intro x τ hm; exact absurd hm (Nat.not_lt_zero _)
  | succ k ih =>
    intro x τ hm h0 h1 ht hz
    have hb := ar_bd x
    rw [F_X5_clear_L2_1_s]
    unfold F_X5_clear_B2_1
    rw [hA, q_letE, hl]
    by_cases q : x.toInt < 6
    · rw [if_pos q, q_letE, q_letE]
      have e : (x + 1).toInt = x.toInt + 1 := y_inc (by omega)
      refine ih (x + 1) _ (by omega) (by omega) (by omega) (ht.si _ rfl) (fun p p0 p1 => ?_)
      show (if A = A ∧ p.toNat = x.toNatClampNeg then (0 : Int32) else τ.1 A p.toNat).toInt = 0
      by_cases q2 : p = x.toInt
      · rw [if_pos ⟨rfl, by rw [ar_cl, q2]⟩]
        rfl
      · rw [if_neg (fun z => q2 (by have := z.2; rw [ar_cl] at this; omega))]
        exact hz p p0 (by omega)
    · rw [if_neg q]
      exact ⟨ht, fun p p0 p1 => hz p p0 (by omega)⟩
theorem tb_clear (hl : q_ln X (tb_T X D) = 6) : tk (fun b _ => b = tb_T X D) σ (F_X5_clear X σ (q_rf X D 11)) ∧ ∀ p : Int, 0 ≤ p → p < 6 → ((F_X5_clear X σ (q_rf X D 11)).1 (tb_T X D) p.toNat).toInt = 0 := by
  have h6 : (q_len X (tb_T X D)).toInt = 6 := by
    unfold q_len
    rw [hl]
    rfl
  unfold F_X5_clear
  exact tb_clearL (X := X) (σ := σ) (d := q_rf X D 11) (A := tb_T X D) rfl h6 _ 0 σ (by decide) (by decide) (by decide) tk.rf (fun p p0 p1 => by have : (0 : Int32).toInt = 0 := rfl; omega)
/-- cells kept, but for those of S and the reader's text -/
def tkr (S : Nat → Nat → Prop) (R : Nat) (σ τ : ST) : Prop := (∀ b f, ¬ S b f → τ.1 b f = σ.1 b f) ∧ τ.2.1 = σ.2.1 ∧ ∀ b, b ≠ R → τ.2.2 b = σ.2.2 b
theorem tk.kr {S : Nat → Nat → Prop} {R : Nat} (h : tk S σ τ) : tkr S R σ τ := ⟨h.1, by rw [h.2], fun b _ => by rw [h.2]⟩
theorem tkr.tr {S : Nat → Nat → Prop} {R : Nat} {ρ : ST} (h : tkr S R σ τ) (k : tkr S R τ ρ) : tkr S R σ ρ := ⟨fun b f q => (k.1 b f q).trans (h.1 b f q), k.2.1.trans h.2.1, fun b q => (k.2.2 b q).trans (h.2.2 b q)⟩
/-- the class begins to read -/
theorem tc_start (hTl : q_ln X T = 900) (hTD : T ≠ D) {v : Int32} (hv : v.toInt = n) (hn : 0 ≤ n ∧ n ≤ 900) (hB : ∀ p : Int, 0 ≤ p → p < n → (σ.1 T p.toNat).toInt = B p ∧ -128 ≤ B p ∧ B p ≤ 127) :
    ∃ ρ : ST, F_X3_start X σ D T v = F_X3_advance X ρ D ∧ tc_E X ρ D T n B ∧ (ρ.1 D 3).toInt = 0 ∧ (ρ.1 D 6).toInt = 0 ∧ (ρ.1 D 7).toInt = -1 ∧ tkr (fun b f => b = D ∧ (f = 1 ∨ f = 3 ∨ f = 6 ∨ f = 7)) D σ ρ := by
  have hl : (q_len X T).toInt = 900 := tc_len hTl
  have z0 : (0 : Int32).toInt = 0 := rfl
  have mn : (F_J9_min_7cf53 X (q_st σ D T) v (q_len X T)).toInt = n := by
    unfold F_J9_min_7cf53
    rw [hl, hv]
    by_cases q : 900 < n
    · omega
    · rw [if_neg q, hv]
  have mx : (F_J9_max_7cf53 X (q_st σ D T) 0 (F_J9_min_7cf53 X (q_st σ D T) v (q_len X T))).toInt = n := by
    unfold F_J9_max_7cf53
    rw [mn, z0]
    by_cases q : 0 < n
    · rw [if_pos q, mn]
    · rw [if_neg q, z0]
      omega
  unfold F_X3_start
  rw [q_letE (q_st σ D T), q_letE (q_len X T), q_letE (F_J9_min_7cf53 X (q_st σ D T) v (q_len X T)), q_letE (F_J9_max_7cf53 X (q_st σ D T) 0 (F_J9_min_7cf53 X (q_st σ D T) v (q_len X T)))]
  obtain ⟨m, hm⟩ : ∃ m, m = F_J9_max_7cf53 X (q_st σ D T) 0 (F_J9_min_7cf53 X (q_st σ D T) v (q_len X T)) := ⟨_, rfl⟩
  rw [← hm] at mx ⊢
  rw [q_letE, q_letE, q_letE, q_letE, q_letE]
  obtain ⟨ρ, hρ⟩ : ∃ s, s = q_si (q_si (q_si (q_si (q_st σ D T) D 1 m) D 3 0) D 6 0) D 7 (-1) := ⟨_, rfl⟩
  rw [← hρ]
  have t : tk (fun b f => b = D ∧ (f = 1 ∨ f = 3 ∨ f = 6 ∨ f = 7)) (q_st σ D T) ρ := by
    rw [hρ]
    exact ((((tk.rf.si _ ⟨rfl, Or.inl rfl⟩).si _ ⟨rfl, Or.inr (Or.inl rfl)⟩).si _ ⟨rfl, Or.inr (Or.inr (Or.inl rfl))⟩).si _ ⟨rfl, Or.inr (Or.inr (Or.inr rfl))⟩)
  have c1 : ρ.1 D 1 = m := by rw [hρ, si_f (by decide), si_f (by decide), si_f (by decide), si_eq]
  have c3 : ρ.1 D 3 = 0 := by rw [hρ, si_f (by decide), si_f (by decide), si_eq]
  have c6 : ρ.1 D 6 = 0 := by rw [hρ, si_f (by decide), si_eq]
  have c7 : ρ.1 D 7 = -1 := by rw [hρ, si_eq]
  have cT : ρ.2.2 D = T := by
    rw [t.2]
    show (if D = D then T else σ.2.2 D) = T
    rw [if_pos rfl]
  refine ⟨ρ, rfl, ⟨cT, by rw [c1]; exact mx, hn, hTD, hTl, fun p p0 p1 => ?_⟩, by rw [c3]; rfl, by rw [c6]; rfl, by rw [c7]; rfl, fun b f q => ?_, ?_, fun b q => ?_⟩
  · rw [t.1 T _ (fun q => hTD q.1)]
    exact hB p p0 p1
  · exact t.1 b f q
  · rw [t.2]
    rfl
  · rw [t.2]
    show (if b = D then T else σ.2.2 b) = _
    rw [if_neg q]
end TK
end
/-! FROM 48s.takes.lean.txt -/
section
/-! BOTH TAKE A TABLE -/
section TM
variable {X : XW} {lb : Nat → Nat} {D T g a : Nat} {σ τ σ' τ' σ1 τ1 τ0 : ST} {n : Int} {B : Int → Int} {V : Nat → Int → Int} {r c w t : Int → Int} {f9 f10 : Int}
theorem tm_L51 (k : Nat) : ∀ (x : Int32) (τ : ST), (2147483647 - x.toInt).toNat < k → 0 ≤ x.toInt → x.toInt ≤ 60 → tkl (fun b _ => b = q_rf X a 22) (fun _ _ => False) τ0 τ → (∀ j : Int, 0 ≤ j → j < x.toInt → (τ.1 (q_rf X a 22) j.toNat).toInt = 0) →
    ∃ τ' : ST, F_X12_table_L51_3 X a k x τ = F_X12_table_E70_7 X τ' a ∧ tkl (fun b _ => b = q_rf X a 22) (fun _ _ => False) τ0 τ' ∧ ∀ j : Int, 0 ≤ j → j < 60 → (τ'.1 (q_rf X a 22) j.toNat).toInt = 0 := by
  induction k with
  | zero => intro x τ hm; exact absurd hm (Nat.not_lt_zero _)
  | succ k ih =>
    intro x τ hm h0 h1 ht hz
    have hb := ar_bd x
    rw [F_X12_table_L51_3_s]
    unfold F_X12_table_B51_3
    by_cases q : x.toInt < 60
    · rw [if_pos q, q_letE, q_letE]
      have e : (x + 1).toInt = x.toInt + 1 := y_inc (by omega)
      refine ih (x + 1) _ (by omega) (by omega) (by omega) (ht.si _ rfl) (fun p p0 p1 => ?_)
      show (if q_rf X a 22 = q_rf X a 22 ∧ p.toNat = x.toNatClampNeg then (0 : Int32) else τ.1 (q_rf X a 22) p.toNat).toInt = 0
      by_cases q2 : p = x.toInt
      · rw [if_pos ⟨rfl, by rw [ar_cl, q2]⟩]
        rfl
      · rw [if_neg (fun z => q2 (by have := z.2; rw [ar_cl] at this; omega))]
        exact hz p p0 (by omega)
    · rw [if_neg q]
      exact ⟨τ, rfl, ht, fun p p0 p1 => hz p p0 (by omega)⟩
theorem tm_L25 (k : Nat) : ∀ (x : Int32) (τ : ST), (2147483647 - x.toInt).toNat < k → 0 ≤ x.toInt → x.toInt ≤ 930 → tkl (fun b _ => b = q_rf X a 20) (fun _ _ => False) τ0 τ → (∀ j : Int, 0 ≤ j → m_c X τ a j = if 3720 ≤ j ∧ j < 3720 + x.toInt then 0 else m_c X τ0 a j) →
    ∃ τ' : ST, F_X12_table_L25_1 X a k x τ = F_X12_table_L51_3 X a ((2147483647 - (0 : Int32).toInt).toNat + 1) (0 : Int32) τ' ∧ tkl (fun b _ => b = q_rf X a 20) (fun _ _ => False) τ0 τ' ∧ ∀ j : Int, 0 ≤ j → m_c X τ' a j = if 3720 ≤ j ∧ j < 4650 then 0 else m_c X τ0 a j := by
  induction k with
  | zero => intro x τ hm; exact absurd hm (Nat.not_lt_zero _)
  | succ k ih =>
    intro x τ hm h0 h1 ht hz
    have hb := ar_bd x
    rw [F_X12_table_L25_1_s]
    unfold F_X12_table_B25_1
    by_cases q : x.toInt < 930
    · rw [if_pos q, q_letE, q_letE, q_letE]
      have e : (x + 1).toInt = x.toInt + 1 := y_inc (by omega)
      have ei : ((3720 : Int32) + x).toInt = 3720 + x.toInt := by
        have e3 : (3720 : Int32).toInt = 3720 := rfl
        rw [ar_add, e3, ar_wr (by omega) (by omega)]
      refine ih (x + 1) _ (by omega) (by omega) (by omega) (ht.si _ rfl) (fun j j0 => ?_)
      rw [m_wr (X := X) (a := a) rfl ei (by omega) j j0, hz j j0, e]
      have z0 : (0 : Int32).toInt = 0 := rfl
      by_cases q2 : j = 3720 + x.toInt
      · rw [if_pos q2, if_pos ⟨by omega, by omega⟩, z0]
      · rw [if_neg q2]
        by_cases q3 : 3720 ≤ j ∧ j < 3720 + x.toInt
        · rw [if_pos q3, if_pos ⟨q3.1, by omega⟩]
        · rw [if_neg q3, if_neg (fun z => q3 ⟨z.1, by omega⟩)]
    · rw [if_neg q]
      refine ⟨τ, rfl, ht, fun j j0 => ?_⟩
      rw [hz j j0]
      by_cases q3 : 3720 ≤ j ∧ j < 4650
      · rw [if_pos q3, if_pos ⟨q3.1, by omega⟩]
      · rw [if_neg q3, if_neg (fun z => q3 ⟨z.1, by omega⟩)]
/-- cells kept by the class's reading -/
def tb_G (X : XW) (lb : Nat → Nat) (D : Nat) (σ σ' : ST) : Prop := (∀ b, lb b / 8192 ≠ 6 → b ≠ D → b ≠ tb_T X D → ∀ f, σ'.1 b f = σ.1 b f) ∧ σ'.2.1 = σ.2.1 ∧ ∀ b, b ≠ D → σ'.2.2 b = σ.2.2 b
theorem tb_F.tg (h : tb_F X lb D σ σ') : tb_G X lb D σ σ' := ⟨h.1, by rw [h.2.2], fun b _ => by rw [h.2.2]⟩
theorem tb_G.tr {ρ : ST} (h : tb_G X lb D σ σ') (k : tb_G X lb D σ' ρ) : tb_G X lb D σ ρ := ⟨fun b b1 b2 b3 f => (k.1 b b1 b2 b3 f).trans (h.1 b b1 b2 b3 f), k.2.1.trans h.2.1, fun b q => (k.2.2 b q).trans (h.2.2 b q)⟩
theorem tb_TT (H : tb_D X lb D T g) : T ≠ tb_T X D := by
  intro e
  have h7 := H.2.2.2.2.2.2.1
  have h9 := H.2.2.2.2.2.2.2.2
  rw [← e, h9] at h7
  exact absurd h7 (by decide)
/-- the class's new game, its flags and hands, and its text -/
theorem tb_begin (Y : y_S X lb) (H : tb_D X lb D T g) (hTl : q_ln X T = 900) (hTD : T ≠ D) {v : Int32} (hv : v.toInt = n) (hn : 0 ≤ n ∧ n ≤ 900) (hB : ∀ p : Int, 0 ≤ p → p < n → (σ.1 T p.toNat).toInt = B p ∧ -128 ≤ B p ∧ B p ≤ 127) :
    ∃ (ρ : ST) (V : Nat → Int → Int), F_X9_takes X σ D T v = q_bi (F_X9_readHead X (F_X3_advance X ρ D) D) (fun r_9 σ_10 => if r_9.toInt = 0 then ((0 : Int32), σ_10) else F_X9_takes_L41_1 X D ((2147483647 - (0 : Int32).toInt).toNat + 1) (0 : Int32) σ_10) ∧ tb_S X D T g ρ n B V (fun _ => 0) 0 0 ∧ tb_Rv V ∧ (ρ.1 D 3).toInt = 0 ∧ (ρ.1 D 6).toInt = 0 ∧ (ρ.1 D 7).toInt = -1 ∧ tb_G X lb D σ ρ := by
  have hD : lb D / 8192 ≠ 6 := by have := H.2.2.2.1; omega
  have hT : lb T / 8192 ≠ 6 := by have := H.2.2.2.2.1; omega
  have hA : lb (tb_T X D) / 8192 ≠ 6 := by have := H.2.2.2.2.2.1; omega
  have hTA := tb_TT H
  have hDA : D ≠ tb_T X D := Ne.symm (tb_TD H)
  obtain ⟨V, W, Rv⟩ := tb_reset (σ := σ) Y H.2.2.1
  unfold F_X9_takes
  rw [← H.2.1, q_letE (F_X0_reset X σ g)]
  obtain ⟨σ2, h2⟩ : ∃ s, s = F_X0_reset X σ g := ⟨_, rfl⟩
  rw [← h2] at W ⊢
  rw [q_letE (q_si σ2 D 9 0), q_letE (q_si (q_si σ2 D 9 0) D 10 0)]
  have t4 : tk (fun b f => b = D ∧ (f = 9 ∨ f = 10)) σ2 (q_si (q_si σ2 D 9 0) D 10 0) := (tk.rf.si _ ⟨rfl, Or.inl rfl⟩).si _ ⟨rfl, Or.inr rfl⟩
  have d9 : (q_si (q_si σ2 D 9 0) D 10 0).1 D 9 = 0 := by rw [si_f (by decide), si_eq]
  have d10 : (q_si (q_si σ2 D 9 0) D 10 0).1 D 10 = 0 := si_eq _ _ _ _
  obtain ⟨σ4, h4⟩ : ∃ s, s = q_si (q_si σ2 D 9 0) D 10 0 := ⟨_, rfl⟩
  rw [← h4] at t4 d9 d10 ⊢
  rw [q_letE (F_X5_clear X σ4 (q_rf X D 11))]
  obtain ⟨t6, z6⟩ := tb_clear (X := X) (D := D) (σ := σ4) H.2.2.2.2.2.2.2.1
  obtain ⟨σ6, h6⟩ : ∃ s, s = F_X5_clear X σ4 (q_rf X D 11) := ⟨_, rfl⟩
  rw [← h6] at t6 z6 ⊢
  have b6 : ∀ p : Int, 0 ≤ p → p < n → (σ6.1 T p.toNat).toInt = B p ∧ -128 ≤ B p ∧ B p ≤ 127 := fun p p0 p1 => by
    rw [t6.1 T _ hTA, t4.1 T _ (fun q => hTD q.1), W.1 T hT]
    exact hB p p0 p1
  obtain ⟨ρ, e1, E, e3, e6, e7, k⟩ := tc_start hTl hTD hv hn b6
  rw [e1, q_letE (F_X3_advance X ρ D)]
  have kD : ∀ b, b ≠ D → b ≠ tb_T X D → ∀ f, ρ.1 b f = σ2.1 b f := fun b b1 b2 f => by
    rw [k.1 b f (fun q => b1 q.1), t6.1 b f b2, t4.1 b f (fun q => b1 q.1)]
  refine ⟨ρ, V, rfl, ⟨E, ?_, fun p p0 p1 => ?_, ?_, ?_⟩, Rv, e3, e6, e7, fun b b1 b2 b3 f => ?_, ?_, fun b b1 => ?_⟩
  · rw [tb_v Y H (fun b b1 b2 f => kD b b1 b2 f)]
    exact W.2.2
  · rw [k.1 _ _ (fun q => (tb_TD H) q.1)]
    exact z6 p p0 p1
  · rw [k.1 D 9 (fun q => by have := q.2; omega), t6.1 D 9 hDA, d9]
    rfl
  · rw [k.1 D 10 (fun q => by have := q.2; omega), t6.1 D 10 hDA, d10]
    rfl
  · rw [kD b b2 b3]
    exact W.1 b b1 f
  · rw [k.2.1, t6.2, t4.2, W.2.1]
  · rw [k.2.2 b b1, t6.2, t4.2, W.2.1]
/-- both take a table out of the same bytes -/
theorem tb_takes (Y : y_S X lb) (H : tb_D X lb D T g) (ha : q_kd X a = 12) (hTl : q_ln X T = 900) (hTD : T ≠ D) {v : Int32} (hv : v.toInt = n) (hn : 0 ≤ n ∧ n ≤ 900) (hB : ∀ p : Int, 0 ≤ p → p < n → (σ.1 T p.toNat).toInt = B p ∧ -128 ≤ B p ∧ B p ≤ 127) (M0 : tm_E X τ a n B) (h16 : (τ.1 a 16).toInt = 0) (h12 : (τ.1 a 12).toInt = 0) (h0a : (τ.1 a 0).toInt = 0) (h8a : (τ.1 a 8).toInt = 0) :
    ∃ (z : Int32) (σ' τ' : ST), F_X9_takes X σ D T v = (z, σ') ∧ F_X12_table_L25_1 X a ((2147483647 - (0 : Int32).toInt).toNat + 1) (0 : Int32) (F_X12_next X τ a) = F_X12_table_E232_6 X τ' a ∧ tb_G X lb D σ σ' ∧ tb_P X a τ τ' ∧
      ((z.toInt = 1 ∧ ∃ (V : Nat → Int → Int) (r c w t : Int → Int) (f9 f10 : Int), tb_I X D T g a n B σ' τ' V r c w t f9 f10) ∨ (z.toInt = 0 ∧ tl_F σ' D τ' a)) := by
  have z0 : (0 : Int32).toInt = 0 := rfl
  obtain ⟨k20, k22, k23, k7⟩ := tb_k Y.1 ha
  have n20a : a ≠ q_rf X a 20 := Ne.symm (m_ne k20 ha (by decide))
  have n22a : a ≠ q_rf X a 22 := Ne.symm (m_ne k22 ha (by decide))
  have n207 : q_rf X a 7 ≠ q_rf X a 20 := m_ne k7 k20 (by decide)
  have n227 : q_rf X a 7 ≠ q_rf X a 22 := m_ne k7 k22 (by decide)
  obtain ⟨ρ, V, e, S, Rv, e3, e6, e7, G0⟩ := tb_begin Y H hTl hTD hv hn hB
  rw [e]
  obtain ⟨c1, m1, K, -⟩ := tl_adv S.1 M0 e3 h16 ⟨Int.le_refl 0, hn.1⟩ e6 e7
  obtain ⟨S1, f1⟩ := S.rd Y H c1.S2
  have p1 : tb_P X a τ (F_X12_next X τ a) := tb_P.rd Y.1 ha m1.S2
  have M1 := M0.k2 m1.S2
  have h01 : ((F_X12_next X τ a).1 a 12).toInt = 0 := by rw [tn_12 m1]; exact h12
  obtain ⟨σ1, hσ1⟩ : ∃ s, s = F_X3_advance X ρ D := ⟨_, rfl⟩
  obtain ⟨τ1, hτ1⟩ : ∃ s, s = F_X12_next X τ a := ⟨_, rfl⟩
  rw [← hσ1] at K S1 f1 ⊢
  rw [← hτ1] at K M1 h01 p1 ⊢
  obtain ⟨τ2, e2, t2, c2⟩ := tm_L25 (X := X) (a := a) (τ0 := τ1) ((2147483647 - (0 : Int32).toInt).toNat + 1) 0 τ1 (by decide) (by decide) (by decide) tkl.rf (fun j j0 => by rw [if_neg (by omega)])
  obtain ⟨τ3, e4, t3, c3⟩ := tm_L51 (X := X) (a := a) (τ0 := τ2) ((2147483647 - (0 : Int32).toInt).toNat + 1) 0 τ2 (by decide) (by decide) (by decide) tkl.rf (fun j j0 j1 => by omega)
  rw [e2, e4, tm_E70]
  have s13 : tl_same a τ1 τ3 := ⟨fun f _ _ => (t3.1 a f n22a).trans (t2.1 a f n20a), (t3.2.1 a 19 (fun q => q)).trans (t2.2.1 a 19 (fun q => q))⟩
  have M3 : tb_M X a τ3 n B (m_c X τ3 a) (m_wd X τ3 a) (fun _ => 0) (τ3.1 a 25).toInt (τ3.1 a 26).toInt := by
    obtain ⟨x1, x2, x3, x4⟩ := M1
    refine ⟨⟨?_, x2, x3, fun p p0 p1 => ?_⟩, rfl, rfl, c3, rfl, rfl, ?_, ?_⟩
    · rw [t3.1 a 9 n22a, t2.1 a 9 n20a]
      exact x1
    · rw [t3.1 _ _ n227, t2.1 _ _ n207]
      exact x4 p p0 p1
    · rw [t3.1 a 0 n22a, t2.1 a 0 n20a, p1.2.2.1]
      exact h0a
    · rw [t3.1 a 8 n22a, t2.1 a 8 n20a, p1.2.2.2]
      exact h8a
  have mc3 : ∀ j : Int, 0 ≤ j → m_c X τ3 a j = if 3720 ≤ j ∧ j < 4650 then 0 else m_c X τ1 a j := fun j j0 => by
    rw [← c2 j j0]
    exact congrArg Int32.toInt (t3.1 _ _ (m_ne k20 k22 (by decide)))
  have mw3 : ∀ j : Int, m_wd X τ3 a j = m_wd X τ1 a j := fun j => (congrArg Int64.toInt (t3.2.1 _ _ (fun q => q))).trans (congrArg Int64.toInt (t2.2.1 _ _ (fun q => q)))
  obtain ⟨M4, s4⟩ := M3.s9 Y.1 ha 0
  obtain ⟨M5, s5⟩ := M4.s10 Y.1 ha 0
  obtain ⟨M6, s6⟩ := M5.cw Y.1 ha (i := 3724) (v := 4) (A := 3724) rfl (by decide)
  have e4_ : (4 : Int32).toInt = 4 := rfl
  rw [z0, e4_] at M6
  rw [q_letE (q_si τ3 a 25 0), q_letE (q_si (q_si τ3 a 25 0) a 26 0), q_letE (q_si (q_si (q_si τ3 a 25 0) a 26 0) (q_rf X a 20) (3724 : Int32).toNatClampNeg 4)]
  have s16 := ((s13.tr s4).tr s5).tr s6
  obtain ⟨τ6, hτ6⟩ : ∃ s, s = q_si (q_si (q_si τ3 a 25 0) a 26 0) (q_rf X a 20) (3724 : Int32).toNatClampNeg 4 := ⟨_, rfl⟩
  rw [← hτ6] at M6 s16 ⊢
  have K6 := K.same (tl_sameC.rf (σ := σ1)) s16
  have h06 : (τ6.1 a 12).toInt = 0 := by rw [s16.1 12 (by decide) (by decide)]; exact h01
  have R0 : tb_R0 V (fun _ => 0) (m_up (m_c X τ3 a) 3724 4) (fun _ => 0) := by
    obtain ⟨v1, v2, v3, v4, v5⟩ := Rv
    refine ⟨v1, v2, v3, v4, v5, fun _ _ _ => rfl, fun j a1 a2 => ?_, fun _ _ _ => rfl⟩
    show (if j = 3724 then (4 : Int) else m_c X τ3 a j) = if j = 3724 then 4 else 0
    by_cases q : j = 3724
    · rw [if_pos q, if_pos q]
    · rw [if_neg q, if_neg q, mc3 j (by omega), if_pos ⟨a1, a2⟩]
  have p6 : tb_P X a τ1 τ6 := by
    refine ⟨fun j a1 a2 => ?_, fun j a1 a2 => ?_, M6.2.2.2.2.2.2.1.trans (p1.2.2.1.trans h0a).symm, M6.2.2.2.2.2.2.2.trans (p1.2.2.2.trans h8a).symm⟩
    · rw [M6.2.1, m_up_ne (by omega), mc3 j a1, if_neg (by omega)]
    · rw [M6.2.2.1]
      exact mw3 j
  obtain ⟨z1, σ7, τ7, e8, e9, u1, u2, u3⟩ := tb_head Y H ha S1 M6 K6 h06 R0 (tm_Kc X a)
  rw [e8, q_biP, e9]
  rcases u3 with ⟨q1, V', r', c', w', t', f9', f10', I⟩ | ⟨q1, q2⟩
  · rw [if_neg (by omega : ¬ z1.toInt = 0)]
    unfold tm_Kc
    have h07 := I.2.2.2.1
    have b7 := I.2.2.1.2.2.2.2.2.2.1
    obtain ⟨z, σ8, τ8, a1, a2, x1, x2, x3⟩ := tb_takesL Y H ha ((2147483647 - (0 : Int32).toInt).toNat + 1) ((901 - (τ7.1 a 15).toInt).toNat + (1 - (τ7.1 a 12).toInt).toNat + 1) 0 σ7 τ7 V' r' c' w' t' f9' f10' (by decide) (by omega) (by decide) (by rw [z0]; exact b7) I
    rw [a1, a2]
    exact ⟨z, σ8, τ8, rfl, rfl, ((G0.tr f1.tg).tr u1.tg).tr x1.tg, ((p1.tr p6).tr u2).tr x2, x3⟩
  · have q3 := q2.2.1
    rw [if_pos q1]
    unfold tm_Kc
    obtain ⟨m, hm⟩ : ∃ m, m = (901 - (τ7.1 a 15).toInt).toNat + (1 - (τ7.1 a 12).toInt).toNat := ⟨_, rfl⟩
    rw [← hm, F_X12_table_L145_5_s, tm_B145, if_neg (by omega : ¬ (τ7.1 a 12).toInt = 0)]
    exact ⟨0, σ7, τ7, rfl, rfl, (G0.tr f1.tg).tr u1.tg, (p1.tr p6).tr u2, Or.inr ⟨rfl, q2⟩⟩
end TM
end
/-! FROM 48t.copy.lean.txt -/
section
/-! GAMES COPIED, BLOCKS COPIED -/
def y_in (L : List (Nat × Nat)) (id : Nat) (i : Int) : Prop := ∃ e ∈ L, e.1 = id ∧ (e.2 = 99 ∧ 0 ≤ i ∧ i < (y_gn id : Int) ∨ e.2 ≠ 99 ∧ i = (e.2 : Int))
/-- g1 has taken of g what L names -/
def y_C (X : XW) (lb : Nat → Nat) (g1 o g : Nat) (σ τ : ST) (L : List (Nat × Nat)) : Prop := ∃ V1 : Nat → Int → Int, y_W X lb g1 o σ τ V1 ∧ ∀ id i, y_in L id i → V1 id i = y_v X g σ id i
section YC
variable {X : XW} {lb : Nat → Nat} {g1 g o o' : Nat} {σ τ : ST} {L : List (Nat × Nat)}
theorem y_C.rf : y_C X lb g1 o g σ σ [] := ⟨_, y_W.rf, fun id i h => by obtain ⟨e, he, _⟩ := h; cases he⟩
theorem y_C.si (S : y_S X lb) (G1 : y_G X lb g1 o) (G : y_G X lb g o') (ho : o' ≠ o) (h : y_C X lb g1 o g σ τ L) {id : Nat} (hid : id < 25) (f : Nat) (hf : f ≠ 99) : y_C X lb g1 o g σ (q_si τ (y_gA X g1 id) f (τ.1 (y_gA X g id) f)) ((id, f) :: L) := by
  obtain ⟨V1, W, hd⟩ := h
  have W' := W.si S G1 hid f (τ.1 (y_gA X g id) f)
  have hv : (τ.1 (y_gA X g id) f).toInt = y_v X g σ id (f : Int) := by
    rw [W.1 _ (by rw [y_own S G hid]; exact ho), y_v_rdn hid]
  refine ⟨_, W', fun id' i' hi => ?_⟩
  show (if id' = id ∧ i' = (f : Int) then (τ.1 (y_gA X g id) f).toInt else V1 id' i') = y_v X g σ id' i'
  by_cases q : id' = id ∧ i' = (f : Int)
  · obtain ⟨rfl, rfl⟩ := q
    rw [if_pos ⟨rfl, rfl⟩, hv]
  · rw [if_neg q]
    obtain ⟨e, he, h1, h2⟩ := hi
    rcases List.mem_cons.mp he with he | he
    · subst he
      rcases h2 with ⟨h2, _⟩ | ⟨_, h2⟩
      · exact absurd h2 hf
      · exact absurd ⟨h1.symm, h2⟩ q
    · exact hd id' i' ⟨e, he, h1, h2⟩
theorem y_C.row (S : y_S X lb) (G1 : y_G X lb g1 o) (G : y_G X lb g o') (ho : o' ≠ o) (h : y_C X lb g1 o g σ τ L) {id r r' : Nat} (hid : 4 ≤ id ∧ id < 25) (hr : q_rf X r 0 = y_gA X g1 id) (hr' : q_rf X r' 0 = y_gA X g id) : y_C X lb g1 o g σ (F_X5_copyFrom X τ r r') ((id, 99) :: L) := by
  obtain ⟨V1, W, hd⟩ := h
  have own : lb (y_gA X g id) / 8192 ≠ o := by rw [y_own S G hid.2]; exact ho
  have W' := W.copy S G1 (r' := r') hid hr (by rw [hr']; exact y_ln S G hid) (by rw [hr']; exact y_gA_ne S G1 hid.2 own)
  refine ⟨_, W', fun id' i' hi => ?_⟩
  show (if id' = id ∧ 0 ≤ i' ∧ i' < (y_gn id : Int) then (τ.1 (q_rf X r' 0) i'.toNat).toInt else V1 id' i') = y_v X g σ id' i'
  by_cases q : id' = id ∧ 0 ≤ i' ∧ i' < (y_gn id : Int)
  · obtain ⟨rfl, q0, q1⟩ := q
    rw [if_pos ⟨rfl, q0, q1⟩, hr', W.1 _ own]
    unfold y_v
    rw [if_pos ⟨hid.2, q0⟩]
  · rw [if_neg q]
    obtain ⟨e, he, h1, h2⟩ := hi
    rcases List.mem_cons.mp he with he | he
    · subst he
      rcases h2 with ⟨_, h2⟩ | ⟨h2, _⟩
      · exact absurd ⟨h1.symm, by rw [← h1] at h2; exact h2⟩ q
      · exact absurd rfl h2
    · exact hd id' i' ⟨e, he, h1, h2⟩
def y_all : List (Nat × Nat) := [(0, 7), (0, 6), (0, 5), (0, 4), (22, 99), (21, 99), (20, 99), (19, 99), (18, 99), (3, 2), (3, 1), (3, 0), (17, 99), (16, 99), (15, 99), (14, 99), (2, 1), (2, 0), (13, 99), (12, 99), (11, 99), (10, 99), (9, 99), (8, 99), (7, 99), (6, 99), (5, 99), (4, 99), (1, 4), (1, 3), (1, 2), (1, 1), (1, 0)]
theorem tb_copy (S : y_S X lb) (G1 : y_G X lb g1 o) (G : y_G X lb g o') (ho : o' ≠ o) : y_C X lb g1 o g σ (F_X0_copyFrom X σ g1 g) y_all := by
  have h0 : y_C X lb g1 o g σ σ [] := y_C.rf
  unfold F_X0_copyFrom F_X6_copyFrom F_X1_copyFrom F_X2_copyFrom F_X8_copyFrom
  have h1 := h0.si S G1 G ho (id := 1) (by decide) 0 (by decide)
  rw [q_letE (σ.1 (q_rf X g 0) 0), q_letE (q_si σ (q_rf X g1 0) 0 (σ.1 (q_rf X g 0) 0))]
  obtain ⟨s1, e1⟩ : ∃ s, s = q_si σ (q_rf X g1 0) 0 (σ.1 (q_rf X g 0) 0) := ⟨_, rfl⟩
  have h1' : y_C X lb g1 o g σ (q_si σ (q_rf X g1 0) 0 (σ.1 (q_rf X g 0) 0)) _ := h1
  rw [← e1] at h1' ⊢
  clear h0 h1
  have h1 := h1'
  clear h1' e1
  have h2 := h1.si S G1 G ho (id := 1) (by decide) 1 (by decide)
  rw [q_letE (s1.1 (q_rf X g 0) 1), q_letE (q_si s1 (q_rf X g1 0) 1 (s1.1 (q_rf X g 0) 1))]
  obtain ⟨s2, e2⟩ : ∃ s, s = q_si s1 (q_rf X g1 0) 1 (s1.1 (q_rf X g 0) 1) := ⟨_, rfl⟩
  have h2' : y_C X lb g1 o g σ (q_si s1 (q_rf X g1 0) 1 (s1.1 (q_rf X g 0) 1)) _ := h2
  rw [← e2] at h2' ⊢
  clear h2
  have h2 := h2'
  clear h2' e2
  have h3 := h2.si S G1 G ho (id := 1) (by decide) 2 (by decide)
  rw [q_letE (s2.1 (q_rf X g 0) 2), q_letE (q_si s2 (q_rf X g1 0) 2 (s2.1 (q_rf X g 0) 2))]
  obtain ⟨s3, e3⟩ : ∃ s, s = q_si s2 (q_rf X g1 0) 2 (s2.1 (q_rf X g 0) 2) := ⟨_, rfl⟩
  have h3' : y_C X lb g1 o g σ (q_si s2 (q_rf X g1 0) 2 (s2.1 (q_rf X g 0) 2)) _ := h3
  rw [← e3] at h3' ⊢
  clear h3
  have h3 := h3'
  clear h3' e3
  have h4 := h3.si S G1 G ho (id := 1) (by decide) 3 (by decide)
  rw [q_letE (s3.1 (q_rf X g 0) 3), q_letE (q_si s3 (q_rf X g1 0) 3 (s3.1 (q_rf X g 0) 3))]
  obtain ⟨s4, e4⟩ : ∃ s, s = q_si s3 (q_rf X g1 0) 3 (s3.1 (q_rf X g 0) 3) := ⟨_, rfl⟩
  have h4' : y_C X lb g1 o g σ (q_si s3 (q_rf X g1 0) 3 (s3.1 (q_rf X g 0) 3)) _ := h4
  rw [← e4] at h4' ⊢
  clear h4
  have h4 := h4'
  clear h4' e4
  have h5 := h4.si S G1 G ho (id := 1) (by decide) 4 (by decide)
  rw [q_letE (s4.1 (q_rf X g 0) 4), q_letE (q_si s4 (q_rf X g1 0) 4 (s4.1 (q_rf X g 0) 4))]
  obtain ⟨s5, e5⟩ : ∃ s, s = q_si s4 (q_rf X g1 0) 4 (s4.1 (q_rf X g 0) 4) := ⟨_, rfl⟩
  have h5' : y_C X lb g1 o g σ (q_si s4 (q_rf X g1 0) 4 (s4.1 (q_rf X g 0) 4)) _ := h5
  rw [← e5] at h5' ⊢
  clear h5
  have h5 := h5'
  clear h5' e5
  have h6 := h5.row S G1 G ho (id := 4) (r := q_rf X (q_rf X g1 0) 5) (r' := q_rf X (q_rf X g 0) 5) ⟨by decide, by decide⟩ rfl rfl
  rw [q_letE (F_X5_copyFrom X s5 (q_rf X (q_rf X g1 0) 5) (q_rf X (q_rf X g 0) 5))]
  obtain ⟨s6, e6⟩ : ∃ s, s = F_X5_copyFrom X s5 (q_rf X (q_rf X g1 0) 5) (q_rf X (q_rf X g 0) 5) := ⟨_, rfl⟩
  have h6' : y_C X lb g1 o g σ (F_X5_copyFrom X s5 (q_rf X (q_rf X g1 0) 5) (q_rf X (q_rf X g 0) 5)) _ := h6
  rw [← e6] at h6' ⊢
  clear h6
  have h6 := h6'
  clear h6' e6
  have h7 := h6.row S G1 G ho (id := 5) (r := q_rf X (q_rf X g1 0) 6) (r' := q_rf X (q_rf X g 0) 6) ⟨by decide, by decide⟩ rfl rfl
  rw [q_letE (F_X5_copyFrom X s6 (q_rf X (q_rf X g1 0) 6) (q_rf X (q_rf X g 0) 6))]
  obtain ⟨s7, e7⟩ : ∃ s, s = F_X5_copyFrom X s6 (q_rf X (q_rf X g1 0) 6) (q_rf X (q_rf X g 0) 6) := ⟨_, rfl⟩
  have h7' : y_C X lb g1 o g σ (F_X5_copyFrom X s6 (q_rf X (q_rf X g1 0) 6) (q_rf X (q_rf X g 0) 6)) _ := h7
  rw [← e7] at h7' ⊢
  clear h7
  have h7 := h7'
  clear h7' e7
  have h8 := h7.row S G1 G ho (id := 6) (r := q_rf X (q_rf X g1 0) 7) (r' := q_rf X (q_rf X g 0) 7) ⟨by decide, by decide⟩ rfl rfl
  rw [q_letE (F_X5_copyFrom X s7 (q_rf X (q_rf X g1 0) 7) (q_rf X (q_rf X g 0) 7))]
  obtain ⟨s8, e8⟩ : ∃ s, s = F_X5_copyFrom X s7 (q_rf X (q_rf X g1 0) 7) (q_rf X (q_rf X g 0) 7) := ⟨_, rfl⟩
  have h8' : y_C X lb g1 o g σ (F_X5_copyFrom X s7 (q_rf X (q_rf X g1 0) 7) (q_rf X (q_rf X g 0) 7)) _ := h8
  rw [← e8] at h8' ⊢
  clear h8
  have h8 := h8'
  clear h8' e8
  rw [q_letE s8]
  have h9 := h8.row S G1 G ho (id := 7) (r := q_rf X (q_rf X g1 1) 0) (r' := q_rf X (q_rf X g 1) 0) ⟨by decide, by decide⟩ rfl rfl
  rw [q_letE (F_X5_copyFrom X s8 (q_rf X (q_rf X g1 1) 0) (q_rf X (q_rf X g 1) 0))]
  obtain ⟨s9, e9⟩ : ∃ s, s = F_X5_copyFrom X s8 (q_rf X (q_rf X g1 1) 0) (q_rf X (q_rf X g 1) 0) := ⟨_, rfl⟩
  have h9' : y_C X lb g1 o g σ (F_X5_copyFrom X s8 (q_rf X (q_rf X g1 1) 0) (q_rf X (q_rf X g 1) 0)) _ := h9
  rw [← e9] at h9' ⊢
  clear h9
  have h9 := h9'
  clear h9' e9
  have h10 := h9.row S G1 G ho (id := 8) (r := q_rf X (q_rf X g1 1) 1) (r' := q_rf X (q_rf X g 1) 1) ⟨by decide, by decide⟩ rfl rfl
  rw [q_letE (F_X5_copyFrom X s9 (q_rf X (q_rf X g1 1) 1) (q_rf X (q_rf X g 1) 1))]
  obtain ⟨s10, e10⟩ : ∃ s, s = F_X5_copyFrom X s9 (q_rf X (q_rf X g1 1) 1) (q_rf X (q_rf X g 1) 1) := ⟨_, rfl⟩
  have h10' : y_C X lb g1 o g σ (F_X5_copyFrom X s9 (q_rf X (q_rf X g1 1) 1) (q_rf X (q_rf X g 1) 1)) _ := h10
  rw [← e10] at h10' ⊢
  clear h10
  have h10 := h10'
  clear h10' e10
  have h11 := h10.row S G1 G ho (id := 9) (r := q_rf X (q_rf X g1 1) 2) (r' := q_rf X (q_rf X g 1) 2) ⟨by decide, by decide⟩ rfl rfl
  rw [q_letE (F_X5_copyFrom X s10 (q_rf X (q_rf X g1 1) 2) (q_rf X (q_rf X g 1) 2))]
  obtain ⟨s11, e11⟩ : ∃ s, s = F_X5_copyFrom X s10 (q_rf X (q_rf X g1 1) 2) (q_rf X (q_rf X g 1) 2) := ⟨_, rfl⟩
  have h11' : y_C X lb g1 o g σ (F_X5_copyFrom X s10 (q_rf X (q_rf X g1 1) 2) (q_rf X (q_rf X g 1) 2)) _ := h11
  rw [← e11] at h11' ⊢
  clear h11
  have h11 := h11'
  clear h11' e11
  have h12 := h11.row S G1 G ho (id := 10) (r := q_rf X (q_rf X g1 1) 3) (r' := q_rf X (q_rf X g 1) 3) ⟨by decide, by decide⟩ rfl rfl
  rw [q_letE (F_X5_copyFrom X s11 (q_rf X (q_rf X g1 1) 3) (q_rf X (q_rf X g 1) 3))]
  obtain ⟨s12, e12⟩ : ∃ s, s = F_X5_copyFrom X s11 (q_rf X (q_rf X g1 1) 3) (q_rf X (q_rf X g 1) 3) := ⟨_, rfl⟩
  have h12' : y_C X lb g1 o g σ (F_X5_copyFrom X s11 (q_rf X (q_rf X g1 1) 3) (q_rf X (q_rf X g 1) 3)) _ := h12
  rw [← e12] at h12' ⊢
  clear h12
  have h12 := h12'
  clear h12' e12
  have h13 := h12.row S G1 G ho (id := 11) (r := q_rf X (q_rf X g1 1) 4) (r' := q_rf X (q_rf X g 1) 4) ⟨by decide, by decide⟩ rfl rfl
  rw [q_letE (F_X5_copyFrom X s12 (q_rf X (q_rf X g1 1) 4) (q_rf X (q_rf X g 1) 4))]
  obtain ⟨s13, e13⟩ : ∃ s, s = F_X5_copyFrom X s12 (q_rf X (q_rf X g1 1) 4) (q_rf X (q_rf X g 1) 4) := ⟨_, rfl⟩
  have h13' : y_C X lb g1 o g σ (F_X5_copyFrom X s12 (q_rf X (q_rf X g1 1) 4) (q_rf X (q_rf X g 1) 4)) _ := h13
  rw [← e13] at h13' ⊢
  clear h13
  have h13 := h13'
  clear h13' e13
  have h14 := h13.row S G1 G ho (id := 12) (r := q_rf X (q_rf X g1 1) 5) (r' := q_rf X (q_rf X g 1) 5) ⟨by decide, by decide⟩ rfl rfl
  rw [q_letE (F_X5_copyFrom X s13 (q_rf X (q_rf X g1 1) 5) (q_rf X (q_rf X g 1) 5))]
  obtain ⟨s14, e14⟩ : ∃ s, s = F_X5_copyFrom X s13 (q_rf X (q_rf X g1 1) 5) (q_rf X (q_rf X g 1) 5) := ⟨_, rfl⟩
  have h14' : y_C X lb g1 o g σ (F_X5_copyFrom X s13 (q_rf X (q_rf X g1 1) 5) (q_rf X (q_rf X g 1) 5)) _ := h14
  rw [← e14] at h14' ⊢
  clear h14
  have h14 := h14'
  clear h14' e14
  have h15 := h14.row S G1 G ho (id := 13) (r := q_rf X (q_rf X g1 1) 6) (r' := q_rf X (q_rf X g 1) 6) ⟨by decide, by decide⟩ rfl rfl
  rw [q_letE (F_X5_copyFrom X s14 (q_rf X (q_rf X g1 1) 6) (q_rf X (q_rf X g 1) 6))]
  obtain ⟨s15, e15⟩ : ∃ s, s = F_X5_copyFrom X s14 (q_rf X (q_rf X g1 1) 6) (q_rf X (q_rf X g 1) 6) := ⟨_, rfl⟩
  have h15' : y_C X lb g1 o g σ (F_X5_copyFrom X s14 (q_rf X (q_rf X g1 1) 6) (q_rf X (q_rf X g 1) 6)) _ := h15
  rw [← e15] at h15' ⊢
  clear h15
  have h15 := h15'
  clear h15' e15
  rw [q_letE s15]
  have h16 := h15.si S G1 G ho (id := 2) (by decide) 0 (by decide)
  rw [q_letE (s15.1 (q_rf X g 2) 0), q_letE (q_si s15 (q_rf X g1 2) 0 (s15.1 (q_rf X g 2) 0))]
  obtain ⟨s16, e16⟩ : ∃ s, s = q_si s15 (q_rf X g1 2) 0 (s15.1 (q_rf X g 2) 0) := ⟨_, rfl⟩
  have h16' : y_C X lb g1 o g σ (q_si s15 (q_rf X g1 2) 0 (s15.1 (q_rf X g 2) 0)) _ := h16
  rw [← e16] at h16' ⊢
  clear h16
  have h16 := h16'
  clear h16' e16
  have h17 := h16.si S G1 G ho (id := 2) (by decide) 1 (by decide)
  rw [q_letE (s16.1 (q_rf X g 2) 1), q_letE (q_si s16 (q_rf X g1 2) 1 (s16.1 (q_rf X g 2) 1))]
  obtain ⟨s17, e17⟩ : ∃ s, s = q_si s16 (q_rf X g1 2) 1 (s16.1 (q_rf X g 2) 1) := ⟨_, rfl⟩
  have h17' : y_C X lb g1 o g σ (q_si s16 (q_rf X g1 2) 1 (s16.1 (q_rf X g 2) 1)) _ := h17
  rw [← e17] at h17' ⊢
  clear h17
  have h17 := h17'
  clear h17' e17
  have h18 := h17.row S G1 G ho (id := 14) (r := q_rf X (q_rf X g1 2) 2) (r' := q_rf X (q_rf X g 2) 2) ⟨by decide, by decide⟩ rfl rfl
  rw [q_letE (F_X5_copyFrom X s17 (q_rf X (q_rf X g1 2) 2) (q_rf X (q_rf X g 2) 2))]
  obtain ⟨s18, e18⟩ : ∃ s, s = F_X5_copyFrom X s17 (q_rf X (q_rf X g1 2) 2) (q_rf X (q_rf X g 2) 2) := ⟨_, rfl⟩
  have h18' : y_C X lb g1 o g σ (F_X5_copyFrom X s17 (q_rf X (q_rf X g1 2) 2) (q_rf X (q_rf X g 2) 2)) _ := h18
  rw [← e18] at h18' ⊢
  clear h18
  have h18 := h18'
  clear h18' e18
  have h19 := h18.row S G1 G ho (id := 15) (r := q_rf X (q_rf X g1 2) 3) (r' := q_rf X (q_rf X g 2) 3) ⟨by decide, by decide⟩ rfl rfl
  rw [q_letE (F_X5_copyFrom X s18 (q_rf X (q_rf X g1 2) 3) (q_rf X (q_rf X g 2) 3))]
  obtain ⟨s19, e19⟩ : ∃ s, s = F_X5_copyFrom X s18 (q_rf X (q_rf X g1 2) 3) (q_rf X (q_rf X g 2) 3) := ⟨_, rfl⟩
  have h19' : y_C X lb g1 o g σ (F_X5_copyFrom X s18 (q_rf X (q_rf X g1 2) 3) (q_rf X (q_rf X g 2) 3)) _ := h19
  rw [← e19] at h19' ⊢
  clear h19
  have h19 := h19'
  clear h19' e19
  have h20 := h19.row S G1 G ho (id := 16) (r := q_rf X (q_rf X g1 2) 4) (r' := q_rf X (q_rf X g 2) 4) ⟨by decide, by decide⟩ rfl rfl
  rw [q_letE (F_X5_copyFrom X s19 (q_rf X (q_rf X g1 2) 4) (q_rf X (q_rf X g 2) 4))]
  obtain ⟨s20, e20⟩ : ∃ s, s = F_X5_copyFrom X s19 (q_rf X (q_rf X g1 2) 4) (q_rf X (q_rf X g 2) 4) := ⟨_, rfl⟩
  have h20' : y_C X lb g1 o g σ (F_X5_copyFrom X s19 (q_rf X (q_rf X g1 2) 4) (q_rf X (q_rf X g 2) 4)) _ := h20
  rw [← e20] at h20' ⊢
  clear h20
  have h20 := h20'
  clear h20' e20
  have h21 := h20.row S G1 G ho (id := 17) (r := q_rf X (q_rf X g1 2) 5) (r' := q_rf X (q_rf X g 2) 5) ⟨by decide, by decide⟩ rfl rfl
  rw [q_letE (F_X5_copyFrom X s20 (q_rf X (q_rf X g1 2) 5) (q_rf X (q_rf X g 2) 5))]
  obtain ⟨s21, e21⟩ : ∃ s, s = F_X5_copyFrom X s20 (q_rf X (q_rf X g1 2) 5) (q_rf X (q_rf X g 2) 5) := ⟨_, rfl⟩
  have h21' : y_C X lb g1 o g σ (F_X5_copyFrom X s20 (q_rf X (q_rf X g1 2) 5) (q_rf X (q_rf X g 2) 5)) _ := h21
  rw [← e21] at h21' ⊢
  clear h21
  have h21 := h21'
  clear h21' e21
  rw [q_letE s21]
  have h22 := h21.si S G1 G ho (id := 3) (by decide) 0 (by decide)
  rw [q_letE (s21.1 (q_rf X g 3) 0), q_letE (q_si s21 (q_rf X g1 3) 0 (s21.1 (q_rf X g 3) 0))]
  obtain ⟨s22, e22⟩ : ∃ s, s = q_si s21 (q_rf X g1 3) 0 (s21.1 (q_rf X g 3) 0) := ⟨_, rfl⟩
  have h22' : y_C X lb g1 o g σ (q_si s21 (q_rf X g1 3) 0 (s21.1 (q_rf X g 3) 0)) _ := h22
  rw [← e22] at h22' ⊢
  clear h22
  have h22 := h22'
  clear h22' e22
  have h23 := h22.si S G1 G ho (id := 3) (by decide) 1 (by decide)
  rw [q_letE (s22.1 (q_rf X g 3) 1), q_letE (q_si s22 (q_rf X g1 3) 1 (s22.1 (q_rf X g 3) 1))]
  obtain ⟨s23, e23⟩ : ∃ s, s = q_si s22 (q_rf X g1 3) 1 (s22.1 (q_rf X g 3) 1) := ⟨_, rfl⟩
  have h23' : y_C X lb g1 o g σ (q_si s22 (q_rf X g1 3) 1 (s22.1 (q_rf X g 3) 1)) _ := h23
  rw [← e23] at h23' ⊢
  clear h23
  have h23 := h23'
  clear h23' e23
  have h24 := h23.si S G1 G ho (id := 3) (by decide) 2 (by decide)
  rw [q_letE (s23.1 (q_rf X g 3) 2), q_letE (q_si s23 (q_rf X g1 3) 2 (s23.1 (q_rf X g 3) 2))]
  obtain ⟨s24, e24⟩ : ∃ s, s = q_si s23 (q_rf X g1 3) 2 (s23.1 (q_rf X g 3) 2) := ⟨_, rfl⟩
  have h24' : y_C X lb g1 o g σ (q_si s23 (q_rf X g1 3) 2 (s23.1 (q_rf X g 3) 2)) _ := h24
  rw [← e24] at h24' ⊢
  clear h24
  have h24 := h24'
  clear h24' e24
  have h25 := h24.row S G1 G ho (id := 18) (r := q_rf X (q_rf X g1 3) 3) (r' := q_rf X (q_rf X g 3) 3) ⟨by decide, by decide⟩ rfl rfl
  rw [q_letE (F_X5_copyFrom X s24 (q_rf X (q_rf X g1 3) 3) (q_rf X (q_rf X g 3) 3))]
  obtain ⟨s25, e25⟩ : ∃ s, s = F_X5_copyFrom X s24 (q_rf X (q_rf X g1 3) 3) (q_rf X (q_rf X g 3) 3) := ⟨_, rfl⟩
  have h25' : y_C X lb g1 o g σ (F_X5_copyFrom X s24 (q_rf X (q_rf X g1 3) 3) (q_rf X (q_rf X g 3) 3)) _ := h25
  rw [← e25] at h25' ⊢
  clear h25
  have h25 := h25'
  clear h25' e25
  have h26 := h25.row S G1 G ho (id := 19) (r := q_rf X (q_rf X g1 3) 4) (r' := q_rf X (q_rf X g 3) 4) ⟨by decide, by decide⟩ rfl rfl
  rw [q_letE (F_X5_copyFrom X s25 (q_rf X (q_rf X g1 3) 4) (q_rf X (q_rf X g 3) 4))]
  obtain ⟨s26, e26⟩ : ∃ s, s = F_X5_copyFrom X s25 (q_rf X (q_rf X g1 3) 4) (q_rf X (q_rf X g 3) 4) := ⟨_, rfl⟩
  have h26' : y_C X lb g1 o g σ (F_X5_copyFrom X s25 (q_rf X (q_rf X g1 3) 4) (q_rf X (q_rf X g 3) 4)) _ := h26
  rw [← e26] at h26' ⊢
  clear h26
  have h26 := h26'
  clear h26' e26
  have h27 := h26.row S G1 G ho (id := 20) (r := q_rf X (q_rf X g1 3) 5) (r' := q_rf X (q_rf X g 3) 5) ⟨by decide, by decide⟩ rfl rfl
  rw [q_letE (F_X5_copyFrom X s26 (q_rf X (q_rf X g1 3) 5) (q_rf X (q_rf X g 3) 5))]
  obtain ⟨s27, e27⟩ : ∃ s, s = F_X5_copyFrom X s26 (q_rf X (q_rf X g1 3) 5) (q_rf X (q_rf X g 3) 5) := ⟨_, rfl⟩
  have h27' : y_C X lb g1 o g σ (F_X5_copyFrom X s26 (q_rf X (q_rf X g1 3) 5) (q_rf X (q_rf X g 3) 5)) _ := h27
  rw [← e27] at h27' ⊢
  clear h27
  have h27 := h27'
  clear h27' e27
  have h28 := h27.row S G1 G ho (id := 21) (r := q_rf X (q_rf X g1 3) 6) (r' := q_rf X (q_rf X g 3) 6) ⟨by decide, by decide⟩ rfl rfl
  rw [q_letE (F_X5_copyFrom X s27 (q_rf X (q_rf X g1 3) 6) (q_rf X (q_rf X g 3) 6))]
  obtain ⟨s28, e28⟩ : ∃ s, s = F_X5_copyFrom X s27 (q_rf X (q_rf X g1 3) 6) (q_rf X (q_rf X g 3) 6) := ⟨_, rfl⟩
  have h28' : y_C X lb g1 o g σ (F_X5_copyFrom X s27 (q_rf X (q_rf X g1 3) 6) (q_rf X (q_rf X g 3) 6)) _ := h28
  rw [← e28] at h28' ⊢
  clear h28
  have h28 := h28'
  clear h28' e28
  have h29 := h28.row S G1 G ho (id := 22) (r := q_rf X (q_rf X g1 3) 7) (r' := q_rf X (q_rf X g 3) 7) ⟨by decide, by decide⟩ rfl rfl
  rw [q_letE (F_X5_copyFrom X s28 (q_rf X (q_rf X g1 3) 7) (q_rf X (q_rf X g 3) 7))]
  obtain ⟨s29, e29⟩ : ∃ s, s = F_X5_copyFrom X s28 (q_rf X (q_rf X g1 3) 7) (q_rf X (q_rf X g 3) 7) := ⟨_, rfl⟩
  have h29' : y_C X lb g1 o g σ (F_X5_copyFrom X s28 (q_rf X (q_rf X g1 3) 7) (q_rf X (q_rf X g 3) 7)) _ := h29
  rw [← e29] at h29' ⊢
  clear h29
  have h29 := h29'
  clear h29' e29
  rw [q_letE s29]
  have h30 := h29.si S G1 G ho (id := 0) (by decide) 4 (by decide)
  rw [q_letE (s29.1 (g) 4), q_letE (q_si s29 (g1) 4 (s29.1 (g) 4))]
  obtain ⟨s30, e30⟩ : ∃ s, s = q_si s29 (g1) 4 (s29.1 (g) 4) := ⟨_, rfl⟩
  have h30' : y_C X lb g1 o g σ (q_si s29 (g1) 4 (s29.1 (g) 4)) _ := h30
  rw [← e30] at h30' ⊢
  clear h30
  have h30 := h30'
  clear h30' e30
  have h31 := h30.si S G1 G ho (id := 0) (by decide) 5 (by decide)
  rw [q_letE (s30.1 (g) 5), q_letE (q_si s30 (g1) 5 (s30.1 (g) 5))]
  obtain ⟨s31, e31⟩ : ∃ s, s = q_si s30 (g1) 5 (s30.1 (g) 5) := ⟨_, rfl⟩
  have h31' : y_C X lb g1 o g σ (q_si s30 (g1) 5 (s30.1 (g) 5)) _ := h31
  rw [← e31] at h31' ⊢
  clear h31
  have h31 := h31'
  clear h31' e31
  have h32 := h31.si S G1 G ho (id := 0) (by decide) 6 (by decide)
  rw [q_letE (s31.1 (g) 6), q_letE (q_si s31 (g1) 6 (s31.1 (g) 6))]
  obtain ⟨s32, e32⟩ : ∃ s, s = q_si s31 (g1) 6 (s31.1 (g) 6) := ⟨_, rfl⟩
  have h32' : y_C X lb g1 o g σ (q_si s31 (g1) 6 (s31.1 (g) 6)) _ := h32
  rw [← e32] at h32' ⊢
  clear h32
  have h32 := h32'
  clear h32' e32
  have h33 := h32.si S G1 G ho (id := 0) (by decide) 7 (by decide)
  rw [q_letE (s32.1 (g) 7), q_letE (q_si s32 (g1) 7 (s32.1 (g) 7))]
  obtain ⟨s33, e33⟩ : ∃ s, s = q_si s32 (g1) 7 (s32.1 (g) 7) := ⟨_, rfl⟩
  have h33' : y_C X lb g1 o g σ (q_si s32 (g1) 7 (s32.1 (g) 7)) _ := h33
  rw [← e33] at h33' ⊢
  clear h33
  have h33 := h33'
  clear h33' e33
  exact h33
end YC
section YB
variable {X : XW} {a : Nat} {τ τ0 : ST}
/-- block s to block d -/
theorem tm_copyW {v1 v2 : Int32} {s d : Int} (hv1 : v1.toInt = s) (hv2 : v2.toInt = d) (hs : 0 ≤ s ∧ s ≤ 4) (hd : 0 ≤ d ∧ d ≤ 4) (hsd : s ≠ d) (k : Nat) : ∀ (x : Int32) (τ : ST), (2147483647 - x.toInt).toNat < k → 0 ≤ x.toInt → x.toInt ≤ 6 → tkl (fun _ _ => False) (fun b _ => b = q_rf X a 23) τ0 τ → (∀ j : Int, 0 ≤ j → m_wd X τ a j = if 6 * d ≤ j ∧ j < 6 * d + x.toInt then m_wd X τ0 a (6 * s + (j - 6 * d)) else m_wd X τ0 a j) →
    tkl (fun _ _ => False) (fun b _ => b = q_rf X a 23) τ0 (F_X12_copy_L41_3 X v2 v1 a k x τ) ∧ ∀ j : Int, 0 ≤ j → m_wd X (F_X12_copy_L41_3 X v2 v1 a k x τ) a j = if 6 * d ≤ j ∧ j < 6 * d + 6 then m_wd X τ0 a (6 * s + (j - 6 * d)) else m_wd X τ0 a j := by
  induction k with
  | zero => intro x τ hm; exact absurd hm (Nat.not_lt_zero _)
  | succ k ih =>
    intro x τ hm h0 h1 ht hz
    have hb := ar_bd x
    have e6 : (6 : Int32).toInt = 6 := rfl
    rw [F_X12_copy_L41_3_s]
    unfold F_X12_copy_B41_3
    by_cases q : x.toInt < 6
    · rw [if_pos q, q_letE, q_letE, q_letE, q_letE, q_letE, q_letE, q_letE]
      have e : (x + 1).toInt = x.toInt + 1 := y_inc (by omega)
      have id_ : ((6 : Int32) * v2 + x).toInt = 6 * d + x.toInt := by rw [ar_add, ar_mul, e6, hv2, ar_wr (n := 6 * d) (by omega) (by omega), ar_wr (by omega) (by omega)]
      have is_ : ((6 : Int32) * v1 + x).toInt = 6 * s + x.toInt := by rw [ar_add, ar_mul, e6, hv1, ar_wr (n := 6 * s) (by omega) (by omega), ar_wr (by omega) (by omega)]
      have hg : (τ.2.1 (q_rf X a 23) ((6 : Int32) * v1 + x).toNatClampNeg).toInt = m_wd X τ0 a (6 * s + x.toInt) := by
        have z := hz (6 * s + x.toInt) (by omega)
        rw [if_neg (by omega)] at z
        rw [← z]
        unfold m_wd
        rw [ar_cl, is_]
      refine ih (x + 1) _ (by omega) (by omega) (by omega) (ht.sl _ rfl) (fun j j0 => ?_)
      rw [e]
      show (if q_rf X a 23 = q_rf X a 23 ∧ j.toNat = ((6 : Int32) * v2 + x).toNatClampNeg then τ.2.1 (q_rf X a 23) ((6 : Int32) * v1 + x).toNatClampNeg else τ.2.1 (q_rf X a 23) j.toNat).toInt = _
      by_cases q2 : j = 6 * d + x.toInt
      · rw [if_pos ⟨rfl, by rw [ar_cl, id_, q2]⟩, hg, if_pos ⟨by omega, by omega⟩]
        congr 1
        omega
      · rw [if_neg (fun z => q2 (by have := z.2; rw [ar_cl, id_] at this; omega))]
        have z := hz j j0
        unfold m_wd at z ⊢
        rw [z]
        by_cases q3 : 6 * d ≤ j ∧ j < 6 * d + x.toInt
        · rw [if_pos q3, if_pos ⟨q3.1, by omega⟩]
        · rw [if_neg q3, if_neg (fun z => q3 ⟨z.1, by omega⟩)]
    · rw [if_neg q]
      refine ⟨ht, fun j j0 => ?_⟩
      rw [hz j j0]
      have ex : x.toInt = 6 := by omega
      rw [ex]
theorem tm_copyL {v1 v2 : Int32} {s d : Int} (hv1 : v1.toInt = s) (hv2 : v2.toInt = d) (hs : 0 ≤ s ∧ s ≤ 4) (hd : 0 ≤ d ∧ d ≤ 4) (hsd : s ≠ d) (k : Nat) : ∀ (x : Int32) (τ : ST), (2147483647 - x.toInt).toNat < k → 0 ≤ x.toInt → x.toInt ≤ 930 → tkl (fun b _ => b = q_rf X a 20) (fun _ _ => False) τ0 τ → (∀ j : Int, 0 ≤ j → m_c X τ a j = if 930 * d ≤ j ∧ j < 930 * d + x.toInt then m_c X τ0 a (930 * s + (j - 930 * d)) else m_c X τ0 a j) →
    ∃ τ' : ST, F_X12_copy_L2_1 X v2 v1 a k x τ = F_X12_copy_L41_3 X v2 v1 a ((2147483647 - (0 : Int32).toInt).toNat + 1) (0 : Int32) τ' ∧ tkl (fun b _ => b = q_rf X a 20) (fun _ _ => False) τ0 τ' ∧ ∀ j : Int, 0 ≤ j → m_c X τ' a j = if 930 * d ≤ j ∧ j < 930 * d + 930 then m_c X τ0 a (930 * s + (j - 930 * d)) else m_c X τ0 a j := by
  induction k with
  | zero => intro x τ hm; exact absurd hm (Nat.not_lt_zero _)
  | succ k ih =>
    intro x τ hm h0 h1 ht hz
    have hb := ar_bd x
    have e6 : (930 : Int32).toInt = 930 := rfl
    rw [F_X12_copy_L2_1_s]
    unfold F_X12_copy_B2_1
    by_cases q : x.toInt < 930
    · rw [if_pos q, q_letE, q_letE, q_letE, q_letE, q_letE, q_letE, q_letE]
      have e : (x + 1).toInt = x.toInt + 1 := y_inc (by omega)
      have id_ : ((930 : Int32) * v2 + x).toInt = 930 * d + x.toInt := by rw [ar_add, ar_mul, e6, hv2, ar_wr (n := 930 * d) (by omega) (by omega), ar_wr (by omega) (by omega)]
      have is_ : ((930 : Int32) * v1 + x).toInt = 930 * s + x.toInt := by rw [ar_add, ar_mul, e6, hv1, ar_wr (n := 930 * s) (by omega) (by omega), ar_wr (by omega) (by omega)]
      have hg : (τ.1 (q_rf X a 20) ((930 : Int32) * v1 + x).toNatClampNeg).toInt = m_c X τ0 a (930 * s + x.toInt) := by
        have z := hz (930 * s + x.toInt) (by omega)
        rw [if_neg (by omega)] at z
        rw [← z]
        exact m_rd (X := X) rfl is_
      refine ih (x + 1) _ (by omega) (by omega) (by omega) (ht.si _ rfl) (fun j j0 => ?_)
      rw [e, m_wr (X := X) (a := a) rfl id_ (by omega) j j0]
      by_cases q2 : j = 930 * d + x.toInt
      · rw [if_pos q2, hg, if_pos ⟨by omega, by omega⟩]
        congr 1
        omega
      · rw [if_neg q2, hz j j0]
        by_cases q3 : 930 * d ≤ j ∧ j < 930 * d + x.toInt
        · rw [if_pos q3, if_pos ⟨q3.1, by omega⟩]
        · rw [if_neg q3, if_neg (fun z => q3 ⟨z.1, by omega⟩)]
    · rw [if_neg q]
      refine ⟨τ, rfl, ht, fun j j0 => ?_⟩
      rw [hz j j0]
      have ex : x.toInt = 930 := by omega
      rw [ex]
theorem tm_copy (hT : q_T X) (ha : q_kd X a = 12) {v1 v2 : Int32} {s d : Int} (hv1 : v1.toInt = s) (hv2 : v2.toInt = d) (hs : 0 ≤ s ∧ s ≤ 4) (hd : 0 ≤ d ∧ d ≤ 4) (hsd : s ≠ d) : tkl (fun b _ => b = q_rf X a 20) (fun b _ => b = q_rf X a 23) τ (F_X12_copy X τ a v1 v2) ∧ (∀ j : Int, 0 ≤ j → m_c X (F_X12_copy X τ a v1 v2) a j = if 930 * d ≤ j ∧ j < 930 * d + 930 then m_c X τ a (930 * s + (j - 930 * d)) else m_c X τ a j) ∧ ∀ j : Int, 0 ≤ j → m_wd X (F_X12_copy X τ a v1 v2) a j = if 6 * d ≤ j ∧ j < 6 * d + 6 then m_wd X τ a (6 * s + (j - 6 * d)) else m_wd X τ a j := by
  have z0 : (0 : Int32).toInt = 0 := rfl
  unfold F_X12_copy
  obtain ⟨τ1, e1, t1, c1⟩ := tm_copyL (X := X) (a := a) (τ0 := τ) hv1 hv2 hs hd hsd ((2147483647 - (0 : Int32).toInt).toNat + 1) 0 τ (by decide) (by decide) (by decide) tkl.rf (fun j j0 => by rw [if_neg (by omega)])
  rw [e1]
  have zz := tm_copyW (X := X) (a := a) (τ0 := τ1) hv1 hv2 hs hd hsd ((2147483647 - (0 : Int32).toInt).toNat + 1) 0 τ1 (by decide) (by decide) (by decide) tkl.rf (fun j j0 => by rw [if_neg (by omega)])
  obtain ⟨t2, w2⟩ := zz
  refine ⟨(t1.mono (fun _ _ h => h) (fun _ _ h => h.elim)).tr (t2.mono (fun _ _ h => h.elim) (fun _ _ h => h)), fun j j0 => ?_, fun j j0 => ?_⟩
  · rw [← c1 j j0]
    exact congrArg Int32.toInt (t2.1 _ _ (fun q => q))
  · have mw : ∀ i : Int, m_wd X τ1 a i = m_wd X τ a i := fun i => congrArg Int64.toInt (t1.2.1 _ _ (fun q => q))
    rw [w2 j j0, mw, mw]
/-- the reference's table ends with a fault -/
theorem tm_end0 (h : 0 < (τ.1 a 12).toInt) : ∃ τ' : ST, F_X12_table_E232_6 X τ a = (-1, τ') ∧ τ'.1 a 10 = τ.1 a 12 ∧ τ'.1 a 11 = τ.1 a 13 ∧ (τ'.1 a 0).toInt = 10 ∧ tkl (fun b f => b = a ∧ (f = 0 ∨ f = 10 ∨ f = 11)) (fun _ _ => False) τ τ' := by
  have e12 : (q_si τ a 10 (τ.1 a 12)).1 a 12 = τ.1 a 12 := si_f (by decide) a
  have e12' : (q_si (q_si τ a 10 (τ.1 a 12)) a 11 ((q_si τ a 10 (τ.1 a 12)).1 a 13)).1 a 12 = τ.1 a 12 := (si_f (by decide) a).trans e12
  unfold F_X12_table_E232_6 F_X12_isWell F_X12_no
  rw [q_letE (τ.1 a 12), q_letE (q_si τ a 10 (τ.1 a 12)), q_letE ((q_si τ a 10 (τ.1 a 12)).1 a 12), e12, if_neg (by omega), q_letE, q_letE, q_letE, e12', if_neg (by omega), q_letE, q_biP (0 : Int32) (q_si (q_si (q_si τ a 10 (τ.1 a 12)) a 11 ((q_si τ a 10 (τ.1 a 12)).1 a 13)) a 0 10), if_pos (by decide : (0 : Int32).toInt = 0), q_biP (0 : Int32), if_pos (by decide : (0 : Int32).toInt = 0)]
  refine ⟨_, rfl, ?_, ?_, ?_, ?_⟩
  · rw [si_f (by decide), si_f (by decide), si_eq]
  · rw [si_f (by decide), si_eq, si_f (by decide)]
  · rw [si_eq]
    rfl
  · exact ((tkl.rf.si _ ⟨rfl, Or.inr (Or.inl rfl)⟩).si _ ⟨rfl, Or.inr (Or.inr rfl)⟩).si _ ⟨rfl, Or.inl rfl⟩
/-- what the new block has at last -/
def m_fin (c : Int → Int) : Int → Int := m_up (m_up c 3728 (-1)) 3726 (if c 3722 = 0 then -1 else 0)
theorem tm_end1 (hT : q_T X) (ha : q_kd X a = 12) (h : (τ.1 a 12).toInt = 0) : ∃ (z : Int32) (τ' : ST), F_X12_table_E232_6 X τ a = (z, τ') ∧ z.toInt = m_c X τ a 3722 ∧ (τ'.1 a 10).toInt = 0 ∧ (τ'.1 a 11).toInt = -1 ∧ tkl (fun b f => b = q_rf X a 20 ∨ b = a ∧ (f = 10 ∨ f = 11)) (fun b _ => b = q_rf X a 23) τ τ' ∧
    (∀ j : Int, 0 ≤ j → m_c X τ' a j = if j < 930 then m_fin (m_c X τ a) (3720 + j) else m_fin (m_c X τ a) j) ∧ ∀ j : Int, 0 ≤ j → m_wd X τ' a j = if j < 6 then m_wd X τ a (24 + j) else m_wd X τ a j := by
  have k20 : q_kd X (q_rf X a 20) = 34 := (hT.1 a 20 (by rw [ha]; decide)).trans (by rw [ha]; rfl)
  have n20 : a ≠ q_rf X a 20 := Ne.symm (m_ne k20 ha (by decide))
  have m1 : ((-1) : Int32).toInt = -1 := rfl
  have z0 : (0 : Int32).toInt = 0 := rfl
  have e4 : (4 : Int32).toInt = 4 := rfl
  have e12 : (q_si τ a 10 (τ.1 a 12)).1 a 12 = τ.1 a 12 := si_f (by decide) a
  have e12' : (q_si (q_si τ a 10 (τ.1 a 12)) a 11 (-1)).1 a 12 = τ.1 a 12 := (si_f (by decide) a).trans e12
  unfold F_X12_table_E232_6 F_X12_isWell
  rw [q_letE (τ.1 a 12), q_letE (q_si τ a 10 (τ.1 a 12)), q_letE ((q_si τ a 10 (τ.1 a 12)).1 a 12), e12, if_pos h, q_letE (q_si (q_si τ a 10 (τ.1 a 12)) a 11 (-1)), q_letE ((q_si (q_si τ a 10 (τ.1 a 12)) a 11 (-1)).1 a 12), e12', if_pos h, q_biP, if_neg (by decide : ¬ (1 : Int32).toInt = 0)]
  have t1 : tkl (fun b f => b = a ∧ (f = 10 ∨ f = 11)) (fun _ _ => False) τ (q_si (q_si τ a 10 (τ.1 a 12)) a 11 (-1)) := (tkl.rf.si _ ⟨rfl, Or.inl rfl⟩).si _ ⟨rfl, Or.inr rfl⟩
  have d10 : ((q_si (q_si τ a 10 (τ.1 a 12)) a 11 (-1)).1 a 10).toInt = 0 := by rw [si_f (by decide), si_eq]; exact h
  have d11 : ((q_si (q_si τ a 10 (τ.1 a 12)) a 11 (-1)).1 a 11).toInt = -1 := by rw [si_eq]; exact m1
  obtain ⟨τ1, h1⟩ : ∃ s, s = q_si (q_si τ a 10 (τ.1 a 12)) a 11 (-1) := ⟨_, rfl⟩
  rw [← h1] at t1 d10 d11 ⊢
  have c1 : m_c X τ1 a = m_c X τ a := by
    funext j
    exact congrArg Int32.toInt (t1.1 _ _ (fun q => n20 q.1.symm))
  have w1 : ∀ j : Int, m_wd X τ1 a j = m_wd X τ a j := fun j => congrArg Int64.toInt (t1.2.1 _ _ (fun q => q))
  have c2 : m_c X (q_si τ1 (q_rf X a 20) (3728 : Int32).toNatClampNeg (-1)) a = m_up (m_c X τ a) 3728 (-1) := by
    rw [m_c_up 3728 (by decide) rfl, c1, m1]
  have t2 : tkl (fun b _ => b = q_rf X a 20) (fun _ _ => False) τ1 (q_si τ1 (q_rf X a 20) (3728 : Int32).toNatClampNeg (-1)) := tkl.rf.si _ rfl
  rw [q_letE (q_si τ1 (q_rf X a 20) (3728 : Int32).toNatClampNeg (-1))]
  obtain ⟨τ2, h2⟩ : ∃ s, s = q_si τ1 (q_rf X a 20) (3728 : Int32).toNatClampNeg (-1) := ⟨_, rfl⟩
  rw [← h2] at c2 t2 ⊢
  have r22 : (τ2.1 (q_rf X a 20) (3722 : Int32).toNatClampNeg).toInt = m_c X τ a 3722 := by
    have z := m_rd (X := X) (σ := τ2) (a := a) (i := 3722) (A := 3722) rfl rfl
    rw [c2, m_up_ne (by decide)] at z
    exact z
  rw [q_letE (τ2.1 (q_rf X a 20) (3722 : Int32).toNatClampNeg), r22]
  have fin : ∀ (u : Int32), u.toInt = (if m_c X τ a 3722 = 0 then -1 else 0) → ∃ (z : Int32) (τ' : ST), q_let (q_si τ2 (q_rf X a 20) (3726 : Int32).toNatClampNeg u : ST) (fun σ_57 => q_let (F_X12_copy X σ_57 a (4 : Int32) (0 : Int32) : ST) (fun σ_61 => q_let (σ_61.1 (q_rf X a 20) (2 : Int32).toNatClampNeg : Int32) (fun f_62 => (f_62, σ_61)))) = (z, τ') ∧ z.toInt = m_c X τ a 3722 ∧ (τ'.1 a 10).toInt = 0 ∧ (τ'.1 a 11).toInt = -1 ∧ tkl (fun b f => b = q_rf X a 20 ∨ b = a ∧ (f = 10 ∨ f = 11)) (fun b _ => b = q_rf X a 23) τ τ' ∧
      (∀ j : Int, 0 ≤ j → m_c X τ' a j = if j < 930 then m_fin (m_c X τ a) (3720 + j) else m_fin (m_c X τ a) j) ∧ ∀ j : Int, 0 ≤ j → m_wd X τ' a j = if j < 6 then m_wd X τ a (24 + j) else m_wd X τ a j := by
    intro u hu
    have c3 : m_c X (q_si τ2 (q_rf X a 20) (3726 : Int32).toNatClampNeg u) a = m_fin (m_c X τ a) := by
      rw [m_c_up 3726 (by decide) rfl, c2, hu]
      rfl
    have t3 : tkl (fun b _ => b = q_rf X a 20) (fun _ _ => False) τ1 (q_si τ2 (q_rf X a 20) (3726 : Int32).toNatClampNeg u) := t2.si _ rfl
    rw [q_letE (q_si τ2 (q_rf X a 20) (3726 : Int32).toNatClampNeg u)]
    obtain ⟨τ3, h3⟩ : ∃ s, s = q_si τ2 (q_rf X a 20) (3726 : Int32).toNatClampNeg u := ⟨_, rfl⟩
    rw [← h3] at c3 t3 ⊢
    obtain ⟨t4, c4, w4⟩ := tm_copy (X := X) (τ := τ3) (v1 := 4) (v2 := 0) hT ha e4 z0 ⟨by decide, by decide⟩ ⟨by decide, by decide⟩ (by decide)
    rw [q_letE (F_X12_copy X τ3 a 4 0)]
    obtain ⟨τ4, h4⟩ : ∃ s, s = F_X12_copy X τ3 a 4 0 := ⟨_, rfl⟩
    rw [← h4] at t4 c4 w4 ⊢
    rw [q_letE]
    have w3 : ∀ j : Int, m_wd X τ3 a j = m_wd X τ a j := fun j => (congrArg Int64.toInt (t3.2.1 _ _ (fun q => q))).trans (w1 j)
    have cc : ∀ j : Int, 0 ≤ j → m_c X τ4 a j = if j < 930 then m_fin (m_c X τ a) (3720 + j) else m_fin (m_c X τ a) j := fun j j0 => by
      rw [c4 j j0, c3]
      by_cases q : j < 930
      · rw [if_pos q, if_pos ⟨by omega, by omega⟩]
        congr 1
        omega
      · rw [if_neg q, if_neg (by omega)]
    refine ⟨_, τ4, rfl, ?_, ?_, ?_, ?_, cc, fun j j0 => ?_⟩
    · have z := m_rd (X := X) (σ := τ4) (a := a) (i := 2) (A := 2) rfl rfl
      rw [cc 2 (by decide), if_pos (by decide)] at z
      refine z.trans ?_
      show m_fin (m_c X τ a) 3722 = _
      unfold m_fin
      rw [m_up_ne (by decide), m_up_ne (by decide)]
    · rw [t4.1 a 10 n20, t3.1 a 10 n20]; exact d10
    · rw [t4.1 a 11 n20, t3.1 a 11 n20]; exact d11
    · exact ((t1.mono (fun _ _ h => Or.inr h) (fun _ _ h => h.elim)).tr (t3.mono (fun _ _ h => Or.inl h) (fun _ _ h => h.elim))).tr (t4.mono (fun _ _ h => Or.inl h) (fun _ _ h => h))
    · rw [w4 j j0, w3, w3]
      by_cases q : j < 6
      · rw [if_pos q, if_pos ⟨by omega, by omega⟩]
        congr 1
        omega
      · rw [if_neg q, if_neg (by omega)]
  by_cases q : m_c X τ a 3722 = 0
  · rw [if_pos q]
    exact fin (-1) (by rw [if_pos q]; exact m1)
  · rw [if_neg q]
    exact fin 0 (by rw [if_neg q]; exact z0)
end YB
end
/-! FROM 48u.table.lean.txt -/
section
/-! TABLE: both answer the same -/
def tb_Cls (X : XW) (lb : Nat → Nat) (C a : Nat) : Prop := q_kd X C = 11 ∧ q_kd X a = 12 ∧ y_S X lb ∧ tb_D X lb (q_rf X C 12) (q_rf X C 4) (q_rf X (q_rf X C 12) 8) ∧ y_G X lb (q_rf X C 8) 1 ∧ q_ln X (q_rf X C 4) = 900 ∧ q_ln X (q_rf X a 7) = 900 ∧ lb C / 8192 = 0
/-- what a table leaves: a refusal, a fault, a game -/
def tb_Out (X : XW) (C a : Nat) (σ τ : ST) (v : Int32) (m : Int) (z : Int32) (σ' τ' : ST) : Prop :=
  ((v.toInt < 0 ∨ m < v.toInt) ∧ tk (fun b f => b = C ∧ f = 0) σ σ' ∧ tkl (fun b f => b = a ∧ (f = 0 ∨ f = 1)) (fun _ _ => False) τ τ') ∨
  ((0 ≤ v.toInt ∧ v.toInt ≤ m) ∧ (σ'.1 C 5).toInt = 0 ∧ (τ'.1 a 8).toInt = 0 ∧ (σ'.1 C 6).toInt = (τ'.1 a 10).toInt ∧ (σ'.1 C 7).toInt = (τ'.1 a 11).toInt ∧
    ((z.toInt = -1 ∧ y_v X (q_rf X C 8) σ' = y_v X (q_rf X C 8) σ ∧ (∀ j : Int, 0 ≤ j → j < 3720 → m_c X τ' a j = m_c X τ a j) ∧ ∀ j : Int, 0 ≤ j → j < 24 → m_wd X τ' a j = m_wd X τ a j) ∨
     ((σ'.1 C 6).toInt = 0 ∧ ∃ (V : Nat → Int → Int) (r c w t : Int → Int), tb_R V r c w t ∧ (∀ j : Int, 0 ≤ j → j < 3720 → c j = m_c X τ a j) ∧ (∀ j : Int, 0 ≤ j → j < 24 → w j = m_wd X τ a j) ∧ z.toInt = c 3722 ∧ (∀ id i, y_in y_all id i → y_v X (q_rf X C 8) σ' id i = V id i) ∧
       (∀ j : Int, 0 ≤ j → m_c X τ' a j = if j < 930 then m_fin c (3720 + j) else m_fin c j) ∧ ∀ j : Int, 0 ≤ j → m_wd X τ' a j = if j < 6 then w (24 + j) else w j)))
section TN
variable {X : XW} {lb : Nat → Nat} {C a : Nat} {σ τ : ST} {m : Int} {B : Int → Int}
theorem tb_table (Cl : tb_Cls X lb C a) (h5 : (σ.1 C 5).toInt = m) (h8 : (τ.1 a 8).toInt = m) (hm : 0 ≤ m ∧ m ≤ 900) (hB : ∀ p : Int, 0 ≤ p → p < m → (σ.1 (q_rf X C 4) p.toNat).toInt = B p ∧ -128 ≤ B p ∧ B p ≤ 127) (hB2 : ∀ p : Int, 0 ≤ p → p < m → (τ.1 (q_rf X a 7) p.toNat).toInt = B p) (v : Int32) :
    ∃ (z : Int32) (σ' : ST) (z' : Int32) (τ' : ST), F_X11_table X σ C v = (z, σ') ∧ F_X12_table X τ a v = (z', τ') ∧ z.toInt = z'.toInt ∧ (σ'.1 C 0).toInt = (τ'.1 a 0).toInt ∧ tb_Out X C a σ τ v m z σ' τ' := by
  obtain ⟨kC, ka, Y, H, G1, hTl, hUl, hlC⟩ := Cl
  have z0 : (0 : Int32).toInt = 0 := rfl
  have m1 : ((-1) : Int32).toInt = -1 := rfl
  have e900 : (900 : Int32).toInt = 900 := rfl
  have ku : q_kd X (q_rf X a 7) = 33 := (tb_k Y.1 ka).2.2.2
  have nU : q_rf X a 7 ≠ a := m_ne ku ka (by decide)
  obtain ⟨D, hD⟩ : ∃ D, D = q_rf X C 12 := ⟨_, rfl⟩
  obtain ⟨T, hT⟩ : ∃ T, T = q_rf X C 4 := ⟨_, rfl⟩
  obtain ⟨g, hg⟩ : ∃ g, g = q_rf X D 8 := ⟨_, rfl⟩
  obtain ⟨g1, hg1⟩ : ∃ g, g = q_rf X C 8 := ⟨_, rfl⟩
  rw [← hD, ← hT, ← hg] at H
  rw [← hT] at hTl hB
  rw [← hg1] at G1
  have kD : q_kd X D = 9 := H.1
  have kT : q_kd X T = 22 := H.2.2.2.2.2.2.2.2
  have nTD : T ≠ D := m_ne kT kD (by decide)
  have nCD : C ≠ D := m_ne kC kD (by decide)
  have nCA : C ≠ tb_T X D := m_ne kC H.2.2.2.2.2.2.1 (by decide)
  have hC6 : lb C / 8192 ≠ 6 := by omega
  have hC1 : lb C / 8192 ≠ 1 := by omega
  have hD1 : lb D / 8192 ≠ 1 := by have := H.2.2.2.1; omega
  -- the reference begins
  have t2 : tkl (fun b f => b = a ∧ (f = 0 ∨ f = 1)) (fun _ _ => False) τ (q_si (q_si τ a 1 0) a 0 0) := (tkl.rf.si _ ⟨rfl, Or.inr rfl⟩).si _ ⟨rfl, Or.inl rfl⟩
  have d8 : ((q_si (q_si τ a 1 0) a 0 0).1 a 8).toInt = m := by rw [si_f (by decide), si_f (by decide)]; exact h8
  have d0 : (q_si (q_si τ a 1 0) a 0 0).1 a 0 = 0 := si_eq _ _ _ _
  unfold F_X11_table F_X12_table F_X12_opens F_X12_no F_X11_none F_X11_good
  rw [q_letE (q_si τ a 1 0), q_letE (q_si (q_si τ a 1 0) a 0 0)]
  obtain ⟨τ2, e2⟩ : ∃ s, s = q_si (q_si τ a 1 0) a 0 0 := ⟨_, rfl⟩
  rw [← e2] at t2 d8 d0 ⊢
  have no5 : tkl (fun b f => b = a ∧ (f = 0 ∨ f = 1)) (fun _ _ => False) τ (q_si τ2 a 0 5) := t2.si _ ⟨rfl, Or.inl rfl⟩
  have st5 : ((q_si σ C 0 5).1 C 0).toInt = ((q_si τ2 a 0 5).1 a 0).toInt := by rw [si_eq, si_eq]
  have tc5 : tk (fun b f => b = C ∧ f = 0) σ (q_si σ C 0 5) := tk.rf.si _ ⟨rfl, rfl⟩
  by_cases q1 : v.toInt < 0
  · rw [if_pos q1, if_pos q1, q_letE, q_biP, q_letE, q_biP, q_biP, if_pos (by decide : (0 : Int32).toInt = 0)]
    exact ⟨-1, _, -1, _, rfl, rfl, rfl, st5, Or.inl ⟨Or.inl q1, tc5, no5⟩⟩
  · rw [if_neg q1, if_neg q1, q_letE (σ.1 C 5), h5, q_letE (τ2.1 a 8), d8]
    by_cases q2 : m < v.toInt
    · rw [if_pos q2, if_pos q2, q_letE, q_biP, q_letE, q_biP, q_biP, if_pos (by decide : (0 : Int32).toInt = 0)]
      exact ⟨-1, _, -1, _, rfl, rfl, rfl, st5, Or.inl ⟨Or.inr q2, tc5, no5⟩⟩
    · rw [if_neg q2, if_neg q2, e900, if_neg (by omega : ¬ (900 : Int) < v.toInt)]
      rw [q_letE (q_si τ2 a 9 v), q_letE (q_si (q_si τ2 a 9 v) a 8 0), q_letE (q_si (q_si (q_si τ2 a 9 v) a 8 0) a 16 0), q_letE (q_si (q_si (q_si (q_si τ2 a 9 v) a 8 0) a 16 0) a 12 0)]
      have t3 : tkl (fun b f => b = a ∧ (f = 9 ∨ f = 8 ∨ f = 16 ∨ f = 12)) (fun _ _ => False) τ2 (q_si (q_si (q_si (q_si τ2 a 9 v) a 8 0) a 16 0) a 12 0) := (((tkl.rf.si _ ⟨rfl, Or.inl rfl⟩).si _ ⟨rfl, Or.inr (Or.inl rfl)⟩).si _ ⟨rfl, Or.inr (Or.inr (Or.inl rfl))⟩).si _ ⟨rfl, Or.inr (Or.inr (Or.inr rfl))⟩
      have c9 : (q_si (q_si (q_si (q_si τ2 a 9 v) a 8 0) a 16 0) a 12 0).1 a 9 = v := by rw [si_f (by decide), si_f (by decide), si_f (by decide), si_eq]
      have c8 : (q_si (q_si (q_si (q_si τ2 a 9 v) a 8 0) a 16 0) a 12 0).1 a 8 = 0 := by rw [si_f (by decide), si_f (by decide), si_eq]
      have c16 : (q_si (q_si (q_si (q_si τ2 a 9 v) a 8 0) a 16 0) a 12 0).1 a 16 = 0 := by rw [si_f (by decide), si_eq]
      have c12 : (q_si (q_si (q_si (q_si τ2 a 9 v) a 8 0) a 16 0) a 12 0).1 a 12 = 0 := si_eq _ _ _ _
      obtain ⟨τ3, e3⟩ : ∃ s, s = q_si (q_si (q_si (q_si τ2 a 9 v) a 8 0) a 16 0) a 12 0 := ⟨_, rfl⟩
      rw [← e3] at t3 c9 c8 c16 c12 ⊢
      have c0 : τ3.1 a 0 = 0 := by rw [t3.1 a 0 (fun q => absurd q.2 (by decide)), d0]
      have M0 : tm_E X τ3 a v.toInt B := ⟨by rw [c9], ⟨by omega, by omega⟩, nU, fun p p0 p1 => by
        rw [t3.1 _ _ (fun q => nU q.1), t2.1 _ _ (fun q => nU q.1)]
        exact ⟨hB2 p p0 (by omega), (hB p p0 (by omega)).2⟩⟩
      obtain ⟨z, σ8, τ8, f1, f2, Gf, Pf, out⟩ := tb_takes Y H ka hTl nTD (v := v) rfl ⟨by omega, by omega⟩ (fun p p0 p1 => hB p p0 (by omega)) M0 (by rw [c16]; rfl) (by rw [c12]; rfl) (by rw [c0]; rfl) (by rw [c8]; rfl)
      rw [q_letE (F_X12_next X τ3 a), q_biP (1 : Int32) (F_X12_next X τ3 a), if_neg (by decide : ¬ (1 : Int32).toInt = 0), f2, ← hD, ← hT, ← hg1, f1, q_biP z σ8]
      have C8 : ∀ f, σ8.1 C f = σ.1 C f := Gf.1 C hC6 nCD nCA
      -- the class ends its reading
      unfold F_X11_endReading
      rw [q_letE (q_si σ8 C 5 0), q_letE ((q_si σ8 C 5 0).1 D 6), q_letE (q_si (q_si σ8 C 5 0) C 6 ((q_si σ8 C 5 0).1 D 6)), q_letE ((q_si (q_si σ8 C 5 0) C 6 ((q_si σ8 C 5 0).1 D 6)).1 D 7), q_letE (q_si (q_si (q_si σ8 C 5 0) C 6 ((q_si σ8 C 5 0).1 D 6)) C 7 ((q_si (q_si σ8 C 5 0) C 6 ((q_si σ8 C 5 0).1 D 6)).1 D 7))]
      have t9 : tk (fun b f => b = C ∧ (f = 5 ∨ f = 6 ∨ f = 7)) σ8 (q_si (q_si (q_si σ8 C 5 0) C 6 ((q_si σ8 C 5 0).1 D 6)) C 7 ((q_si (q_si σ8 C 5 0) C 6 ((q_si σ8 C 5 0).1 D 6)).1 D 7)) := ((tk.rf.si _ ⟨rfl, Or.inl rfl⟩).si _ ⟨rfl, Or.inr (Or.inl rfl)⟩).si _ ⟨rfl, Or.inr (Or.inr rfl)⟩
      have g5 : (q_si (q_si (q_si σ8 C 5 0) C 6 ((q_si σ8 C 5 0).1 D 6)) C 7 ((q_si (q_si σ8 C 5 0) C 6 ((q_si σ8 C 5 0).1 D 6)).1 D 7)).1 C 5 = 0 := by rw [si_f (by decide), si_f (by decide), si_eq]
      have g6 : (q_si (q_si (q_si σ8 C 5 0) C 6 ((q_si σ8 C 5 0).1 D 6)) C 7 ((q_si (q_si σ8 C 5 0) C 6 ((q_si σ8 C 5 0).1 D 6)).1 D 7)).1 C 6 = σ8.1 D 6 := by rw [si_f (by decide), si_eq, q_si_ne (Ne.symm nCD)]
      have g7 : (q_si (q_si (q_si σ8 C 5 0) C 6 ((q_si σ8 C 5 0).1 D 6)) C 7 ((q_si (q_si σ8 C 5 0) C 6 ((q_si σ8 C 5 0).1 D 6)).1 D 7)).1 C 7 = σ8.1 D 7 := by rw [si_eq, q_si_ne (Ne.symm nCD), q_si_ne (Ne.symm nCD)]
      obtain ⟨σ9, e9⟩ : ∃ s, s = q_si (q_si (q_si σ8 C 5 0) C 6 ((q_si σ8 C 5 0).1 D 6)) C 7 ((q_si (q_si σ8 C 5 0) C 6 ((q_si σ8 C 5 0).1 D 6)).1 D 7) := ⟨_, rfl⟩
      rw [← e9] at t9 g5 g6 g7 ⊢
      rw [q_letE σ9]
      have vw : ∀ (h o : Nat), y_G X lb h o → o ≠ 0 → ∀ id, id < 25 → ∀ f, σ9.1 (y_gA X h id) f = σ8.1 (y_gA X h id) f := fun h o G ho id hid f => t9.1 _ _ (fun q => by
        have := y_own Y G hid
        rw [q.1] at this
        omega)
      rcases out with ⟨o1, V, r, c, w, t, f9, f10, I⟩ | ⟨o1, o2⟩
      · obtain ⟨S, M, K, h0, Rr⟩ := I
        obtain ⟨zz, τ9, x1, x2, x3, x4, x5, x6, x7⟩ := tm_end1 (X := X) Y.1 ka h0
        rw [x1, if_neg (by omega : ¬ z.toInt = 0), ← hg]
        have cp : y_C X lb g1 1 g σ9 (F_X0_copyFrom X σ9 g1 g) y_all := tb_copy Y G1 H.2.2.1 (by decide)
        rw [q_letE (F_X0_copyFrom X σ9 g1 g)]
        obtain ⟨σ10, e10⟩ : ∃ s, s = F_X0_copyFrom X σ9 g1 g := ⟨_, rfl⟩
        rw [← e10] at cp ⊢
        obtain ⟨V1, W, hV⟩ := cp
        have vg : y_v X g σ9 = V := by
          rw [← S.2.1]
          funext id i
          unfold y_v
          by_cases q : id < 25 ∧ 0 ≤ i
          · rw [if_pos q, if_pos q, vw g 6 H.2.2.1 (by decide) id q.1]
          · rw [if_neg q, if_neg q]
        have p4 : (σ10.1 (q_rf X g1 0) 4).toInt = c 3722 := by
          have z1 := y_v_rdn (X := X) (g := g1) (σ := σ10) (id := 1) (by decide) 4
          rw [W.2.2] at z1
          refine z1.trans ?_
          have z2 := hV 1 ((4 : Nat) : Int) ⟨(1, 4), by decide, rfl, Or.inr ⟨by decide, rfl⟩⟩
          rw [z2, vg]
          exact Rr.b.2.2.1
        have C10 : ∀ f, σ10.1 C f = σ9.1 C f := W.1 C hC1
        have nCg : ∀ id, id < 25 → C ≠ y_gA X g1 id := fun id hid => y_gA_ne Y G1 hid hC1
        rw [q_letE (σ10.1 (q_rf X g1 0) 4), q_letE (q_si σ10 C 0 0), q_biP]
        have c5 : (q_si σ10 C 0 0).1 C 5 = 0 := by rw [si_f (by decide), C10, g5]
        have c6 : (q_si σ10 C 0 0).1 C 6 = σ8.1 D 6 := by rw [si_f (by decide), C10, g6]
        have c7 : (q_si σ10 C 0 0).1 C 7 = σ8.1 D 7 := by rw [si_f (by decide), C10, g7]
        have k67 := K.2.2.2.2.2.2.2.2
        have n20 : a ≠ q_rf X a 20 := Ne.symm (m_ne (tb_k Y.1 ka).1 ka (by decide))
        have a08 : ∀ f, f ≠ 10 → f ≠ 11 → τ9.1 a f = τ8.1 a f := fun f q1 q2 => x5.1 a f (fun q => by
          rcases q with q | q
          · exact n20 q
          · omega)
        have cc : ∀ j : Int, 0 ≤ j → j < 3720 → c j = m_c X τ a j := fun j a1 a2 => by
          rw [← M.2.1, Pf.1 j a1 a2]
          exact congrArg Int32.toInt ((t3.1 _ _ (fun q => n20 q.1.symm)).trans (t2.1 _ _ (fun q => n20 q.1.symm)))
        have ww : ∀ j : Int, 0 ≤ j → j < 24 → w j = m_wd X τ a j := fun j a1 a2 => by
          rw [← M.2.2.1, Pf.2.1 j a1 a2]
          exact congrArg Int64.toInt ((t3.2.1 _ _ (fun q => q)).trans (t2.2.1 _ _ (fun q => q)))
        rw [M.2.1] at x2 x6
        rw [M.2.2.1] at x7
        refine ⟨_, _, zz, τ9, rfl, rfl, p4.trans x2.symm, ?_, Or.inr ⟨⟨by omega, by omega⟩, by rw [c5]; rfl, ?_, ?_, ?_, Or.inr ⟨?_, V, r, c, w, t, Rr, cc, ww, p4, fun id i hi => ?_, x6, x7⟩⟩⟩
        · rw [si_eq, a08 0 (by decide) (by decide), M.2.2.2.2.2.2.1]
          rfl
        · rw [a08 8 (by decide) (by decide)]
          exact M.2.2.2.2.2.2.2
        · rw [c6, x3]
          exact k67.1
        · rw [c7, x4]
          exact k67.2
        · rw [c6]
          exact k67.1
        · have z1 := hV id i hi
          rw [vg] at z1
          rw [← hg1, ← z1, ← W.2.2]
          unfold y_v
          by_cases q : id < 25 ∧ 0 ≤ i
          · rw [if_pos q, if_pos q, q_si_ne (Ne.symm (nCg id q.1))]
          · rw [if_neg q, if_neg q]
      · obtain ⟨τ9, x1, x2, x3, x4, x5⟩ := tm_end0 (X := X) o2.2.1
        rw [x1, if_pos o1, q_letE, q_biP]
        have n20 : a ≠ q_rf X a 20 := Ne.symm (m_ne (tb_k Y.1 ka).1 ka (by decide))
        refine ⟨_, _, _, τ9, rfl, rfl, rfl, ?_, Or.inr ⟨⟨by omega, by omega⟩, ?_, ?_, ?_, ?_, Or.inl ⟨rfl, ?_, fun j a1 a2 => ?_, fun j a1 a2 => ?_⟩⟩⟩
        · rw [si_eq, x4]
          rfl
        · rw [si_f (by decide), g5]
          rfl
        · rw [x5.1 a 8 (fun q => absurd q.2 (by decide)), Pf.2.2.2, c8]
          rfl
        · rw [si_f (by decide), g6, x2]
          exact o2.1
        · rw [si_f (by decide), g7, x3]
          exact o2.2.2
        · funext id i
          unfold y_v
          by_cases q : id < 25 ∧ 0 ≤ i
          · have own := y_own Y G1 q.1
            rw [if_pos q, if_pos q, ← hg1, q_si_ne (fun z => by rw [z] at own; omega), vw g1 1 G1 (by decide) id q.1, Gf.1 _ (by omega) (fun z => by rw [z] at own; omega) (fun z => by
              rw [z] at own
              have := H.2.2.2.2.2.1
              omega)]
          · rw [if_neg q, if_neg q]
        · have y1 : m_c X τ9 a j = m_c X τ8 a j := congrArg Int32.toInt (x5.1 _ _ (fun q => n20 q.1.symm))
          rw [y1, Pf.1 j a1 a2]
          exact congrArg Int32.toInt ((t3.1 _ _ (fun q => n20 q.1.symm)).trans (t2.1 _ _ (fun q => n20 q.1.symm)))
        · have y1 : m_wd X τ9 a j = m_wd X τ8 a j := congrArg Int64.toInt (x5.2.1 _ _ (fun q => q))
          rw [y1, Pf.2.1 j a1 a2]
          exact congrArg Int64.toInt ((t3.2.1 _ _ (fun q => q)).trans (t2.2.1 _ _ (fun q => q)))
end TN
end
/-! FROM 48v.feed.lean.txt -/
section
/-! FEED: both tapes take the same bytes -/
def tp_R (X : XW) (C a : Nat) (σ τ : ST) (m : Int) : Prop := (σ.1 C 5).toInt = m ∧ (τ.1 a 8).toInt = m ∧ ∀ p : Int, 0 ≤ p → p < m → σ.1 (q_rf X C 4) p.toNat = τ.1 (q_rf X a 7) p.toNat ∧ -128 ≤ (σ.1 (q_rf X C 4) p.toNat).toInt ∧ (σ.1 (q_rf X C 4) p.toNat).toInt ≤ 127
theorem tp_byte (x : Int32) : -128 ≤ (x.toInt8.toInt32).toInt ∧ (x.toInt8.toInt32).toInt ≤ 127 := by
  have h1 := Int8.le_toInt x.toInt8
  have h2 := Int8.toInt_lt x.toInt8
  rw [Int8.toInt_toInt32]
  omega
section TO
variable {X : XW} {C a : Nat} {σ τ : ST} {m : Int}
theorem tp_step (nC : q_rf X C 4 ≠ C) (na : q_rf X a 7 ≠ a) (R : tp_R X C a σ τ m) (hm : 0 ≤ m ∧ m < 900) {y : Int32} (hy : -128 ≤ y.toInt ∧ y.toInt ≤ 127) :
    tp_R X C a (q_si (q_si σ (q_rf X C 4) (σ.1 C 5).toNatClampNeg y) C 5 ((q_si σ (q_rf X C 4) (σ.1 C 5).toNatClampNeg y).1 C 5 + 1)) (q_si (q_si τ (q_rf X a 7) (τ.1 a 8).toNatClampNeg y) a 8 ((q_si τ (q_rf X a 7) (τ.1 a 8).toNatClampNeg y).1 a 8 + 1)) (m + 1) := by
  obtain ⟨R1, R2, R3⟩ := R
  refine ⟨?_, ?_, fun p p0 p1 => ?_⟩
  · rw [si_eq, q_si_ne (Ne.symm nC), y_inc (by rw [R1]; omega), R1]
  · rw [si_eq, q_si_ne (Ne.symm na), y_inc (by rw [R2]; omega), R2]
  · rw [q_si_ne nC, q_si_ne na]
    show (if q_rf X C 4 = q_rf X C 4 ∧ p.toNat = (σ.1 C 5).toNatClampNeg then y else σ.1 (q_rf X C 4) p.toNat) = (if q_rf X a 7 = q_rf X a 7 ∧ p.toNat = (τ.1 a 8).toNatClampNeg then y else τ.1 (q_rf X a 7) p.toNat) ∧ -128 ≤ (if q_rf X C 4 = q_rf X C 4 ∧ p.toNat = (σ.1 C 5).toNatClampNeg then y else σ.1 (q_rf X C 4) p.toNat).toInt ∧ (if q_rf X C 4 = q_rf X C 4 ∧ p.toNat = (σ.1 C 5).toNatClampNeg then y else σ.1 (q_rf X C 4) p.toNat).toInt ≤ 127
    rw [ar_cl, ar_cl, R1, R2]
    by_cases q : p = m
    · rw [if_pos ⟨rfl, by rw [q]⟩, if_pos ⟨rfl, by rw [q]⟩]
      exact ⟨rfl, hy⟩
    · have nq : ¬ p.toNat = m.toNat := by omega
      rw [if_neg (fun z => nq z.2), if_neg (fun z => nq z.2)]
      exact R3 p p0 (by omega)
/-- one byte of an int -/
theorem tp_it (nC : q_rf X C 4 ≠ C) (na : q_rf X a 7 ≠ a) (R : tp_R X C a σ τ m) (hm : 0 ≤ m ∧ m < 900) (v : Int32) {x x' y y' : Int32} (hx : 0 ≤ x.toInt) (hy : 0 ≤ y.toInt) (ex : x + (-8) = x') (ey : y + (-1) = y') (exy : x = (8 : Int32) * y) (k j : Nat) :
    ∃ σ' τ' : ST, F_X11_tapeInt_L3_1 X C v (k + 1) x σ = F_X11_tapeInt_L3_1 X C v k x' σ' ∧ F_X12_lays_L2_1 X a v (j + 1) y τ = F_X12_lays_L2_1 X a v j y' τ' ∧ tp_R X C a σ' τ' (m + 1) := by
  obtain ⟨R1, R2, R3⟩ := id R
  have st := tp_step nC na R hm (tp_byte (v >>> (((8 : Int32) * y) &&& 31)).toInt8.toInt32)
  rw [F_X11_tapeInt_L3_1_s, F_X12_lays_L2_1_s]
  unfold F_X11_tapeInt_B3_1 F_X12_lays_B2_1
  rw [if_neg (by omega : ¬ x.toInt < 0), q_letE, R1, if_neg (by omega : ¬ m < 0), q_letE, R1, if_pos hm.2, if_neg (by omega : ¬ y.toInt < 0)]
  rw [q_letE (σ.1 C 5), q_letE (v >>> (x &&& 31)), q_letE ((v >>> (x &&& 31)).toInt8.toInt32), q_letE, q_letE, q_letE, q_letE, q_letE]
  rw [q_letE (τ.1 a 8), q_letE ((8 : Int32) * y), q_letE (v >>> (((8 : Int32) * y) &&& 31)), q_letE ((v >>> (((8 : Int32) * y) &&& 31)).toInt8.toInt32), q_letE, q_letE, q_letE, q_letE, q_letE]
  rw [ex, ey, exy]
  exact ⟨_, _, rfl, rfl, st⟩
theorem tp_int (nC : q_rf X C 4 ≠ C) (na : q_rf X a 7 ≠ a) (R : tp_R X C a σ τ m) (hm : 0 ≤ m ∧ m + 4 ≤ 900) (v : Int32) : tp_R X C a (F_X11_tapeInt X σ C v) (F_X12_lays X τ a v) (m + 4) := by
  unfold F_X11_tapeInt F_X12_lays
  have e24 : (24 : Int32).toInt = 24 := rfl
  have e3 : (3 : Int32).toInt = 3 := rfl
  obtain ⟨k, hk⟩ : ∃ k, ((24 : Int32).toInt + 2147483656).toNat + 1 = k + 1 + 1 + 1 + 1 + 1 := ⟨((24 : Int32).toInt + 2147483656).toNat - 4, by rw [e24]; omega⟩
  obtain ⟨j, hj⟩ : ∃ j, ((3 : Int32).toInt + 2147483656).toNat + 1 = j + 1 + 1 + 1 + 1 + 1 := ⟨((3 : Int32).toInt + 2147483656).toNat - 4, by rw [e3]; omega⟩
  rw [hk, hj]
  obtain ⟨σ1, τ1, a1, b1, R1⟩ := tp_it nC na R ⟨hm.1, by omega⟩ v (x := 24) (x' := 16) (y := 3) (y' := 2) (by decide) (by decide) (by decide) (by decide) (by decide) (k + 1 + 1 + 1 + 1) (j + 1 + 1 + 1 + 1)
  obtain ⟨σ2, τ2, a2, b2, R2⟩ := tp_it nC na R1 ⟨by omega, by omega⟩ v (x := 16) (x' := 8) (y := 2) (y' := 1) (by decide) (by decide) (by decide) (by decide) (by decide) (k + 1 + 1 + 1) (j + 1 + 1 + 1)
  obtain ⟨σ3, τ3, a3, b3, R3⟩ := tp_it nC na R2 ⟨by omega, by omega⟩ v (x := 8) (x' := 0) (y := 1) (y' := 0) (by decide) (by decide) (by decide) (by decide) (by decide) (k + 1 + 1) (j + 1 + 1)
  obtain ⟨σ4, τ4, a4, b4, R4⟩ := tp_it nC na R3 ⟨by omega, by omega⟩ v (x := 0) (x' := -8) (y := 0) (y' := -1) (by decide) (by decide) (by decide) (by decide) (by decide) (k + 1) (j + 1)
  rw [a1, a2, a3, a4, b1, b2, b3, b4, F_X11_tapeInt_L3_1_s, F_X12_lays_L2_1_s]
  unfold F_X11_tapeInt_B3_1 F_X12_lays_B2_1
  rw [if_pos (by decide : ((-8) : Int32).toInt < 0), if_pos (by decide : ((-1) : Int32).toInt < 0)]
  have em : m + 1 + 1 + 1 + 1 = m + 4 := by omega
  rw [em] at R4
  exact R4
theorem tp_feed (nC : q_rf X C 4 ≠ C) (na : q_rf X a 7 ≠ a) (R : tp_R X C a σ τ m) (hm : 0 ≤ m ∧ m ≤ 900) (v1 v2 v3 v4 v5 : Int32) : (F_X11_feed X σ C v1 v2 v3 v4 v5).1 = (F_X12_feed X τ a v1 v2 v3 v4 v5).1 ∧ ∃ m' : Int, 0 ≤ m' ∧ m' ≤ 900 ∧ tp_R X C a (F_X11_feed X σ C v1 v2 v3 v4 v5).2 (F_X12_feed X τ a v1 v2 v3 v4 v5).2 m' := by
  have e20 : (20 : Int32).toInt = 20 := rfl
  have R0 : tp_R X C a σ (q_si τ a 1 0) m := by
    obtain ⟨R1, R2, R3⟩ := R
    exact ⟨R1, by rw [si_f (by decide)]; exact R2, fun p p0 p1 => by rw [q_si_ne na]; exact R3 p p0 p1⟩
  unfold F_X11_feed F_X12_feed
  rw [q_letE (q_si τ a 1 0)]
  obtain ⟨τ0, h0⟩ : ∃ s, s = q_si τ a 1 0 := ⟨_, rfl⟩
  rw [← h0] at R0 ⊢
  have z1 : (σ.1 C 5 + 20).toInt = m + 20 := by rw [ar_add, R0.1, e20, ar_wr (by omega) (by omega)]
  have z2 : (τ0.1 a 8 + 20).toInt = m + 20 := by rw [ar_add, R0.2.1, e20, ar_wr (by omega) (by omega)]
  rw [q_letE (σ.1 C 5), q_letE (σ.1 C 5 + 20), q_letE (τ0.1 a 8), q_letE (τ0.1 a 8 + 20), z1, z2]
  by_cases q : 900 < m + 20
  · rw [if_pos q, if_pos q]
    exact ⟨rfl, m, hm.1, hm.2, R0⟩
  · rw [if_neg q, if_neg q]
    have S1 := tp_int nC na R0 ⟨hm.1, by omega⟩ v1
    rw [q_letE (F_X11_tapeInt X σ C v1), q_letE (F_X12_lays X τ0 a v1)]
    obtain ⟨σ1, g1⟩ : ∃ s, s = F_X11_tapeInt X σ C v1 := ⟨_, rfl⟩
    obtain ⟨τ1, h1⟩ : ∃ s, s = F_X12_lays X τ0 a v1 := ⟨_, rfl⟩
    rw [← g1, ← h1] at S1 ⊢
    have S2 := tp_int nC na S1 ⟨by omega, by omega⟩ v2
    rw [q_letE (F_X11_tapeInt X σ1 C v2), q_letE (F_X12_lays X τ1 a v2)]
    obtain ⟨σ2, g2⟩ : ∃ s, s = F_X11_tapeInt X σ1 C v2 := ⟨_, rfl⟩
    obtain ⟨τ2, h2⟩ : ∃ s, s = F_X12_lays X τ1 a v2 := ⟨_, rfl⟩
    rw [← g2, ← h2] at S2 ⊢
    have S3 := tp_int nC na S2 ⟨by omega, by omega⟩ v3
    rw [q_letE (F_X11_tapeInt X σ2 C v3), q_letE (F_X12_lays X τ2 a v3)]
    obtain ⟨σ3, g3⟩ : ∃ s, s = F_X11_tapeInt X σ2 C v3 := ⟨_, rfl⟩
    obtain ⟨τ3, h3⟩ : ∃ s, s = F_X12_lays X τ2 a v3 := ⟨_, rfl⟩
    rw [← g3, ← h3] at S3 ⊢
    have S4 := tp_int nC na S3 ⟨by omega, by omega⟩ v4
    rw [q_letE (F_X11_tapeInt X σ3 C v4), q_letE (F_X12_lays X τ3 a v4)]
    obtain ⟨σ4, g4⟩ : ∃ s, s = F_X11_tapeInt X σ3 C v4 := ⟨_, rfl⟩
    obtain ⟨τ4, h4⟩ : ∃ s, s = F_X12_lays X τ3 a v4 := ⟨_, rfl⟩
    rw [← g4, ← h4] at S4 ⊢
    have S5 := tp_int nC na S4 ⟨by omega, by omega⟩ v5
    rw [q_letE (F_X11_tapeInt X σ4 C v5), q_letE (F_X12_lays X τ4 a v5)]
    obtain ⟨σ5, g5⟩ : ∃ s, s = F_X11_tapeInt X σ4 C v5 := ⟨_, rfl⟩
    obtain ⟨τ5, h5⟩ : ∃ s, s = F_X12_lays X τ4 a v5 := ⟨_, rfl⟩
    rw [← g5, ← h5] at S5 ⊢
    rw [q_letE (σ5.1 C 5), q_letE (τ5.1 a 8)]
    exact ⟨Int32.toInt_inj.mp (S5.1.trans S5.2.1.symm), m + 4 + 4 + 4 + 4 + 4, by omega, by omega, S5⟩
end TO
end
/-! FROM 48w.forest.lean.txt -/
section
/-! THE WORLD IS A FOREST: labels -/
def y_root (X : XW) (c : Nat) : Prop := ∀ a f, q_rk (q_kd X a) f ≠ 0 → q_rf X a f ≠ c
def y_Fo (X : XW) : Prop := (∀ a f, q_rk (q_kd X a) f ≠ 0 → a < q_rf X a f) ∧ (∀ a f b g, q_rk (q_kd X a) f ≠ 0 → q_rk (q_kd X b) g ≠ 0 → q_rf X a f = q_rf X b g → a = b ∧ f = g) ∧ ∀ a f, q_rk (q_kd X a) f = 5 → q_ln X (q_rf X (q_rf X a f) 0) = y_rl (q_kd X a) f
noncomputable def y_par (X : XW) (b : Nat) : Option (Nat × Nat) := @dite _ (∃ p : Nat × Nat, q_rk (q_kd X p.1) p.2 ≠ 0 ∧ q_rf X p.1 p.2 = b) (Classical.propDecidable _) (fun h => some (Classical.choose h)) (fun _ => none)
noncomputable def y_lbn (X : XW) (C : Nat) : Nat → Nat → Nat
  | 0, _ => 0
  | n + 1, b => match y_par X b with | none => (if b = C then 1 else 0) | some p => y_lc (y_lbn X C n p.1) p.2
theorem y_par_s {X : XW} {b : Nat} {p : Nat × Nat} (h : y_par X b = some p) : q_rk (q_kd X p.1) p.2 ≠ 0 ∧ q_rf X p.1 p.2 = b := by
  unfold y_par at h
  by_cases q : ∃ p : Nat × Nat, q_rk (q_kd X p.1) p.2 ≠ 0 ∧ q_rf X p.1 p.2 = b
  · rw [dif_pos q] at h
    have z := Classical.choose_spec q
    rw [Option.some.inj h] at z
    exact z
  · rw [dif_neg q] at h
    cases h
theorem y_par_n {X : XW} {b : Nat} (h : y_root X b) : y_par X b = none := by
  unfold y_par
  refine dif_neg ?_
  rintro ⟨p, h1, h2⟩
  exact h p.1 p.2 h1 h2
theorem y_lbn_st {X : XW} {C : Nat} (F : y_Fo X) : ∀ n m b, b < n → b < m → y_lbn X C n b = y_lbn X C m b := by
  intro n
  induction n with
  | zero => intro m b h; exact absurd h (Nat.not_lt_zero _)
  | succ n ih =>
    intro m b h1 h2
    obtain ⟨m', rfl⟩ : ∃ m', m = m' + 1 := ⟨m - 1, by omega⟩
    show (match y_par X b with | none => (if b = C then 1 else 0) | some p => y_lc (y_lbn X C n p.1) p.2) = (match y_par X b with | none => (if b = C then 1 else 0) | some p => y_lc (y_lbn X C m' p.1) p.2)
    cases e : y_par X b with
    | none => rfl
    | some p =>
      obtain ⟨z1, z2⟩ := y_par_s e
      have z3 := F.1 p.1 p.2 z1
      rw [z2] at z3
      show y_lc (y_lbn X C n p.1) p.2 = y_lc (y_lbn X C m' p.1) p.2
      rw [ih m' p.1 (by omega) (by omega)]
theorem y_Fo.lb {X : XW} (F : y_Fo X) (T : q_T X) {C : Nat} (hC : y_root X C) : ∃ lb : Nat → Nat, y_S X lb ∧ lb C = 1 := by
  refine ⟨fun b => y_lbn X C (b + 1) b, ⟨T, fun a f h => ?_, F.2.2⟩, ?_⟩
  · obtain ⟨b, hb⟩ : ∃ b, b = q_rf X a f := ⟨_, rfl⟩
    have lt := F.1 a f h
    rw [← hb] at lt
    show y_lbn X C (q_rf X a f + 1) (q_rf X a f) = y_lc (y_lbn X C (a + 1) a) f
    rw [← hb]
    show (match y_par X b with | none => (if b = C then 1 else 0) | some p => y_lc (y_lbn X C b p.1) p.2) = _
    cases e : y_par X b with
    | none =>
      exfalso
      unfold y_par at e
      rw [dif_pos ⟨(a, f), h, hb.symm⟩] at e
      cases e
    | some p =>
      obtain ⟨z1, z2⟩ := y_par_s e
      obtain ⟨e1, e2⟩ := F.2.1 p.1 p.2 a f z1 h (z2.trans hb)
      show y_lc (y_lbn X C b p.1) p.2 = _
      rw [e1, e2, y_lbn_st F b (a + 1) a lt (by omega)]
  · show (match y_par X C with | none => (if C = C then 1 else 0) | some p => y_lc (y_lbn X C C p.1) p.2) = 1
    rw [y_par_n hC]
    show (if C = C then 1 else 0) = 1
    rw [if_pos rfl]
/-- the class's root: where its reader, games and tape lie -/
theorem y_Cls {X : XW} {lb : Nat → Nat} {C a : Nat} (S : y_S X lb) (hC : q_kd X C = 11) (ha : q_kd X a = 12) (h1 : lb C = 1) (h9 : q_ln X (q_rf X a 7) = 900) : tb_Cls X lb C a := by
  obtain ⟨T, L, N⟩ := id S
  have kD : q_kd X (q_rf X C 12) = 9 := (T.1 C 12 (by rw [hC]; decide)).trans (by rw [hC]; rfl)
  have lD : lb (q_rf X C 12) = 28 := (L C 12 (by rw [hC]; decide)).trans (by rw [h1]; decide)
  have kG : q_kd X (q_rf X (q_rf X C 12) 8) = 1 := (T.1 (q_rf X C 12) 8 (by rw [kD]; decide)).trans (by rw [kD]; rfl)
  have lG : lb (q_rf X (q_rf X C 12) 8) = 8192 * 6 + 1 := (L (q_rf X C 12) 8 (by rw [kD]; decide)).trans (by rw [lD]; decide)
  have kR : q_kd X (q_rf X (q_rf X C 12) 11) = 5 := (T.1 (q_rf X C 12) 11 (by rw [kD]; decide)).trans (by rw [kD]; rfl)
  have lR : lb (q_rf X (q_rf X C 12) 11) = 459 := (L (q_rf X C 12) 11 (by rw [kD]; decide)).trans (by rw [lD]; decide)
  have kA : q_kd X (tb_T X (q_rf X C 12)) = 20 := (T.1 (q_rf X (q_rf X C 12) 11) 0 (by rw [kR]; decide)).trans (by rw [kR]; rfl)
  have lA : lb (tb_T X (q_rf X C 12)) = 7344 := (L (q_rf X (q_rf X C 12) 11) 0 (by rw [kR]; decide)).trans (by rw [lR]; decide)
  have nA : q_ln X (tb_T X (q_rf X C 12)) = 6 := (N (q_rf X C 12) 11 (by rw [kD]; rfl)).trans (by rw [kD]; rfl)
  have kT : q_kd X (q_rf X C 4) = 22 := (T.1 C 4 (by rw [hC]; decide)).trans (by rw [hC]; rfl)
  have lT : lb (q_rf X C 4) = 20 := (L C 4 (by rw [hC]; decide)).trans (by rw [h1]; decide)
  have k8 : q_kd X (q_rf X C 8) = 1 := (T.1 C 8 (by rw [hC]; decide)).trans (by rw [hC]; rfl)
  have l8 : lb (q_rf X C 8) = 8192 * 1 + 1 := (L C 8 (by rw [hC]; decide)).trans (by rw [h1]; decide)
  refine ⟨hC, ha, S, ⟨kD, rfl, ⟨kG, lG, by decide⟩, by omega, by omega, by omega, kA, nA, kT⟩, ⟨k8, l8, by decide⟩, T.2.2.2 C hC, h9, by omega⟩
end
/-! FROM 48x.grow.lean.txt -/
section
/-! THE FOREST GROWS (q_xg's parts, by name: kinds, references, lengths) -/
def y_rt (X X' : XW) : Prop := ∀ c, q_kd X c ≠ 0 → y_root X c → y_root X' c
theorem y_rt.rf {X : XW} : y_rt X X := fun _ _ h => h
theorem y_rt.tr {X X1 X2 : XW} (h : y_rt X X1) (k : y_rt X1 X2) (hk : ∀ c, q_kd X c ≠ 0 → q_kd X1 c ≠ 0) : y_rt X X2 := fun c hc hr => k c (hk c hc) (h c hc hr)
/-- X' is X with an object h of kind k, references rf, length n -/
def y_ad1 (X X' : XW) (h k n : Nat) (rf : Nat → Nat) : Prop := (∀ a, q_kd X' a = if a = h then k else q_kd X a) ∧ (∀ a f, q_rf X' a f = if a = h then rf f else q_rf X a f) ∧ ∀ a, q_ln X' a = if a = h then n else q_ln X a
section YG
variable {X X' : XW} {h k n : Nat} {rf : Nat → Nat}
theorem y_Fo.add (F : y_Fo X) (T : q_T X) (A : y_ad1 X X' h k n rf) (h0 : q_kd X h = 0) (hrk : ∀ f, q_rk k f ≠ 0 → q_kd X (rf f) = q_rk k f) (hup : ∀ f, q_rk k f ≠ 0 → h < rf f) (hinj : ∀ f g, q_rk k f ≠ 0 → q_rk k g ≠ 0 → rf f = rf g → f = g) (hroot : ∀ f, q_rk k f ≠ 0 → y_root X (rf f)) (hrow : ∀ f, q_rk k f = 5 → q_ln X (q_rf X (rf f) 0) = y_rl k f) : y_Fo X' := by
  obtain ⟨A1, A2, A3⟩ := A
  obtain ⟨F1, F2, F3⟩ := F
  have ne : ∀ a, q_kd X a ≠ 0 → a ≠ h := fun a ha e => ha (by rw [e]; exact h0)
  refine ⟨fun a f hf => ?_, fun a f b g hf hg e => ?_, fun a f hf => ?_⟩
  · rw [A1] at hf
    rw [A2]
    by_cases q : a = h
    · rw [if_pos q] at hf ⊢
      rw [q]
      exact hup f hf
    · rw [if_neg q] at hf ⊢
      exact F1 a f hf
  · rw [A1] at hf hg
    rw [A2, A2] at e
    by_cases q : a = h
    · rw [if_pos q] at hf e
      by_cases q2 : b = h
      · rw [if_pos q2] at hg e
        exact ⟨q.trans q2.symm, hinj f g hf hg e⟩
      · rw [if_neg q2] at hg e
        exact absurd e.symm (hroot f hf b g hg)
    · rw [if_neg q] at hf e
      by_cases q2 : b = h
      · rw [if_pos q2] at hg e
        exact absurd e (hroot g hg a f hf)
      · rw [if_neg q2] at hg e
        exact F2 a f b g hf hg e
  · rw [A1] at hf ⊢
    rw [A2 a f]
    by_cases q : a = h
    · rw [if_pos q] at hf ⊢
      rw [if_pos q]
      have k5 : q_kd X (rf f) = 5 := (hrk f (by rw [hf]; decide)).trans hf
      have n1 : rf f ≠ h := ne _ (by rw [k5]; decide)
      have k20 : q_kd X (q_rf X (rf f) 0) = 20 := (T.1 (rf f) 0 (by rw [k5]; decide)).trans (by rw [k5]; rfl)
      have n2 : q_rf X (rf f) 0 ≠ h := ne _ (by rw [k20]; decide)
      rw [A2, if_neg n1, A3, if_neg n2]
      exact hrow f hf
    · rw [if_neg q] at hf ⊢
      rw [if_neg q]
      have k5 : q_kd X (q_rf X a f) = 5 := (T.1 a f (by rw [hf]; decide)).trans hf
      have n1 : q_rf X a f ≠ h := ne _ (by rw [k5]; decide)
      have k20 : q_kd X (q_rf X (q_rf X a f) 0) = 20 := (T.1 (q_rf X a f) 0 (by rw [k5]; decide)).trans (by rw [k5]; rfl)
      have n2 : q_rf X (q_rf X a f) 0 ≠ h := ne _ (by rw [k20]; decide)
      rw [A2, if_neg n1, A3, if_neg n2]
      exact F3 a f hf
theorem y_root.add {c : Nat} (R : y_root X c) (A : y_ad1 X X' h k n rf) (hne : ∀ f, q_rk k f ≠ 0 → rf f ≠ c) : y_root X' c := by
  obtain ⟨A1, A2, A3⟩ := A
  intro a f hf
  rw [A1] at hf
  rw [A2]
  by_cases q : a = h
  · rw [if_pos q] at hf ⊢
    exact hne f hf
  · rw [if_neg q] at hf ⊢
    exact R a f hf
/-- what is not in the world is no one's -/
theorem y_root.out {c : Nat} (T : q_T X) (h0 : q_kd X c = 0) : y_root X c := fun a f hf e => hf (by rw [← T.1 a f hf, e]; exact h0)
theorem y_rt.add {X0 : XW} (R : y_rt X0 X) (A : y_ad1 X X' h k n rf) (hne : ∀ f, q_rk k f ≠ 0 → q_kd X0 (rf f) = 0) : y_rt X0 X' := fun c hc hr => (R c hc hr).add A (fun f hf e => hc (by rw [← e]; exact hne f hf))
end YG
end
/-! FROM 48y.apart.lean.txt -/
section
/-! WHICH FIELDS REFER, AND THAT RISING REFERENCES ARE APART -/
theorem y_rk40 {k f : Nat} (h : 40 ≤ f) : q_rk k f = 0 := by
  unfold q_rk
  split <;> first | rfl | (split <;> first | rfl | omega)
theorem y_fs1 {f : Nat} (h : q_rk 1 f ≠ 0) : f = 0 ∨ f = 1 ∨ f = 2 ∨ f = 3 ∨ f = 8 ∨ f = 10 := by
  by_cases q : f < 40
  · exact (by decide : ∀ f, f < 40 → q_rk 1 f ≠ 0 → (f = 0 ∨ f = 1 ∨ f = 2 ∨ f = 3 ∨ f = 8 ∨ f = 10)) f q h
  · exact absurd (y_rk40 (by omega)) h
theorem y_in1 {rf : Nat → Nat} (a0 : rf 0 < rf 1) (a1 : rf 1 < rf 2) (a2 : rf 2 < rf 3) (a3 : rf 3 < rf 8) (a4 : rf 8 < rf 10) : ∀ f g, q_rk 1 f ≠ 0 → q_rk 1 g ≠ 0 → rf f = rf g → f = g := by
  intro f g hf hg e
  rcases y_fs1 hf with rfl | rfl | rfl | rfl | rfl | rfl <;> rcases y_fs1 hg with rfl | rfl | rfl | rfl | rfl | rfl <;> first | rfl | (exfalso; omega)
theorem y_fs2 {f : Nat} (h : q_rk 2 f ≠ 0) : f = 0 ∨ f = 1 ∨ f = 2 ∨ f = 3 ∨ f = 4 ∨ f = 5 ∨ f = 6 := by
  by_cases q : f < 40
  · exact (by decide : ∀ f, f < 40 → q_rk 2 f ≠ 0 → (f = 0 ∨ f = 1 ∨ f = 2 ∨ f = 3 ∨ f = 4 ∨ f = 5 ∨ f = 6)) f q h
  · exact absurd (y_rk40 (by omega)) h
theorem y_in2 {rf : Nat → Nat} (a0 : rf 0 < rf 1) (a1 : rf 1 < rf 2) (a2 : rf 2 < rf 3) (a3 : rf 3 < rf 4) (a4 : rf 4 < rf 5) (a5 : rf 5 < rf 6) : ∀ f g, q_rk 2 f ≠ 0 → q_rk 2 g ≠ 0 → rf f = rf g → f = g := by
  intro f g hf hg e
  rcases y_fs2 hf with rfl | rfl | rfl | rfl | rfl | rfl | rfl <;> rcases y_fs2 hg with rfl | rfl | rfl | rfl | rfl | rfl | rfl <;> first | rfl | (exfalso; omega)
theorem y_fs3 {f : Nat} (h : q_rk 3 f ≠ 0) : f = 2 ∨ f = 3 ∨ f = 4 ∨ f = 5 := by
  by_cases q : f < 40
  · exact (by decide : ∀ f, f < 40 → q_rk 3 f ≠ 0 → (f = 2 ∨ f = 3 ∨ f = 4 ∨ f = 5)) f q h
  · exact absurd (y_rk40 (by omega)) h
theorem y_in3 {rf : Nat → Nat} (a0 : rf 2 < rf 3) (a1 : rf 3 < rf 4) (a2 : rf 4 < rf 5) : ∀ f g, q_rk 3 f ≠ 0 → q_rk 3 g ≠ 0 → rf f = rf g → f = g := by
  intro f g hf hg e
  rcases y_fs3 hf with rfl | rfl | rfl | rfl <;> rcases y_fs3 hg with rfl | rfl | rfl | rfl <;> first | rfl | (exfalso; omega)
theorem y_fs4 {f : Nat} (h : q_rk 4 f ≠ 0) : f = 8 ∨ f = 9 := by
  by_cases q : f < 40
  · exact (by decide : ∀ f, f < 40 → q_rk 4 f ≠ 0 → (f = 8 ∨ f = 9)) f q h
  · exact absurd (y_rk40 (by omega)) h
theorem y_in4 {rf : Nat → Nat} (a0 : rf 8 < rf 9) : ∀ f g, q_rk 4 f ≠ 0 → q_rk 4 g ≠ 0 → rf f = rf g → f = g := by
  intro f g hf hg e
  rcases y_fs4 hf with rfl | rfl <;> rcases y_fs4 hg with rfl | rfl <;> first | rfl | (exfalso; omega)
theorem y_fs5 {f : Nat} (h : q_rk 5 f ≠ 0) : f = 0 := by
  by_cases q : f < 40
  · exact (by decide : ∀ f, f < 40 → q_rk 5 f ≠ 0 → (f = 0)) f q h
  · exact absurd (y_rk40 (by omega)) h
theorem y_in5 {rf : Nat → Nat} : ∀ f g, q_rk 5 f ≠ 0 → q_rk 5 g ≠ 0 → rf f = rf g → f = g := by
  intro f g hf hg e
  rw [y_fs5 hf, y_fs5 hg]
theorem y_fs6 {f : Nat} (h : q_rk 6 f ≠ 0) : f = 5 ∨ f = 6 ∨ f = 7 := by
  by_cases q : f < 40
  · exact (by decide : ∀ f, f < 40 → q_rk 6 f ≠ 0 → (f = 5 ∨ f = 6 ∨ f = 7)) f q h
  · exact absurd (y_rk40 (by omega)) h
theorem y_in6 {rf : Nat → Nat} (a0 : rf 5 < rf 6) (a1 : rf 6 < rf 7) : ∀ f g, q_rk 6 f ≠ 0 → q_rk 6 g ≠ 0 → rf f = rf g → f = g := by
  intro f g hf hg e
  rcases y_fs6 hf with rfl | rfl | rfl <;> rcases y_fs6 hg with rfl | rfl | rfl <;> first | rfl | (exfalso; omega)
theorem y_fs7 {f : Nat} (h : q_rk 7 f ≠ 0) : f = 7 := by
  by_cases q : f < 40
  · exact (by decide : ∀ f, f < 40 → q_rk 7 f ≠ 0 → (f = 7)) f q h
  · exact absurd (y_rk40 (by omega)) h
theorem y_in7 {rf : Nat → Nat} : ∀ f g, q_rk 7 f ≠ 0 → q_rk 7 g ≠ 0 → rf f = rf g → f = g := by
  intro f g hf hg e
  rw [y_fs7 hf, y_fs7 hg]
theorem y_fs8 {f : Nat} (h : q_rk 8 f ≠ 0) : f = 3 ∨ f = 4 ∨ f = 5 ∨ f = 6 ∨ f = 7 := by
  by_cases q : f < 40
  · exact (by decide : ∀ f, f < 40 → q_rk 8 f ≠ 0 → (f = 3 ∨ f = 4 ∨ f = 5 ∨ f = 6 ∨ f = 7)) f q h
  · exact absurd (y_rk40 (by omega)) h
theorem y_in8 {rf : Nat → Nat} (a0 : rf 3 < rf 4) (a1 : rf 4 < rf 5) (a2 : rf 5 < rf 6) (a3 : rf 6 < rf 7) : ∀ f g, q_rk 8 f ≠ 0 → q_rk 8 g ≠ 0 → rf f = rf g → f = g := by
  intro f g hf hg e
  rcases y_fs8 hf with rfl | rfl | rfl | rfl | rfl <;> rcases y_fs8 hg with rfl | rfl | rfl | rfl | rfl <;> first | rfl | (exfalso; omega)
theorem y_fs9 {f : Nat} (h : q_rk 9 f ≠ 0) : f = 8 ∨ f = 11 := by
  by_cases q : f < 40
  · exact (by decide : ∀ f, f < 40 → q_rk 9 f ≠ 0 → (f = 8 ∨ f = 11)) f q h
  · exact absurd (y_rk40 (by omega)) h
theorem y_in9 {rf : Nat → Nat} (a0 : rf 8 < rf 11) : ∀ f g, q_rk 9 f ≠ 0 → q_rk 9 g ≠ 0 → rf f = rf g → f = g := by
  intro f g hf hg e
  rcases y_fs9 hf with rfl | rfl <;> rcases y_fs9 hg with rfl | rfl <;> first | rfl | (exfalso; omega)
theorem y_fs10 {f : Nat} (h : q_rk 10 f ≠ 0) : f = 2 := by
  by_cases q : f < 40
  · exact (by decide : ∀ f, f < 40 → q_rk 10 f ≠ 0 → (f = 2)) f q h
  · exact absurd (y_rk40 (by omega)) h
theorem y_in10 {rf : Nat → Nat} : ∀ f g, q_rk 10 f ≠ 0 → q_rk 10 g ≠ 0 → rf f = rf g → f = g := by
  intro f g hf hg e
  rw [y_fs10 hf, y_fs10 hg]
theorem y_fs11 {f : Nat} (h : q_rk 11 f ≠ 0) : f = 3 ∨ f = 4 ∨ f = 8 ∨ f = 9 ∨ f = 10 ∨ f = 12 ∨ f = 13 ∨ f = 14 ∨ f = 15 := by
  by_cases q : f < 40
  · exact (by decide : ∀ f, f < 40 → q_rk 11 f ≠ 0 → (f = 3 ∨ f = 4 ∨ f = 8 ∨ f = 9 ∨ f = 10 ∨ f = 12 ∨ f = 13 ∨ f = 14 ∨ f = 15)) f q h
  · exact absurd (y_rk40 (by omega)) h
theorem y_in11 {rf : Nat → Nat} (a0 : rf 3 < rf 4) (a1 : rf 4 < rf 8) (a2 : rf 8 < rf 9) (a3 : rf 9 < rf 10) (a4 : rf 10 < rf 12) (a5 : rf 12 < rf 13) (a6 : rf 13 < rf 14) (a7 : rf 14 < rf 15) : ∀ f g, q_rk 11 f ≠ 0 → q_rk 11 g ≠ 0 → rf f = rf g → f = g := by
  intro f g hf hg e
  rcases y_fs11 hf with rfl | rfl | rfl | rfl | rfl | rfl | rfl | rfl | rfl <;> rcases y_fs11 hg with rfl | rfl | rfl | rfl | rfl | rfl | rfl | rfl | rfl <;> first | rfl | (exfalso; omega)
theorem y_fs12 {f : Nat} (h : q_rk 12 f ≠ 0) : f = 4 ∨ f = 5 ∨ f = 6 ∨ f = 7 ∨ f = 20 ∨ f = 21 ∨ f = 22 ∨ f = 23 ∨ f = 28 ∨ f = 29 ∨ f = 32 ∨ f = 36 := by
  by_cases q : f < 40
  · exact (by decide : ∀ f, f < 40 → q_rk 12 f ≠ 0 → (f = 4 ∨ f = 5 ∨ f = 6 ∨ f = 7 ∨ f = 20 ∨ f = 21 ∨ f = 22 ∨ f = 23 ∨ f = 28 ∨ f = 29 ∨ f = 32 ∨ f = 36)) f q h
  · exact absurd (y_rk40 (by omega)) h
theorem y_in12 {rf : Nat → Nat} (a0 : rf 4 < rf 5) (a1 : rf 5 < rf 6) (a2 : rf 6 < rf 7) (a3 : rf 7 < rf 20) (a4 : rf 20 < rf 21) (a5 : rf 21 < rf 22) (a6 : rf 22 < rf 23) (a7 : rf 23 < rf 28) (a8 : rf 28 < rf 29) (a9 : rf 29 < rf 32) (a10 : rf 32 < rf 36) : ∀ f g, q_rk 12 f ≠ 0 → q_rk 12 g ≠ 0 → rf f = rf g → f = g := by
  intro f g hf hg e
  rcases y_fs12 hf with rfl | rfl | rfl | rfl | rfl | rfl | rfl | rfl | rfl | rfl | rfl | rfl <;> rcases y_fs12 hg with rfl | rfl | rfl | rfl | rfl | rfl | rfl | rfl | rfl | rfl | rfl | rfl <;> first | rfl | (exfalso; omega)
theorem y_fs23 {f : Nat} (h : q_rk 23 f ≠ 0) : f = 0 ∨ f = 1 ∨ f = 2 ∨ f = 3 := by
  by_cases q : f < 40
  · exact (by decide : ∀ f, f < 40 → q_rk 23 f ≠ 0 → (f = 0 ∨ f = 1 ∨ f = 2 ∨ f = 3)) f q h
  · exact absurd (y_rk40 (by omega)) h
theorem y_in23 {rf : Nat → Nat} (a0 : rf 0 < rf 1) (a1 : rf 1 < rf 2) (a2 : rf 2 < rf 3) : ∀ f g, q_rk 23 f ≠ 0 → q_rk 23 g ≠ 0 → rf f = rf g → f = g := by
  intro f g hf hg e
  rcases y_fs23 hf with rfl | rfl | rfl | rfl <;> rcases y_fs23 hg with rfl | rfl | rfl | rfl <;> first | rfl | (exfalso; omega)
theorem y_fs24 {f : Nat} (h : q_rk 24 f ≠ 0) : f = 0 ∨ f = 1 ∨ f = 2 := by
  by_cases q : f < 40
  · exact (by decide : ∀ f, f < 40 → q_rk 24 f ≠ 0 → (f = 0 ∨ f = 1 ∨ f = 2)) f q h
  · exact absurd (y_rk40 (by omega)) h
theorem y_in24 {rf : Nat → Nat} (a0 : rf 0 < rf 1) (a1 : rf 1 < rf 2) : ∀ f g, q_rk 24 f ≠ 0 → q_rk 24 g ≠ 0 → rf f = rf g → f = g := by
  intro f g hf hg e
  rcases y_fs24 hf with rfl | rfl | rfl <;> rcases y_fs24 hg with rfl | rfl | rfl <;> first | rfl | (exfalso; omega)
end
/-! FROM 49a.merged.lean.txt -/
section
/-! FROM 49a.game.lean.txt -/
/-! THE GAME OF BOTH: the relation; a laying left, a player bent -/
def rg_t (V : Nat → Int → Int) (c : Int → Int) : Prop := V 1 0 = c 0 ∧ V 1 1 = c 1 ∧ V 1 2 = c 3 ∧ V 1 3 = c 4 ∧ V 1 4 = c 2 ∧ 0 ≤ c 3 ∧ c 3 ≤ 2
def rg_s (V : Nat → Int → Int) (c : Int → Int) : Prop := V 0 4 = c 5 ∧ V 0 5 = (if c 2 = 0 then 0 else c 6) ∧ (V 0 6 = c 8 ∧ -1 ≤ c 8) ∧ V 0 7 = c 7
def rg_p (V : Nat → Int → Int) (c : Int → Int) : Prop := ∀ p : Int, 0 ≤ p → p < 6 → V 10 p = c (10 + p) ∧ V 11 p = c (16 + p) ∧ V 12 p = c (22 + p) ∧ V 13 p = c (28 + p)
def rg_h (V : Nat → Int → Int) (c : Int → Int) : Prop := (∀ j : Int, 0 ≤ j → j < 60 → V 7 j = c (34 + j)) ∧ ∀ p : Int, 0 ≤ p → p < 6 → V 9 p = m_S c (34 + 10 * p) 10
def rg_l (V : Nat → Int → Int) (c : Int → Int) : Prop := V 2 0 = c 9 ∧ V 2 1 = m_L c (c 9).toNat ∧ ∀ k : Int, 0 ≤ k → k < c 9 → V 14 k = c (94 + 7 * k) ∧ V 15 k = c (94 + 7 * k + 1) ∧ V 16 k = c (94 + 7 * k + 2) ∧ (0 ≤ c (94 + 7 * k) ∧ c (94 + 7 * k) < 6) ∧ ∀ i : Int, 0 ≤ i → i < c (94 + 7 * k + 2) → V 17 (4 * k + i) = c (94 + 7 * k + 3 + i)
def rg_a (V : Nat → Int → Int) (c : Int → Int) : Prop := (∀ p k : Int, 0 ≤ p → p < 6 → 0 ≤ k → k < 10 → V 8 (10 * p + k) = m_A c p k (c 9).toNat) ∧ ∀ k : Int, 0 ≤ k → k < 10 → V 4 k = m_I c k
def rg (V : Nat → Int → Int) (c : Int → Int) : Prop := rg_t V c ∧ rg_s V c ∧ rg_p V c ∧ rg_h V c ∧ rg_l V c ∧ rg_a V c
theorem gm_xor (x y : Int32) : (x ^^^ y).toInt < 0 ↔ ¬ (x.toInt < 0 ↔ y.toInt < 0) := by
  have h1 : (x ^^^ y).toBitVec.msb = (x.toBitVec.msb ^^ y.toBitVec.msb) := BitVec.msb_xor
  rw [BitVec.msb_eq_toInt, BitVec.msb_eq_toInt, BitVec.msb_eq_toInt] at h1
  have a : (x ^^^ y).toBitVec.toInt = (x ^^^ y).toInt := rfl
  have b : x.toBitVec.toInt = x.toInt := rfl
  have d : y.toBitVec.toInt = y.toInt := rfl
  rw [a, b, d] at h1
  by_cases p : x.toInt < 0 <;> by_cases q : y.toInt < 0 <;> by_cases r : (x ^^^ y).toInt < 0 <;> simp [p, q, r] at h1 ⊢
/-- what floorMod answers -/
theorem gm_fm {X : XW} {σ : ST} {x y : Int32} {a k : Int} (hx : x.toInt = a) (hy : y.toInt = k) (ha : -1000 ≤ a ∧ a ≤ 1000) (hk : 0 < k ∧ k ≤ 1000) : (F_J9_floorMod_7cf53 X σ x y).toInt = a % k := by
  have hm : (x % y).toInt = a.tmod k := by rw [Int32.toInt_mod, hx, hy]
  have n1 := Int.emod_nonneg a (by omega : k ≠ 0)
  have n2 := Int.emod_lt_of_pos a hk.1
  have hxr := gm_xor x y
  rw [hx, hy] at hxr
  unfold F_J9_floorMod_7cf53
  rw [q_letE, q_letE, q_letE, hm]
  by_cases q : a < 0
  · rw [if_pos (hxr.mpr (by omega))]
    have e := Int.tmod_add_mul_tdiv a k
    have t0 : a.tmod k = a % k ∨ a.tmod k = a % k - k := by
      have z := @Int.tmod_eq_emod a k
      rw [z]
      have kk : (k.natAbs : Int) = k := by omega
      split
      · exact Or.inl (by omega)
      · exact Or.inr (by omega)
    by_cases q2 : a.tmod k = 0
    · rw [if_pos q2, hm]
      omega
    · rw [if_neg q2]
      have t1 : a.tmod k ≤ 0 := by
        have z := Int.neg_tmod (-a) k
        rw [Int.neg_neg] at z
        rw [z]
        have y2 : 0 ≤ (-a).tmod k := by rw [Int.tmod_eq_emod_of_nonneg (by omega)]; exact Int.emod_nonneg _ (by omega)
        omega
      rw [ar_add, hm, hy, ar_wr (by omega) (by omega)]
      omega
  · rw [if_neg (fun z => by have := hxr.mp z; omega), hm, Int.tmod_eq_emod_of_nonneg (by omega)]
section GA
variable {X : XW} {lb : Nat → Nat} {g o a : Nat} {σ τ σ0 τ0 : ST} {V : Nat → Int → Int} {c : Int → Int}
theorem y_W.rd (w : y_W X lb g o σ0 σ V) {id : Nat} (h : id < 25) (f : Nat) {i : Int} (hi : (f : Int) = i) : (σ.1 (y_gA X g id) f).toInt = V id i := by
  rw [y_v_rdn h, w.2.2, hi]
/-- sums read the same behind a change below 34 -/
theorem gm_low {c' : Int → Int} (h : ∀ j : Int, 34 ≤ j → c' j = c j) : (∀ b n, 34 ≤ b → m_S c' b n = m_S c b n) ∧ (∀ n, m_L c' n = m_L c n) ∧ (∀ w k n, 34 ≤ w → m_K c' w k n = m_K c w k n) ∧ (∀ p k n, m_A c' p k n = m_A c p k n) ∧ ∀ k n, 0 ≤ k → m_P c' k n = m_P c k n := by
  have hK : ∀ (w k : Int) (n : Nat), 34 ≤ w → m_K c' w k n = m_K c w k n := by
    intro w k n hw
    induction n with
    | zero => rfl
    | succ n ih =>
      show m_K c' w k n + (if k < 0 ∨ c' (w + 3 + (n : Int)) = k then 1 else 0) = m_K c w k n + (if k < 0 ∨ c (w + 3 + (n : Int)) = k then 1 else 0)
      rw [ih, h _ (by omega)]
  refine ⟨fun b n hb => m_S_ext (fun j a1 a2 => h j (by omega)), fun n => ?_, hK, fun p k n => ?_, fun k n hk => ?_⟩
  · induction n with
    | zero => rfl
    | succ n ih =>
      show m_L c' n + c' (94 + 7 * (n : Int) + 2) = m_L c n + c (94 + 7 * (n : Int) + 2)
      rw [ih, h _ (by omega)]
  · induction n with
    | zero => rfl
    | succ n ih =>
      show m_A c' p k n + (if 0 ≤ p ∧ c' (94 + 7 * (n : Int)) ≠ p then 0 else m_K c' (94 + 7 * (n : Int)) k (c' (94 + 7 * (n : Int) + 2)).toNat) = m_A c p k n + (if 0 ≤ p ∧ c (94 + 7 * (n : Int)) ≠ p then 0 else m_K c (94 + 7 * (n : Int)) k (c (94 + 7 * (n : Int) + 2)).toNat)
      rw [ih, h _ (by omega), h _ (by omega), hK _ _ _ (by omega)]
  · induction n with
    | zero => rfl
    | succ n ih =>
      show m_P c' k n + c' (34 + 10 * (n : Int) + k) = m_P c k n + c (34 + 10 * (n : Int) + k)
      rw [ih, h _ (by omega)]
/-- kind, turn, winner, open anew: the rest stands -/
theorem rg.st {V' : Nat → Int → Int} {c' : Int → Int} (h : rg V c) (hV : ∀ id i, id ≠ 0 → V' id i = V id i) (hc : ∀ j : Int, j ≠ 5 → j ≠ 6 → j ≠ 7 → j ≠ 8 → c' j = c j) (s : rg_s V' c') : rg V' c' := by
  obtain ⟨⟨t1, t2, t3, t4, t5, t6⟩, -, hp, ⟨h1, h2⟩, ⟨l1, l2, l3⟩, ⟨a1, a2⟩⟩ := h
  obtain ⟨lS, lL, lK, lA, lP⟩ := gm_low (c := c) (c' := c') (fun j hj => hc j (by omega) (by omega) (by omega) (by omega))
  have e9 : c' 9 = c 9 := hc 9 (by decide) (by decide) (by decide) (by decide)
  have e2 : c' 2 = c 2 := hc 2 (by decide) (by decide) (by decide) (by decide)
  refine ⟨⟨?_, ?_, ?_, ?_, ?_, ?_⟩, s, fun p p0 p1 => ?_, ⟨fun j j0 j1 => ?_, fun p p0 p1 => ?_⟩, ⟨?_, ?_, fun k k0 k1 => ?_⟩, ⟨fun p k p0 p1 k0 k1 => ?_, fun k k0 k1 => ?_⟩⟩
  · rw [hV 1 0 (by decide), hc 0 (by decide) (by decide) (by decide) (by decide)]; exact t1
  · rw [hV 1 1 (by decide), hc 1 (by decide) (by decide) (by decide) (by decide)]; exact t2
  · rw [hV 1 2 (by decide), hc 3 (by decide) (by decide) (by decide) (by decide)]; exact t3
  · rw [hV 1 3 (by decide), hc 4 (by decide) (by decide) (by decide) (by decide)]; exact t4
  · rw [hV 1 4 (by decide), e2]; exact t5
  · rw [hc 3 (by decide) (by decide) (by decide) (by decide)]; exact t6
  · rw [hV 10 p (by decide), hV 11 p (by decide), hV 12 p (by decide), hV 13 p (by decide), hc _ (by omega) (by omega) (by omega) (by omega), hc _ (by omega) (by omega) (by omega) (by omega), hc _ (by omega) (by omega) (by omega) (by omega), hc _ (by omega) (by omega) (by omega) (by omega)]
    exact hp p p0 p1
  · rw [hV 7 j (by decide), hc _ (by omega) (by omega) (by omega) (by omega)]; exact h1 j j0 j1
  · rw [hV 9 p (by decide), lS _ _ (by omega)]; exact h2 p p0 p1
  · rw [hV 2 0 (by decide), e9]; exact l1
  · rw [hV 2 1 (by decide), e9, lL]; exact l2
  · rw [e9] at k1
    obtain ⟨y1, y2, y3, y5, y4⟩ := l3 k k0 k1
    rw [hV 14 k (by decide), hV 15 k (by decide), hV 16 k (by decide), hc _ (by omega) (by omega) (by omega) (by omega), hc _ (by omega) (by omega) (by omega) (by omega), hc _ (by omega) (by omega) (by omega) (by omega)]
    refine ⟨y1, y2, y3, y5, fun i i0 i1 => ?_⟩
    rw [hV 17 _ (by decide), hc _ (by omega) (by omega) (by omega) (by omega)]
    exact y4 i i0 i1
  · rw [hV 8 _ (by decide), e9, lA]; exact a1 p k p0 p1 k0 k1
  · rw [hV 4 k (by decide)]
    unfold m_I
    rw [e9, e2, lA, lP _ _ k0]
    exact a2 k k0 k1
end GA

/-! FROM 49b.leave.lean.txt -/
/-! A LAYING LEFT, A PLAYER BENT -/
/-- the kind behind k, where no one doubted -/
def gm_nk (c : Int → Int) (k : Int) : Int := if c 3 = 2 then k else if c 3 = 0 then (k + 1) % c 0 else (k - 1) % c 0
section GB
variable {X : XW} {lb : Nat → Nat} {g o a : Nat} {σ τ σ0 τ0 : ST} {V : Nat → Int → Int} {c : Int → Int}
theorem gm_back {k K : Int} : (k + K - 1) % K = (k - 1) % K := by
  have e : k + K - 1 = (k - 1) + K * 1 := by omega
  rw [e, Int.add_mul_emod_self_left]
theorem gm_cell (hc : m_c X τ a = c) {i : Int32} {A : Int} (h : i.toInt = A) : (τ.1 (q_rf X a 20) i.toNatClampNeg).toInt = c A := by
  have z := m_rd (X := X) (σ := τ) (a := a) rfl h
  rw [hc] at z
  exact z
/-- the class: the kind that follows -/
theorem gm_kindAfter (w : y_W X lb g o σ0 σ V) (t : rg_t V c) (h : m_H c) {x : Int32} {k : Int} (hx : x.toInt = k) (hk : 0 ≤ k ∧ k < c 0) : (F_X6_kindAfter X σ (q_rf X g 0) x 1).toInt = gm_nk c k := by
  obtain ⟨t1, t2, t3, t4, t5, t6⟩ := t
  have one : (1 : Int32).toInt = 1 := rfl
  have e2 : (σ.1 (q_rf X g 0) 2).toInt = c 3 := (w.rd (id := 1) (by decide) 2 rfl).trans t3
  have e0 : (σ.1 (q_rf X g 0) 0).toInt = c 0 := (w.rd (id := 1) (by decide) 0 rfl).trans t1
  have h0 := h.1
  unfold F_X6_kindAfter gm_nk
  rw [q_letE (σ.1 (q_rf X g 0) 2), e2]
  by_cases q : c 3 = 2
  · rw [if_pos q, if_pos q]
    exact hx
  · rw [if_neg q, if_neg q, q_letE (σ.1 (q_rf X g 0) 0), e0, if_pos (by omega), q_letE (σ.1 (q_rf X g 0) 2), e2]
    by_cases q0 : c 3 = 0
    · rw [if_pos q0, if_pos q0, q_letE, q_letE, q_letE]
      exact gm_fm (by rw [ar_add, hx, one, ar_wr (by omega) (by omega)]) e0 ⟨by omega, by omega⟩ ⟨by omega, by omega⟩
    · rw [if_neg q0, if_neg q0, q_letE, q_letE, q_letE]
      exact gm_fm (by rw [ar_sub, hx, one, ar_wr (by omega) (by omega)]) e0 ⟨by omega, by omega⟩ ⟨by omega, by omega⟩
/-- the reference's -/
theorem gm_nextKind (hc : m_c X τ a = c) (h0 : 2 ≤ c 0 ∧ c 0 ≤ 10) (h5 : 0 ≤ c 5 ∧ c 5 < c 0) (h3 : 0 ≤ c 3 ∧ c 3 ≤ 2) : (F_X12_nextKind X τ a 1).toInt = gm_nk c (c 5) := by
  have one : (1 : Int32).toInt = 1 := rfl
  have r0 : (τ.1 (q_rf X a 20) (0 : Int32).toNatClampNeg).toInt = c 0 := gm_cell hc rfl
  have r3 : (τ.1 (q_rf X a 20) (3 : Int32).toNatClampNeg).toInt = c 3 := gm_cell hc rfl
  have r5 : (τ.1 (q_rf X a 20) (5 : Int32).toNatClampNeg).toInt = c 5 := gm_cell hc rfl
  have rm : ∀ (x : Int32) (k : Int), x.toInt = k → 0 ≤ k → (x % τ.1 (q_rf X a 20) (0 : Int32).toNatClampNeg).toInt = k % c 0 := by
    intro x k hx h0'
    rw [Int32.toInt_mod, hx, r0, Int.tmod_eq_emod_of_nonneg h0']
  unfold F_X12_nextKind gm_nk
  rw [q_letE (τ.1 (q_rf X a 20) (0 : Int32).toNatClampNeg), q_letE (τ.1 (q_rf X a 20) (3 : Int32).toNatClampNeg), r3]
  by_cases q0 : c 3 = 0
  · rw [if_pos q0, if_neg (by omega), if_pos q0, q_letE, q_letE, q_letE]
    exact rm _ _ (by rw [ar_add, r5, one, ar_wr (by omega) (by omega)]) (by omega)
  · rw [if_neg q0, q_letE (τ.1 (q_rf X a 20) (3 : Int32).toNatClampNeg), r3]
    by_cases q1 : c 3 = 1
    · rw [if_pos q1, q_letE (τ.1 (q_rf X a 20) (3 : Int32).toNatClampNeg), r3, if_pos q1, if_neg (by omega), if_neg q0, q_letE, q_letE, q_letE, q_letE]
      rw [rm _ (c 5 + c 0 - 1) (by rw [ar_sub, ar_add, r5, r0, one, ar_wr (n := c 5 + c 0) (by omega) (by omega), ar_wr (by omega) (by omega)]) (by omega)]
      exact gm_back
    · rw [if_neg q1, one, if_neg (by decide), q_letE (τ.1 (q_rf X a 20) (3 : Int32).toNatClampNeg), r3, if_neg q1, if_pos (by omega), q_letE]
      exact r5
/-- who follows -/
theorem gm_playerAfter (w : y_W X lb g o σ0 σ V) (t : rg_t V c) (h : m_H c) {x : Int32} {p : Int} (hx : x.toInt = p) (hp : 0 ≤ p ∧ p < c 2) : (F_X6_playerAfter X σ (q_rf X g 0) x 1).toInt = (p + 1) % c 2 := by
  have one : (1 : Int32).toInt = 1 := rfl
  have h2 := h.2.1
  have e4 : (σ.1 (q_rf X g 0) 4).toInt = c 2 := (w.rd (id := 1) (by decide) 4 rfl).trans t.2.2.2.2.1
  unfold F_X6_playerAfter
  rw [q_letE (σ.1 (q_rf X g 0) 4), e4, if_pos (by omega), q_letE, q_letE, q_letE]
  exact gm_fm (by rw [ar_add, hx, one, ar_wr (by omega) (by omega)]) e4 ⟨by omega, by omega⟩ ⟨by omega, by omega⟩
theorem gm_behindOf (hc : m_c X τ a = c) (h2 : 0 ≤ c 2 ∧ c 2 ≤ 6) {x : Int32} {p : Int} (hx : x.toInt = p) (hp : 0 ≤ p ∧ p < c 2) : (F_X12_behindOf X τ a x).toInt = (p + 1) % c 2 := by
  have one : (1 : Int32).toInt = 1 := rfl
  have r2 : (τ.1 (q_rf X a 20) (2 : Int32).toNatClampNeg).toInt = c 2 := gm_cell hc rfl
  unfold F_X12_behindOf
  rw [q_letE, q_letE, q_letE, Int32.toInt_mod, ar_add, hx, one, ar_wr (by omega) (by omega), r2, Int.tmod_eq_emod_of_nonneg (by omega)]
/-- the reference's cards of a player -/
theorem gm_handOf (hc : m_c X τ a = c) {x y : Int32} {p k : Int} (hx : x.toInt = p) (hy : y.toInt = k) (hp : 0 ≤ p ∧ p < 6) (hk : 0 ≤ k ∧ k < 10) : (F_X12_handOf X τ a x y).toInt = c (34 + 10 * p + k) := by
  have e10 : (10 : Int32).toInt = 10 := rfl
  have e34 : (34 : Int32).toInt = 34 := rfl
  unfold F_X12_handOf
  rw [q_letE, q_letE, q_letE, q_letE]
  exact gm_cell hc (by rw [ar_add, ar_add, ar_mul, e34, e10, hx, hy, ar_wr (n := 10 * p) (by omega) (by omega), ar_wr (n := 34 + 10 * p) (by omega) (by omega), ar_wr (by omega) (by omega)])
theorem gm_cardsL (hc : m_c X τ a = c) (hb : ∀ p k : Int, 0 ≤ p → p < 6 → 0 ≤ k → k < 10 → 0 ≤ c (34 + 10 * p + k) ∧ c (34 + 10 * p + k) ≤ 80) {v : Int32} {p : Int} (hv : v.toInt = p) (hp : 0 ≤ p ∧ p < 6) (k : Nat) : ∀ x y : Int32, (2147483647 - y.toInt).toNat < k → 0 ≤ y.toInt → y.toInt ≤ 10 → x.toInt = m_S c (34 + 10 * p) y.toInt.toNat → 0 ≤ x.toInt → x.toInt ≤ 80 * y.toInt → (F_X12_cardsOf_L4_1 X τ a v k x y).toInt = m_S c (34 + 10 * p) 10 := by
  induction k with
  | zero => intro x y hm; exact absurd hm (Nat.not_lt_zero _)
  | succ k ih =>
    intro x y hm y0 y1 hx x0 x1
    rw [F_X12_cardsOf_L4_1_s]
    unfold F_X12_cardsOf_B4_1
    by_cases q : y.toInt < 10
    · have hh := gm_handOf hc hv (y := y) rfl hp ⟨y0, q⟩
      have bb := hb p y.toInt hp.1 hp.2 y0 q
      have e1 : (y + 1).toInt = y.toInt + 1 := y_inc (by omega)
      have ex : (x + F_X12_handOf X τ a v y).toInt = x.toInt + c (34 + 10 * p + y.toInt) := by rw [ar_add, hh, ar_wr (by omega) (by omega)]
      rw [if_pos q, q_letE, q_letE, q_letE]
      refine ih _ _ (by omega) (by omega) (by omega) ?_ (by omega) (by omega)
      rw [ex, e1, hx]
      have et : (y.toInt + 1).toNat = y.toInt.toNat + 1 := by omega
      rw [et]
      show _ = m_S c (34 + 10 * p) y.toInt.toNat + c (34 + 10 * p + (y.toInt.toNat : Int))
      have ec : (y.toInt.toNat : Int) = y.toInt := by omega
      rw [ec]
    · have ey : y.toInt = 10 := by omega
      rw [if_neg q, hx, ey]
      rfl
theorem gm_cardsOf (hc : m_c X τ a = c) (hG : m_G c) {v : Int32} {p : Int} (hv : v.toInt = p) (hp : 0 ≤ p ∧ p < 6) : (F_X12_cardsOf X τ a v).toInt = m_S c (34 + 10 * p) 10 := by
  unfold F_X12_cardsOf
  have z0 : (0 : Int32).toInt = 0 := rfl
  exact gm_cardsL hc (fun p k a1 a2 a3 a4 => hG.h80 a1 a2 a3 a4) hv hp _ 0 0 (by decide) (by decide) (by decide) (by rw [z0]; rfl) (by decide) (by decide)
end GB

/-! FROM 49c.letlie.lean.txt -/
/-! A LAYING LEFT: class and reference -/
section GC
variable {X : XW} {lb : Nat → Nat} {g o a : Nat} {σ τ σ0 τ0 : ST} {V : Nat → Int → Int} {c : Int → Int}
theorem gm_winIfRid (Y : y_S X lb) (G : y_G X lb g o) (w : y_W X lb g o σ0 σ V) {p : Int} (h5 : V 0 5 = p) (hp : 0 ≤ p ∧ p < 6) : y_W X lb g o σ0 (F_X0_winIfRid X σ g) (y_up V 0 6 (if V 9 p = 0 then p else V 0 6)) := by
  have e5 : (σ.1 g 5).toInt = p := (w.rd (id := 0) (by decide) 5 rfl).trans h5
  have gn9 : ((y_gn 9 : Nat) : Int) = 6 := rfl
  have e9 : (F_X5_get X σ (q_rf X (q_rf X g 1) 2) (σ.1 g 5)).toInt = V 9 p := y_getI Y G w (id := 9) ⟨by decide, by decide⟩ rfl e5 hp.1 (by rw [gn9]; exact hp.2)
  unfold F_X0_winIfRid
  rw [q_letE (σ.1 g 5), q_letE (F_X5_get X σ (q_rf X (q_rf X g 1) 2) (σ.1 g 5)), e9]
  by_cases q : V 9 p = 0
  · rw [if_pos q, if_pos q, q_letE, q_letE]
    have w2 := w.si Y G (id := 0) (by decide) 6 (σ.1 g 5)
    rw [e5] at w2
    exact w2
  · rw [if_neg q, if_neg q, y_up_id]
    exact w
theorem gm_letLie (Y : y_S X lb) (G : y_G X lb g o) (ha : q_kd X a = 12) (w : y_W X lb g o σ0 σ V) (R : rg V c) (hG : m_G c) (hc : m_c X τ a = c) (h7 : c 7 = 1) :
    ∃ (V' : Nat → Int → Int) (c' : Int → Int), y_W X lb g o σ0 (F_X0_letLie X σ g) V' ∧ m_c X (F_X12_leaves X τ a) a = c' ∧ tkl (fun b _ => b = q_rf X a 20) (fun _ _ => False) τ (F_X12_leaves X τ a) ∧ rg V' c' ∧ (∀ id i, id ≠ 0 → V' id i = V id i) ∧ (∀ j : Int, j ≠ 5 → j ≠ 6 → j ≠ 7 → j ≠ 8 → c' j = c j) ∧ m_G c' := by
  have hH := hG.1
  obtain ⟨b0, b2, b4, b5, b6, b7, b9, b79⟩ := hG.1
  obtain ⟨P, hP⟩ : ∃ P, P = c 6 := ⟨_, rfl⟩
  have pr : 0 ≤ P ∧ P < c 2 := by omega
  have rs := R.2.1
  have rt := R.1
  have n2 : ¬ c 2 = 0 := by omega
  have v5 : V 0 5 = P := by
    have z := rs.2.1
    rw [if_neg n2] at z
    exact z.trans hP.symm
  have z0 : (0 : Int32).toInt = 0 := rfl
  obtain ⟨W, hW⟩ : ∃ W : Int, W = (if m_S c (34 + 10 * P) 10 = 0 then P else c 8) := ⟨_, rfl⟩
  obtain ⟨Kd, hKd⟩ : ∃ K, K = gm_nk c (c 5) := ⟨_, rfl⟩
  obtain ⟨Tn, hTn⟩ : ∃ T, T = (P + 1) % c 2 := ⟨_, rfl⟩
  -- the class
  have cls : y_W X lb g o σ0 (F_X0_letLie X σ g) (y_up (y_up (y_up (y_up V 0 7 0) 0 6 W) 0 4 Kd) 0 5 Tn) := by
    have w1 : y_W X lb g o σ0 (q_si σ g 7 0) (y_up V 0 7 0) := w.si Y G (id := 0) (by decide) 7 0
    unfold F_X0_letLie
    rw [q_letE (q_si σ g 7 0)]
    obtain ⟨σ1, e1⟩ : ∃ s, s = q_si σ g 7 0 := ⟨_, rfl⟩
    rw [← e1] at w1 ⊢
    have w2 := gm_winIfRid Y G w1 (p := P) ((y_up_ne (Or.inr (by decide))).trans v5) ⟨pr.1, by omega⟩
    have r9 : y_up V 0 7 0 9 P = m_S c (34 + 10 * P) 10 := (y_up_ne (Or.inl (by decide))).trans (R.2.2.2.1.2 P pr.1 (by omega))
    have r6 : y_up V 0 7 0 0 6 = c 8 := (y_up_ne (Or.inr (by decide))).trans rs.2.2.1.1
    rw [r9, r6, ← hW] at w2
    rw [q_letE (F_X0_winIfRid X σ1 g)]
    obtain ⟨σ2, e2⟩ : ∃ s, s = F_X0_winIfRid X σ1 g := ⟨_, rfl⟩
    rw [← e2] at w2 ⊢
    have k4 : (σ2.1 g 4).toInt = c 5 := by
      refine (w2.rd (id := 0) (by decide) 4 rfl).trans ?_
      rw [y_up_ne (Or.inr (by decide)), y_up_ne (Or.inr (by decide))]
      exact rs.1
    have t2 : rg_t (y_up (y_up V 0 7 0) 0 6 W) c := by
      obtain ⟨t1, t2, t3, t4, t5, t6⟩ := rt
      refine ⟨?_, ?_, ?_, ?_, ?_, t6⟩
      · rw [y_up_ne (Or.inl (by decide)), y_up_ne (Or.inl (by decide))]; exact t1
      · rw [y_up_ne (Or.inl (by decide)), y_up_ne (Or.inl (by decide))]; exact t2
      · rw [y_up_ne (Or.inl (by decide)), y_up_ne (Or.inl (by decide))]; exact t3
      · rw [y_up_ne (Or.inl (by decide)), y_up_ne (Or.inl (by decide))]; exact t4
      · rw [y_up_ne (Or.inl (by decide)), y_up_ne (Or.inl (by decide))]; exact t5
    have ka := gm_kindAfter w2 t2 hH k4 b5
    rw [← hKd] at ka
    rw [q_letE (σ2.1 g 4), q_letE (F_X6_kindAfter X σ2 (q_rf X g 0) (σ2.1 g 4) 1)]
    have w3 : y_W X lb g o σ0 (q_si σ2 g 4 (F_X6_kindAfter X σ2 (q_rf X g 0) (σ2.1 g 4) 1)) _ := w2.si Y G (id := 0) (by decide) 4 (F_X6_kindAfter X σ2 (q_rf X g 0) (σ2.1 g 4) 1)
    rw [ka] at w3
    rw [q_letE (q_si σ2 g 4 (F_X6_kindAfter X σ2 (q_rf X g 0) (σ2.1 g 4) 1))]
    obtain ⟨σ3, e3⟩ : ∃ s, s = q_si σ2 g 4 (F_X6_kindAfter X σ2 (q_rf X g 0) (σ2.1 g 4) 1) := ⟨_, rfl⟩
    rw [← e3] at w3 ⊢
    have w3' : y_W X lb g o σ0 σ3 (y_up (y_up (y_up V 0 7 0) 0 6 W) 0 4 Kd) := w3
    have k5 : (σ3.1 g 5).toInt = P := by
      refine (w3'.rd (id := 0) (by decide) 5 rfl).trans ?_
      rw [y_up_ne (Or.inr (by decide)), y_up_ne (Or.inr (by decide)), y_up_ne (Or.inr (by decide))]
      exact v5
    have t3 : rg_t (y_up (y_up (y_up V 0 7 0) 0 6 W) 0 4 Kd) c := by
      obtain ⟨s1, s2, s3, s4, s5, s6⟩ := t2
      refine ⟨?_, ?_, ?_, ?_, ?_, s6⟩
      · rw [y_up_ne (Or.inl (by decide))]; exact s1
      · rw [y_up_ne (Or.inl (by decide))]; exact s2
      · rw [y_up_ne (Or.inl (by decide))]; exact s3
      · rw [y_up_ne (Or.inl (by decide))]; exact s4
      · rw [y_up_ne (Or.inl (by decide))]; exact s5
    have pa := gm_playerAfter w3' t3 hH k5 pr
    rw [← hTn] at pa
    rw [q_letE (σ3.1 g 5), q_letE (F_X6_playerAfter X σ3 (q_rf X g 0) (σ3.1 g 5) 1), q_letE]
    have w4 : y_W X lb g o σ0 (q_si σ3 g 5 (F_X6_playerAfter X σ3 (q_rf X g 0) (σ3.1 g 5) 1)) _ := w3'.si Y G (id := 0) (by decide) 5 (F_X6_playerAfter X σ3 (q_rf X g 0) (σ3.1 g 5) 1)
    rw [pa] at w4
    exact w4
  -- the reference
  have mdl : m_c X (F_X12_leaves X τ a) a = m_up (m_up (m_up (m_up c 7 0) 8 W) 5 Kd) 6 Tn ∧ tkl (fun b _ => b = q_rf X a 20) (fun _ _ => False) τ (F_X12_leaves X τ a) := by
    have r6 : (τ.1 (q_rf X a 20) (6 : Int32).toNatClampNeg).toInt = P := (gm_cell hc rfl).trans hP.symm
    unfold F_X12_leaves
    rw [q_letE (τ.1 (q_rf X a 20) (6 : Int32).toNatClampNeg)]
    obtain ⟨f, hf⟩ : ∃ f, f = τ.1 (q_rf X a 20) (6 : Int32).toNatClampNeg := ⟨_, rfl⟩
    rw [← hf] at r6 ⊢
    have c1 : m_c X (q_si τ (q_rf X a 20) (7 : Int32).toNatClampNeg 0) a = m_up c 7 0 := by
      rw [m_c_up 7 (by decide) rfl, hc, z0]
    have k1 : tkl (fun b _ => b = q_rf X a 20) (fun _ _ => False) τ (q_si τ (q_rf X a 20) (7 : Int32).toNatClampNeg 0) := tkl.rf.si _ rfl
    rw [q_letE (q_si τ (q_rf X a 20) (7 : Int32).toNatClampNeg 0)]
    obtain ⟨τ1, e1⟩ : ∃ s, s = q_si τ (q_rf X a 20) (7 : Int32).toNatClampNeg 0 := ⟨_, rfl⟩
    rw [← e1] at c1 k1 ⊢
    have cd : (F_X12_cardsOf X τ1 a f).toInt = m_S c (34 + 10 * P) 10 := by
      have z := gm_cardsL c1 (fun p k a1 a2 a3 a4 => by rw [m_up_ne (by omega)]; exact hG.h80 a1 a2 a3 a4) r6 ⟨pr.1, by omega⟩ ((2147483647 - (0 : Int32).toInt).toNat + 1) 0 0 (by decide) (by decide) (by decide) (by rw [z0]; rfl) (by decide) (by decide)
      unfold F_X12_cardsOf
      rw [z]
      exact m_S_ext (fun j a1 a2 => m_up_ne (by omega))
    rw [q_letE (F_X12_cardsOf X τ1 a f), cd]
    -- kind and turn behind the winner
    have fin : ∀ τ2 : ST, m_c X τ2 a = m_up (m_up c 7 0) 8 W → tkl (fun b _ => b = q_rf X a 20) (fun _ _ => False) τ τ2 →
        m_c X (q_let (F_X12_nextKind X τ2 a (1 : Int32) : Int32) (fun r_8 => q_let (q_si τ2 (q_rf X a 20) (5 : Int32).toNatClampNeg r_8 : ST) (fun σ_10 => q_let (F_X12_behindOf X σ_10 a f : Int32) (fun r_11 => q_let (q_si σ_10 (q_rf X a 20) (6 : Int32).toNatClampNeg r_11 : ST) (fun σ_13 => σ_13))))) a = m_up (m_up (m_up (m_up c 7 0) 8 W) 5 Kd) 6 Tn ∧
        tkl (fun b _ => b = q_rf X a 20) (fun _ _ => False) τ (q_let (F_X12_nextKind X τ2 a (1 : Int32) : Int32) (fun r_8 => q_let (q_si τ2 (q_rf X a 20) (5 : Int32).toNatClampNeg r_8 : ST) (fun σ_10 => q_let (F_X12_behindOf X σ_10 a f : Int32) (fun r_11 => q_let (q_si σ_10 (q_rf X a 20) (6 : Int32).toNatClampNeg r_11 : ST) (fun σ_13 => σ_13))))) := by
      intro τ2 c2 k2
      have d : ∀ j : Int, j ≠ 7 → j ≠ 8 → m_up (m_up c 7 0) 8 W j = c j := fun j a1 a2 => by rw [m_up_ne a2, m_up_ne a1]
      have nk := gm_nextKind c2 (by rw [d 0 (by decide) (by decide)]; exact b0) (by rw [d 5 (by decide) (by decide), d 0 (by decide) (by decide)]; exact b5) (by rw [d 3 (by decide) (by decide)]; exact rt.2.2.2.2.2)
      have ek : gm_nk (m_up (m_up c 7 0) 8 W) (m_up (m_up c 7 0) 8 W 5) = Kd := by
        unfold gm_nk at hKd ⊢
        rw [d 3 (by decide) (by decide), d 5 (by decide) (by decide), d 0 (by decide) (by decide)]
        exact hKd.symm
      rw [ek] at nk
      rw [q_letE (F_X12_nextKind X τ2 a 1)]
      have c3 : m_c X (q_si τ2 (q_rf X a 20) (5 : Int32).toNatClampNeg (F_X12_nextKind X τ2 a 1)) a = m_up (m_up (m_up c 7 0) 8 W) 5 Kd := by
        rw [m_c_up 5 (by decide) rfl, c2, nk]
      have k3 : tkl (fun b _ => b = q_rf X a 20) (fun _ _ => False) τ (q_si τ2 (q_rf X a 20) (5 : Int32).toNatClampNeg (F_X12_nextKind X τ2 a 1)) := k2.si _ rfl
      rw [q_letE (q_si τ2 (q_rf X a 20) (5 : Int32).toNatClampNeg (F_X12_nextKind X τ2 a 1))]
      obtain ⟨τ3, e3⟩ : ∃ s, s = q_si τ2 (q_rf X a 20) (5 : Int32).toNatClampNeg (F_X12_nextKind X τ2 a 1) := ⟨_, rfl⟩
      rw [← e3] at c3 k3 ⊢
      have d2 : m_up (m_up (m_up c 7 0) 8 W) 5 Kd 2 = c 2 := by rw [m_up_ne (by decide)]; exact d 2 (by decide) (by decide)
      have bh := gm_behindOf c3 (by rw [d2]; exact b2) r6 (by rw [d2]; exact pr)
      rw [d2, ← hTn] at bh
      rw [q_letE (F_X12_behindOf X τ3 a f), q_letE]
      refine ⟨?_, k3.si _ rfl⟩
      rw [m_c_up 6 (by decide) rfl, c3, bh]
    by_cases q : m_S c (34 + 10 * P) 10 = 0
    · rw [if_pos q] at hW
      rw [if_pos q, q_letE (q_si τ1 (q_rf X a 20) (8 : Int32).toNatClampNeg f)]
      exact fin _ (by rw [m_c_up 8 (by decide) rfl, c1, r6, hW]) (k1.si _ rfl)
    · rw [if_neg q] at hW
      rw [if_neg q]
      refine fin τ1 ?_ k1
      rw [c1, hW]
      have e8 : m_up c 7 0 8 = c 8 := m_up_ne (by decide)
      have z := m_up_id (m_up c 7 0) 8
      rw [e8] at z
      exact z.symm
  have hV' : ∀ id i, id ≠ 0 → y_up (y_up (y_up (y_up V 0 7 0) 0 6 W) 0 4 Kd) 0 5 Tn id i = V id i := fun id i h => by
    rw [y_up_ne (Or.inl h), y_up_ne (Or.inl h), y_up_ne (Or.inl h), y_up_ne (Or.inl h)]
  have hc' : ∀ j : Int, j ≠ 5 → j ≠ 6 → j ≠ 7 → j ≠ 8 → m_up (m_up (m_up (m_up c 7 0) 8 W) 5 Kd) 6 Tn j = c j := fun j a1 a2 a3 a4 => by
    rw [m_up_ne a2, m_up_ne a1, m_up_ne a4, m_up_ne a3]
  have kb : 0 ≤ Kd ∧ Kd < c 0 := by
    rw [hKd]
    unfold gm_nk
    have n0 : c 0 ≠ 0 := by omega
    have m1 := Int.emod_nonneg (c 5 + 1) n0
    have m2 := Int.emod_lt_of_pos (c 5 + 1) (by omega : 0 < c 0)
    have m3 := Int.emod_nonneg (c 5 - 1) n0
    have m4 := Int.emod_lt_of_pos (c 5 - 1) (by omega : 0 < c 0)
    split
    · exact b5
    · split
      · exact ⟨m1, m2⟩
      · exact ⟨m3, m4⟩
  have tb : 0 ≤ Tn ∧ Tn < c 2 := by
    rw [hTn]
    exact ⟨Int.emod_nonneg _ (by omega), Int.emod_lt_of_pos _ (by omega)⟩
  have g1 : m_G (m_up c 7 0) := hG.wr m_up_e (Or.inl ⟨rfl, rfl⟩)
  have g2 : m_G (m_up (m_up c 7 0) 8 W) := g1.wr m_up_e (Or.inr (Or.inl rfl))
  have e20 : m_up (m_up c 7 0) 8 W 0 = c 0 := by rw [m_up_ne (by decide), m_up_ne (by decide)]
  have g3 : m_G (m_up (m_up (m_up c 7 0) 8 W) 5 Kd) := g2.wr m_up_e (Or.inr (Or.inr (Or.inr (Or.inl ⟨rfl, kb.1, by rw [e20]; exact kb.2⟩))))
  have e32 : m_up (m_up (m_up c 7 0) 8 W) 5 Kd 2 = c 2 := by rw [m_up_ne (by decide), m_up_ne (by decide), m_up_ne (by decide)]
  have e37 : m_up (m_up (m_up c 7 0) 8 W) 5 Kd 7 = 0 := by rw [m_up_ne (by decide), m_up_ne (by decide), m_up_eq]
  have g4 : m_G (m_up (m_up (m_up (m_up c 7 0) 8 W) 5 Kd) 6 Tn) := g3.wr m_up_e (Or.inr (Or.inr (Or.inr (Or.inr (Or.inl ⟨rfl, tb.1, by rw [e32]; exact tb.2, e37⟩)))))
  refine ⟨_, _, cls, mdl.1, mdl.2, R.st hV' hc' ⟨?_, ?_, ⟨?_, ?_⟩, ?_⟩, hV', hc', g4⟩
  · rw [y_up_ne (Or.inr (by decide)), y_up_eq, m_up_ne (by decide), m_up_eq]
  · rw [y_up_eq, hc' 2 (by decide) (by decide) (by decide) (by decide), if_neg n2, m_up_eq]
  · rw [y_up_ne (Or.inr (by decide)), y_up_ne (Or.inr (by decide)), y_up_eq, m_up_ne (by decide), m_up_ne (by decide), m_up_eq]
  · rw [m_up_ne (by decide), m_up_ne (by decide), m_up_eq, hW]
    have w8 := rs.2.2.1.2
    split <;> omega
  · rw [y_up_ne (Or.inr (by decide)), y_up_ne (Or.inr (by decide)), y_up_ne (Or.inr (by decide)), y_up_eq, m_up_ne (by decide), m_up_ne (by decide), m_up_ne (by decide), m_up_eq]
end GC

/-! FROM 49d.laydown.lean.txt -/
/-! CARDS LAID DOWN: the reference -/
theorem gl_mono {l : Int → Int} (h : ∀ t : Int, 0 ≤ t → t < 10 → 0 ≤ l t) {t k : Int} (h0 : 0 ≤ t) (h1 : t ≤ k) (h2 : k ≤ 10) : m_S l 0 t.toNat ≤ m_S l 0 k.toNat := by
  have z := m_S_add l 0 t.toNat (k.toNat - t.toNat)
  have e : t.toNat + (k.toNat - t.toNat) = k.toNat := by omega
  rw [e] at z
  have y : 0 ≤ m_S l (0 + (t.toNat : Int)) (k.toNat - t.toNat) := m_S_nn (fun j a b => h j (by omega) (by omega))
  omega
theorem gl_succ (l : Int → Int) {k : Int} (h : 0 ≤ k) : m_S l 0 (k + 1).toNat = m_S l 0 k.toNat + l k := by
  have z := m_S_succ l 0 k h
  rw [Int.zero_add] at z
  exact z
/-- which kind the q-th card laid is of -/
theorem gl_at {l : Int → Int} (n : Nat) (q : Int) (h0 : 0 ≤ q) (h1 : q < m_S l 0 n) : ∃ t : Int, 0 ≤ t ∧ t < (n : Int) ∧ m_S l 0 t.toNat ≤ q ∧ q < m_S l 0 t.toNat + l t := by
  induction n with
  | zero =>
    have e : m_S l 0 0 = 0 := rfl
    omega
  | succ n ih =>
    have e : m_S l 0 (n + 1) = m_S l 0 n + l (0 + (n : Int)) := rfl
    rw [Int.zero_add] at e
    by_cases c : q < m_S l 0 n
    · obtain ⟨t, t0, t1, t2, t3⟩ := ih c
      exact ⟨t, t0, by omega, t2, t3⟩
    · refine ⟨(n : Int), by omega, by omega, ?_, ?_⟩
      · have en : ((n : Int)).toNat = n := by omega
        rw [en]; omega
      · have en : ((n : Int)).toNat = n := by omega
        rw [en]; omega
/-- how far the reference is, laying l of p's cards: the kinds below k, i cards of k -/
def gl_c (c0 c l : Int → Int) (p k i : Int) : Prop :=
  (∀ j : Int, 0 ≤ j → ¬ (34 + 10 * p ≤ j ∧ j < 34 + 10 * p + k) → ¬ (94 + 7 * c0 9 ≤ j ∧ j < 101 + 7 * c0 9) → c j = c0 j) ∧ (∀ t : Int, 0 ≤ t → t < k → c (34 + 10 * p + t) = c0 (34 + 10 * p + t) - l t) ∧ c (94 + 7 * c0 9) = p ∧ c (94 + 7 * c0 9 + 1) = c0 5 ∧ (∀ t q : Int, 0 ≤ t → t < k → m_S l 0 t.toNat ≤ q → q < m_S l 0 t.toNat + l t → c (94 + 7 * c0 9 + 3 + q) = t) ∧ ∀ q : Int, m_S l 0 k.toNat ≤ q → q < m_S l 0 k.toNat + i → c (94 + 7 * c0 9 + 3 + q) = k
/-- what the reference has behind it -/
def gl_r (c0 c l : Int → Int) (p : Int) : Prop :=
  (∀ j : Int, 0 ≤ j → ¬ (34 + 10 * p ≤ j ∧ j < 44 + 10 * p) → ¬ (94 + 7 * c0 9 ≤ j ∧ j < 101 + 7 * c0 9) → j ≠ 9 → j ≠ 7 → c j = c0 j) ∧ (∀ t : Int, 0 ≤ t → t < 10 → c (34 + 10 * p + t) = c0 (34 + 10 * p + t) - l t) ∧ c (94 + 7 * c0 9) = p ∧ c (94 + 7 * c0 9 + 1) = c0 5 ∧ c (94 + 7 * c0 9 + 2) = m_S l 0 10 ∧ c 9 = c0 9 + 1 ∧ c 7 = 1 ∧ ∀ t q : Int, 0 ≤ t → t < 10 → m_S l 0 t.toNat ≤ q → q < m_S l 0 t.toNat + l t → c (94 + 7 * c0 9 + 3 + q) = t
theorem gl_c.card {c0 c l : Int → Int} {p k i n : Int} (h : gl_c c0 c l p k i) (hl : m_lo c0 l p) (hk : 0 ≤ k ∧ k < 10) (hi : 0 ≤ i ∧ i < l k) (hn : n = m_S l 0 k.toNat + i) : gl_c c0 (m_up c (94 + 7 * c0 9 + 3 + n) k) l p k (i + 1) := by
  obtain ⟨h1, h2, h3, h4, h5, h6⟩ := h
  have b := hl.c9
  have hp := hl.2.1
  have nn : ∀ t : Int, 0 ≤ t → t < 10 → 0 ≤ l t := fun t a b => (hl.2.2.1 t a b).1
  have s4 := hl.2.2.2
  have mk := gl_mono nn hk.1 (by omega : k ≤ k + 1) (by omega)
  have mk2 := gl_mono nn (t := k + 1) (k := 10) (by omega) (by omega) (by omega)
  have ms := gl_succ l hk.1
  have m0 := gl_mono nn (t := 0) (k := k) (by omega) (by omega) (by omega)
  have z0 : m_S l 0 (0 : Int).toNat = 0 := rfl
  have z10 : m_S l 0 (10 : Int).toNat = m_S l 0 10 := rfl
  refine ⟨fun j j0 j1 j2 => ?_, fun t t0 t1 => ?_, ?_, ?_, fun t q t0 t1 q0 q1 => ?_, fun q q0 q1 => ?_⟩
  · rw [m_up_ne (by omega)]; exact h1 j j0 j1 j2
  · rw [m_up_ne (by omega)]; exact h2 t t0 t1
  · rw [m_up_ne (by omega)]; exact h3
  · rw [m_up_ne (by omega)]; exact h4
  · have mt := gl_mono nn (t := t + 1) (k := k) (by omega) (by omega) (by omega)
    have ts := gl_succ l t0
    rw [m_up_ne (by omega)]; exact h5 t q t0 t1 q0 q1
  · by_cases e : q = n
    · rw [e, m_up_eq]
    · rw [m_up_ne (by omega)]; exact h6 q q0 (by omega)
theorem gl_c.hand {c0 c l : Int → Int} {p k v : Int} (h : gl_c c0 c l p k (l k)) (hl : m_lo c0 l p) (hk : 0 ≤ k ∧ k < 10) (hv : v = c (34 + 10 * p + k) - l k) : gl_c c0 (m_up c (34 + 10 * p + k) v) l p (k + 1) 0 := by
  obtain ⟨h1, h2, h3, h4, h5, h6⟩ := h
  have b := hl.c9
  have hp := hl.2.1
  have nn : ∀ t : Int, 0 ≤ t → t < 10 → 0 ≤ l t := fun t a b => (hl.2.2.1 t a b).1
  have z0 : m_S l 0 (0 : Int).toNat = 0 := rfl
  refine ⟨fun j j0 j1 j2 => ?_, fun t t0 t1 => ?_, ?_, ?_, fun t q t0 t1 q0 q1 => ?_, fun q q0 q1 => by omega⟩
  · rw [m_up_ne (by omega)]; exact h1 j j0 (by omega) j2
  · by_cases e : t = k
    · rw [e, m_up_eq, hv, h1 _ (by omega) (by omega) (by omega)]
    · rw [m_up_ne (by omega)]; exact h2 t t0 (by omega)
  · rw [m_up_ne (by omega)]; exact h3
  · rw [m_up_ne (by omega)]; exact h4
  · have mt := gl_mono nn (t := 0) (k := t) (by omega) t0 (by omega)
    rw [m_up_ne (by omega)]
    by_cases e : t = k
    · subst e
      exact h6 q q0 q1
    · exact h5 t q t0 (by omega) q0 q1
section GD
variable {X : XW} {lb : Nat → Nat} {g o a r2 : Nat} {σ τ σ0 τ0 : ST} {V : Nat → Int → Int} {c c0 l : Int → Int}
theorem gl_in (hne : r2 ≠ q_rf X a 20) {p k : Int} (hl : m_lo c0 l p) (hk : 0 ≤ k ∧ k < 10) {x9 v1 rr : Int32} (hx9 : x9.toInt = k) (hv1 : v1.toInt = p) (hrr : rr.toInt = 94 + 7 * c0 9) (Bf : Int32 → Int32 → ST → ST) (hof : ∀ j : Int, 0 ≤ j → j < 10 → (τ0.1 r2 j.toNat).toInt = l j) (n : Nat) : ∀ (x y : Int32) (τ : ST) (c : Int → Int), (2147483647 - y.toInt).toNat < n → tkl (fun b _ => b = q_rf X a 20) (fun _ _ => False) τ0 τ → m_c X τ a = c → gl_c c0 c l p k y.toInt → m_ld c0 c l p k y.toInt → 0 ≤ y.toInt → y.toInt ≤ l k → x.toInt = m_S l 0 k.toNat + y.toInt →
    ∃ (x' : Int32) (τ' : ST) (c' : Int → Int), F_X12_laysDown_L48_3 X r2 x9 rr a v1 Bf n x y τ = Bf x' (x9 + 1) τ' ∧ x'.toInt = m_S l 0 (k + 1).toNat ∧ tkl (fun b _ => b = q_rf X a 20) (fun _ _ => False) τ0 τ' ∧ m_c X τ' a = c' ∧ gl_c c0 c' l p (k + 1) 0 ∧ m_ld c0 c' l p (k + 1) 0 := by
  have b9 := hl.c9
  have hp := hl.2.1
  have nn : ∀ t : Int, 0 ≤ t → t < 10 → 0 ≤ l t := fun t a b => (hl.2.2.1 t a b).1
  have s4 := hl.2.2.2
  have mk2 := gl_mono nn (t := k + 1) (k := 10) (by omega) (by omega) (by omega)
  have ms := gl_succ l hk.1
  have m0 := gl_mono nn (t := 0) (k := k) (by omega) (by omega) (by omega)
  have z0 : m_S l 0 (0 : Int).toNat = 0 := rfl
  have z10 : m_S l 0 (10 : Int).toNat = m_S l 0 10 := rfl
  have e3 : (3 : Int32).toInt = 3 := rfl
  have e10 : (10 : Int32).toInt = 10 := rfl
  have e34 : (34 : Int32).toInt = 34 := rfl
  induction n with
  | zero => intro x y τ c hm; exact absurd hm (Nat.not_lt_zero _)
  | succ n ih =>
    intro x y τ c hm t hc G D y0 y1 hx
    have fo : (τ.1 r2 x9.toNatClampNeg).toInt = l k := by
      rw [t.1 r2 _ hne, ar_cl, hx9]
      exact hof k hk.1 hk.2
    rw [F_X12_laysDown_L48_3_s]
    unfold F_X12_laysDown_B48_3
    rw [q_letE (τ.1 r2 x9.toNatClampNeg), fo]
    by_cases q : y.toInt < l k
    · have ei : (rr + 3 + x).toInt = 94 + 7 * c0 9 + 3 + (m_S l 0 k.toNat + y.toInt) := by
        rw [ar_add, ar_add, hrr, e3, hx, ar_wr (n := 94 + 7 * c0 9 + 3) (by omega) (by omega), ar_wr (by omega) (by omega)]
      have c1 : m_c X (q_si τ (q_rf X a 20) (rr + 3 + x).toNatClampNeg x9) a = m_up c (94 + 7 * c0 9 + 3 + (m_S l 0 k.toNat + y.toInt)) k := by
        rw [m_c_up _ (by omega) ei, hc, hx9]
      rw [if_pos q, q_letE (rr + 3), q_letE (rr + 3 + x), q_letE (q_si τ (q_rf X a 20) (rr + 3 + x).toNatClampNeg x9), q_letE (x + 1), q_letE (y + 1)]
      have ey : (y + 1).toInt = y.toInt + 1 := y_inc (by omega)
      have ex : (x + 1).toInt = x.toInt + 1 := y_inc (by omega)
      refine ih (x + 1) (y + 1) _ _ (by omega) (t.si _ rfl) c1 ?_ ?_ (by omega) (by omega) (by rw [ex, ey, hx]; omega)
      · rw [ey]
        exact G.card hl hk ⟨y0, q⟩ rfl
      · rw [ey]
        exact D.card hl hk ⟨y0, q⟩ m_up_e rfl rfl
    · have ey : y.toInt = l k := by omega
      rw [ey] at G D
      have ei : ((34 : Int32) + 10 * v1 + x9).toInt = 34 + 10 * p + k := by
        rw [ar_add, ar_add, ar_mul, hx9, hv1, e10, e34, ar_wr (n := 10 * p) (by omega) (by omega), ar_wr (n := 34 + 10 * p) (by omega) (by omega), ar_wr (by omega) (by omega)]
      have fh : (τ.1 (q_rf X a 20) ((34 : Int32) + 10 * v1 + x9).toNatClampNeg).toInt = c (34 + 10 * p + k) := gm_cell hc ei
      have hb := hl.1.h80 (p := p) (k := k) hp.1 hp.2 hk.1 hk.2
      have hc0 := G.1 (34 + 10 * p + k) (by omega) (by omega) (by omega)
      have lk := hl.2.2.1 k hk.1 hk.2
      rw [if_neg q]
      unfold F_X12_laysDown_E79_4
      rw [q_letE ((10 : Int32) * v1), q_letE ((34 : Int32) + 10 * v1), q_letE ((34 : Int32) + 10 * v1 + x9), q_letE (τ.1 (q_rf X a 20) ((34 : Int32) + 10 * v1 + x9).toNatClampNeg), q_letE (τ.1 r2 x9.toNatClampNeg)]
      obtain ⟨u, hu⟩ : ∃ u, u = τ.1 (q_rf X a 20) ((34 : Int32) + 10 * v1 + x9).toNatClampNeg - τ.1 r2 x9.toNatClampNeg := ⟨_, rfl⟩
      have uv : u.toInt = c (34 + 10 * p + k) - l k := by
        rw [hu, ar_sub, fh, fo, ar_wr (by omega) (by omega)]
      rw [← hu, q_letE u, q_letE (q_si τ (q_rf X a 20) ((34 : Int32) + 10 * v1 + x9).toNatClampNeg u), q_letE (x9 + 1)]
      refine ⟨x, _, _, rfl, by omega, t.si _ rfl, m_c_up _ (by omega) ei, ?_, ?_⟩
      · rw [hc, uv]
        exact G.hand hl hk rfl
      · rw [hc, uv]
        exact D.hand hl hk rfl m_up_e rfl
theorem gl_out (hne : r2 ≠ q_rf X a 20) {p : Int} (hl : m_lo c0 l p) (h06 : c0 6 = p) {v1 rr : Int32} (hv1 : v1.toInt = p) (hrr : rr.toInt = 94 + 7 * c0 9) (hof : ∀ j : Int, 0 ≤ j → j < 10 → (τ0.1 r2 j.toNat).toInt = l j) (n : Nat) : ∀ (x y : Int32) (τ : ST) (c : Int → Int), (2147483647 - y.toInt).toNat < n → tkl (fun b _ => b = q_rf X a 20) (fun _ _ => False) τ0 τ → m_c X τ a = c → gl_c c0 c l p y.toInt 0 → m_ld c0 c l p y.toInt 0 → 0 ≤ y.toInt → y.toInt ≤ 10 → x.toInt = m_S l 0 y.toInt.toNat →
    ∃ (c' : Int → Int), m_c X (F_X12_laysDown_L38_1 X r2 rr a v1 n x y τ) a = c' ∧ tkl (fun b _ => b = q_rf X a 20) (fun _ _ => False) τ0 (F_X12_laysDown_L38_1 X r2 rr a v1 n x y τ) ∧ gl_r c0 c' l p ∧ m_G c' := by
  have b9 := hl.c9
  have hp := hl.2.1
  have nn : ∀ t : Int, 0 ≤ t → t < 10 → 0 ≤ l t := fun t a b => (hl.2.2.1 t a b).1
  have s4 := hl.2.2.2
  have e2 : (2 : Int32).toInt = 2 := rfl
  have e1 : (1 : Int32).toInt = 1 := rfl
  induction n with
  | zero => intro x y τ c hm; exact absurd hm (Nat.not_lt_zero _)
  | succ n ih =>
    intro x y τ c hm t hc G D y0 y1 hx
    rw [F_X12_laysDown_L38_1_s]
    unfold F_X12_laysDown_B38_1
    by_cases q : y.toInt < 10
    · rw [if_pos q]
      have lk := hl.2.2.1 y.toInt y0 q
      have z0 : (0 : Int32).toInt = 0 := rfl
      obtain ⟨x', τ', c', i1, i2, i3, i4, i5, i6⟩ := gl_in hne hl ⟨y0, q⟩ (x9 := y) rfl hv1 hrr (F_X12_laysDown_L38_1 X r2 rr a v1 n) hof ((2147483647 - (0 : Int32).toInt).toNat + 1) x 0 τ c (by decide) t hc (by rw [z0]; exact G) (by rw [z0]; exact D) (by decide) (by rw [z0]; exact lk.1) (by rw [z0, hx]; omega)
      rw [i1]
      have ey : (y + 1).toInt = y.toInt + 1 := y_inc (by omega)
      refine ih x' (y + 1) τ' c' (by omega) i3 i4 (by rw [ey]; exact i5) (by rw [ey]; exact i6) (by omega) (by omega) (by rw [ey]; exact i2)
    · rw [if_neg q]
      have ey : y.toInt = 10 := by omega
      rw [ey] at G D hx
      have hx10 : x.toInt = m_S l 0 10 := hx
      obtain ⟨h1, h2, h3, h4, h5, h6⟩ := G
      unfold F_X12_laysDown_E107_2
      have ei : (rr + 2).toInt = 94 + 7 * c0 9 + 2 := by rw [ar_add, hrr, e2, ar_wr (by omega) (by omega)]
      rw [q_letE (rr + 2), q_letE (q_si τ (q_rf X a 20) (rr + 2).toNatClampNeg x)]
      have c1 : m_c X (q_si τ (q_rf X a 20) (rr + 2).toNatClampNeg x) a = m_up c (94 + 7 * c0 9 + 2) (m_S l 0 10) := by
        rw [m_c_up _ (by omega) ei, hc, hx10]
      have t1 : tkl (fun b _ => b = q_rf X a 20) (fun _ _ => False) τ0 (q_si τ (q_rf X a 20) (rr + 2).toNatClampNeg x) := t.si _ rfl
      obtain ⟨τ1, g1⟩ : ∃ s, s = q_si τ (q_rf X a 20) (rr + 2).toNatClampNeg x := ⟨_, rfl⟩
      rw [← g1] at c1 t1 ⊢
      have f9 : (τ1.1 (q_rf X a 20) (9 : Int32).toNatClampNeg).toInt = c0 9 := by
        refine (gm_cell (A := 9) c1 rfl).trans ?_
        rw [m_up_ne (by omega)]
        exact h1 9 (by decide) (by omega) (by omega)
      rw [q_letE (τ1.1 (q_rf X a 20) (9 : Int32).toNatClampNeg)]
      obtain ⟨u, hu⟩ : ∃ u, u = τ1.1 (q_rf X a 20) (9 : Int32).toNatClampNeg + 1 := ⟨_, rfl⟩
      have uv : u.toInt = c0 9 + 1 := by rw [hu, ar_add, f9, e1, ar_wr (by omega) (by omega)]
      rw [← hu, q_letE u, q_letE (q_si τ1 (q_rf X a 20) (9 : Int32).toNatClampNeg u)]
      have c2 : m_c X (q_si τ1 (q_rf X a 20) (9 : Int32).toNatClampNeg u) a = m_up (m_up c (94 + 7 * c0 9 + 2) (m_S l 0 10)) 9 (c0 9 + 1) := by
        rw [m_c_up 9 (by decide) rfl, c1, uv]
      have t2 : tkl (fun b _ => b = q_rf X a 20) (fun _ _ => False) τ0 (q_si τ1 (q_rf X a 20) (9 : Int32).toNatClampNeg u) := t1.si _ rfl
      obtain ⟨τ2, g2⟩ : ∃ s, s = q_si τ1 (q_rf X a 20) (9 : Int32).toNatClampNeg u := ⟨_, rfl⟩
      rw [← g2] at c2 t2 ⊢
      rw [q_letE (q_si τ2 (q_rf X a 20) (7 : Int32).toNatClampNeg 1)]
      have dn := D.done hl h06 (T := m_S l 0 10) rfl (c1 := m_up c (94 + 7 * c0 9 + 2) (m_S l 0 10)) m_up_e (c2 := m_up (m_up c (94 + 7 * c0 9 + 2) (m_S l 0 10)) 9 (c0 9 + 1)) m_up_e rfl (c' := m_up (m_up (m_up c (94 + 7 * c0 9 + 2) (m_S l 0 10)) 9 (c0 9 + 1)) 7 1) m_up_e rfl
      refine ⟨_, m_c_up 7 (by decide) rfl, t2.si _ rfl, ?_, by rw [c2, e1]; exact dn.1⟩
      rw [c2, e1]
      have d : ∀ j : Int, j ≠ 7 → j ≠ 9 → j ≠ 94 + 7 * c0 9 + 2 → m_up (m_up (m_up c (94 + 7 * c0 9 + 2) (m_S l 0 10)) 9 (c0 9 + 1)) 7 1 j = c j := fun j a1 a2 a3 => by
        rw [m_up_ne a1, m_up_ne a2, m_up_ne a3]
      refine ⟨fun j j0 j1 j2 j3 j4 => ?_, fun t t0 t1 => ?_, ?_, ?_, ?_, ?_, ?_, fun t q t0 t1 q0 q1 => ?_⟩
      · rw [d j j4 j3 (by omega)]; exact h1 j j0 (by omega) j2
      · rw [d _ (by omega) (by omega) (by omega)]; exact h2 t t0 t1
      · rw [d _ (by omega) (by omega) (by omega)]; exact h3
      · rw [d _ (by omega) (by omega) (by omega)]; exact h4
      · rw [m_up_ne (by omega), m_up_ne (by omega), m_up_eq]
      · rw [m_up_ne (by omega), m_up_eq]
      · rw [m_up_eq]
      · have mt := gl_mono nn (t := 0) (k := t) (by omega) t0 (by omega)
        have z0 : m_S l 0 (0 : Int).toNat = 0 := rfl
        rw [d _ (by omega) (by omega) (by omega)]
        exact h5 t q t0 t1 q0 q1
/-- the reference lays cards down -/
theorem gm_laysDown (hT : q_T X) (ha : q_kd X a = 12) (hc : m_c X τ a = c) {p : Int} (hl : m_lo c l p) (h6 : c 6 = p) {v1 : Int32} (hv1 : v1.toInt = p) (hof : ∀ j : Int, 0 ≤ j → j < 10 → (τ.1 (q_rf X a 28) j.toNat).toInt = l j) :
    ∃ (c' : Int → Int), m_c X (F_X12_laysDown X τ a v1 (q_rf X a 28)) a = c' ∧ tkl (fun b _ => b = q_rf X a 20) (fun _ _ => False) τ (F_X12_laysDown X τ a v1 (q_rf X a 28)) ∧ gl_r c c' l p ∧ m_G c' := by
  have b9 := hl.c9
  have hp := hl.2.1
  have k28 : q_kd X (q_rf X a 28) = 39 := (hT.1 a 28 (by rw [ha]; decide)).trans (by rw [ha]; rfl)
  have hne : q_rf X a 28 ≠ q_rf X a 20 := m_ne k28 (tb_k hT ha).1 (by decide)
  have e7 : (7 : Int32).toInt = 7 := rfl
  have e94 : (94 : Int32).toInt = 94 := rfl
  have e1 : (1 : Int32).toInt = 1 := rfl
  have f9 : (τ.1 (q_rf X a 20) (9 : Int32).toNatClampNeg).toInt = c 9 := gm_cell hc rfl
  have hrr : (F_X12_laid X τ (τ.1 (q_rf X a 20) (9 : Int32).toNatClampNeg)).toInt = 94 + 7 * c 9 := by
    unfold F_X12_laid
    rw [q_letE, q_letE, ar_add, ar_mul, e94, e7, f9, ar_wr (n := 7 * c 9) (by omega) (by omega), ar_wr (by omega) (by omega)]
  unfold F_X12_laysDown
  rw [q_letE (τ.1 (q_rf X a 20) (9 : Int32).toNatClampNeg), q_letE (F_X12_laid X τ (τ.1 (q_rf X a 20) (9 : Int32).toNatClampNeg))]
  obtain ⟨rr, er⟩ : ∃ r, r = F_X12_laid X τ (τ.1 (q_rf X a 20) (9 : Int32).toNatClampNeg) := ⟨_, rfl⟩
  rw [← er] at hrr ⊢
  rw [q_letE (q_si τ (q_rf X a 20) rr.toNatClampNeg v1)]
  have c1 : m_c X (q_si τ (q_rf X a 20) rr.toNatClampNeg v1) a = m_up c (94 + 7 * c 9) p := by
    rw [m_c_up _ (by omega) hrr, hc, hv1]
  have t1 : tkl (fun b _ => b = q_rf X a 20) (fun _ _ => False) τ (q_si τ (q_rf X a 20) rr.toNatClampNeg v1) := tkl.rf.si _ rfl
  obtain ⟨τ1, g1⟩ : ∃ s, s = q_si τ (q_rf X a 20) rr.toNatClampNeg v1 := ⟨_, rfl⟩
  rw [← g1] at c1 t1 ⊢
  have f5 : (τ1.1 (q_rf X a 20) (5 : Int32).toNatClampNeg).toInt = c 5 := by
    refine (gm_cell (A := 5) c1 rfl).trans ?_
    rw [m_up_ne (by omega)]
  have ei : (rr + 1).toInt = 94 + 7 * c 9 + 1 := by rw [ar_add, hrr, e1, ar_wr (by omega) (by omega)]
  rw [q_letE (rr + 1), q_letE (τ1.1 (q_rf X a 20) (5 : Int32).toNatClampNeg)]
  obtain ⟨u, hu⟩ : ∃ u, u = τ1.1 (q_rf X a 20) (5 : Int32).toNatClampNeg := ⟨_, rfl⟩
  rw [← hu] at f5 ⊢
  rw [q_letE (q_si τ1 (q_rf X a 20) (rr + 1).toNatClampNeg u)]
  have c2 : m_c X (q_si τ1 (q_rf X a 20) (rr + 1).toNatClampNeg u) a = m_up (m_up c (94 + 7 * c 9) p) (94 + 7 * c 9 + 1) (c 5) := by
    rw [m_c_up _ (by omega) ei, c1, f5]
  have t2 : tkl (fun b _ => b = q_rf X a 20) (fun _ _ => False) τ (q_si τ1 (q_rf X a 20) (rr + 1).toNatClampNeg u) := t1.si _ rfl
  obtain ⟨τ2, g2⟩ : ∃ s, s = q_si τ1 (q_rf X a 20) (rr + 1).toNatClampNeg u := ⟨_, rfl⟩
  rw [← g2] at c2 t2 ⊢
  have z0 : (0 : Int32).toInt = 0 := rfl
  refine gl_out hne hl h6 hv1 hrr hof _ 0 0 τ2 _ (by decide) t2 c2 ?_ (by rw [z0]; exact m_ld.start hl (c1 := m_up c (94 + 7 * c 9) p) m_up_e rfl m_up_e) (by decide) (by decide) (by rw [z0]; rfl)
  rw [z0]
  have m0 : m_S l 0 (0 : Int).toNat = 0 := rfl
  refine ⟨fun j j0 j1 j2 => ?_, fun t t0 t1 => by omega, ?_, ?_, fun t q t0 t1 => by omega, fun q q0 q1 => by omega⟩
  · rw [m_up_ne (by omega), m_up_ne (by omega)]
  · rw [m_up_ne (by omega), m_up_eq]
  · rw [m_up_eq]
end GD

/-! FROM 49e.laywant.lean.txt -/
/-! CARDS LAID DOWN: the class -/
/-- cards of one kind added to the topmost laying -/
def gpa (V1 V : Nat → Int → Int) (K k m C i : Int) : Prop :=
  (∀ (id : Nat) (j : Int), ¬ (id = 17 ∧ 4 * K + m ≤ j ∧ j < 4 * K + m + i) → ¬ (id = 16 ∧ j = K) → ¬ (id = 2 ∧ j = 1) → V id j = V1 id j) ∧ V 16 K = m + i ∧ V 2 1 = C + i ∧ ∀ q : Int, m ≤ q → q < m + i → V 17 (4 * K + q) = k
/-- how far the class is, laying l of p's cards: the kinds below k -/
def gl_v (V0 V : Nat → Int → Int) (l : Int → Int) (p K k : Int) : Prop :=
  (∀ (id : Nat) (j : Int), id ≠ 2 → id ≠ 7 → id ≠ 8 → id ≠ 9 → id ≠ 14 → id ≠ 15 → id ≠ 16 → id ≠ 17 → V id j = V0 id j) ∧
  (V 2 0 = K + 1 ∧ V 2 1 = V0 2 1 + m_S l 0 k.toNat) ∧
  (∀ j : Int, ¬ (10 * p ≤ j ∧ j < 10 * p + k) → V 7 j = V0 7 j ∧ V 8 j = V0 8 j) ∧
  (∀ t : Int, 0 ≤ t → t < k → V 7 (10 * p + t) = V0 7 (10 * p + t) - l t ∧ V 8 (10 * p + t) = V0 8 (10 * p + t) + l t) ∧
  (∀ j : Int, j ≠ p → V 9 j = V0 9 j) ∧ V 9 p = V0 9 p - m_S l 0 k.toNat ∧
  (∀ j : Int, j ≠ K → V 14 j = V0 14 j ∧ V 15 j = V0 15 j ∧ V 16 j = V0 16 j) ∧ (V 14 K = p ∧ V 15 K = V0 0 4 ∧ V 16 K = m_S l 0 k.toNat) ∧
  (∀ j : Int, ¬ (4 * K ≤ j ∧ j < 4 * K + 4) → V 17 j = V0 17 j) ∧
  ∀ t q : Int, 0 ≤ t → t < k → m_S l 0 t.toNat ≤ q → q < m_S l 0 t.toNat + l t → V 17 (4 * K + q) = t
section GE
variable {X : XW} {lb : Nat → Nat} {g o a : Nat} {σ τ σ0 τ0 : ST} {V V0 V1 : Nat → Int → Int} {c l : Int → Int}
theorem gp_addL (Y : y_S X lb) (G : y_G X lb g o) {K k m C n : Int} (hK : 0 ≤ K ∧ K < 80) (hm : 0 ≤ m ∧ m + n ≤ 4) (hC : 0 ≤ C ∧ C ≤ 1000) {z2 v1 v2 : Int32} (hz : z2.toInt = K) (hv1 : v1.toInt = k) (hv2 : v2.toInt = n) (fu : Nat) : ∀ (x : Int32) (τ : ST) (V : Nat → Int → Int), (2147483647 - x.toInt).toNat < fu → y_W X lb g o σ0 τ V → gpa V1 V K k m C x.toInt → 0 ≤ x.toInt → x.toInt ≤ n →
    ∃ V' : Nat → Int → Int, y_W X lb g o σ0 (F_X2_add_L10_1 X v2 z2 (q_rf X g 2) v1 fu x τ) V' ∧ gpa V1 V' K k m C n := by
  have gn16 : ((y_gn 16 : Nat) : Int) = 80 := rfl
  have gn17 : ((y_gn 17 : Nat) : Int) = 320 := rfl
  have one : (1 : Int32).toInt = 1 := rfl
  have four : (4 : Int32).toInt = 4 := rfl
  induction fu with
  | zero => intro x τ V h; exact absurd h (Nat.not_lt_zero _)
  | succ fu ih =>
    intro x τ V hf w P x0 x1
    rw [F_X2_add_L10_1_s]
    unfold F_X2_add_B10_1
    rw [hv2]
    by_cases q : x.toInt < n
    · obtain ⟨P1, P2, P3, P4⟩ := P
      have g8 : (F_X5_get X τ (q_rf X (q_rf X g 2) 4) z2).toInt = m + x.toInt := (y_getI Y G w (id := 16) ⟨by decide, by decide⟩ rfl hz hK.1 (by rw [gn16]; exact hK.2)).trans P2
      rw [if_pos q, q_letE (z2 * 4), q_letE (F_X5_get X τ (q_rf X (q_rf X g 2) 4) z2)]
      obtain ⟨r, hr⟩ : ∃ r, r = F_X5_get X τ (q_rf X (q_rf X g 2) 4) z2 := ⟨_, rfl⟩
      rw [← hr] at g8 ⊢
      have ei : (z2 * 4 + r).toInt = 4 * K + (m + x.toInt) := by
        rw [ar_add, ar_mul, hz, four, g8, ar_wr (n := K * 4) (by omega) (by omega), ar_wr (by omega) (by omega)]
        omega
      have w1 := w.set Y G (id := 17) (r := q_rf X (q_rf X g 2) 5) ⟨by decide, by decide⟩ rfl (z2 * 4 + r) v1 (by omega) (by rw [gn17]; omega)
      rw [ei, hv1] at w1
      rw [q_letE (z2 * 4 + r), q_letE (F_X5_set X τ (q_rf X (q_rf X g 2) 5) (z2 * 4 + r) v1)]
      obtain ⟨τ1, e1⟩ : ∃ s, s = F_X5_set X τ (q_rf X (q_rf X g 2) 5) (z2 * 4 + r) v1 := ⟨_, rfl⟩
      rw [← e1] at w1 ⊢
      have w2 := w1.add Y G (id := 16) (r := q_rf X (q_rf X g 2) 4) ⟨by decide, by decide⟩ rfl z2 1 (by omega) (by rw [gn16]; omega)
      rw [hz, y_up_ne (Or.inl (by decide)), P2, one, ar_wr (by omega) (by omega)] at w2
      rw [q_letE (F_X5_add X τ1 (q_rf X (q_rf X g 2) 4) z2 1)]
      obtain ⟨τ2, e2⟩ : ∃ s, s = F_X5_add X τ1 (q_rf X (q_rf X g 2) 4) z2 1 := ⟨_, rfl⟩
      rw [← e2] at w2 ⊢
      have f1 : (τ2.1 (q_rf X g 2) 1).toInt = C + x.toInt := by
        refine (w2.rd (id := 2) (by decide) 1 rfl).trans ?_
        rw [y_up_ne (Or.inl (by decide)), y_up_ne (Or.inl (by decide))]
        exact P3
      rw [q_letE (τ2.1 (q_rf X g 2) 1)]
      obtain ⟨u, hu⟩ : ∃ u, u = τ2.1 (q_rf X g 2) 1 + 1 := ⟨_, rfl⟩
      have uv : u.toInt = C + x.toInt + 1 := by rw [hu, ar_add, f1, one, ar_wr (by omega) (by omega)]
      rw [← hu, q_letE u, q_letE (q_si τ2 (q_rf X g 2) 1 u), q_letE (x + 1)]
      have w3 : y_W X lb g o σ0 (q_si τ2 (q_rf X g 2) 1 u) (y_up (y_up (y_up V 17 (4 * K + (m + x.toInt)) k) 16 K (m + x.toInt + 1)) 2 1 u.toInt) := w2.si Y G (id := 2) (by decide) 1 u
      rw [uv] at w3
      have ex : (x + 1).toInt = x.toInt + 1 := y_inc (by omega)
      refine ih (x + 1) _ _ (by omega) w3 ?_ (by omega) (by omega)
      rw [ex]
      refine ⟨fun id j a1 a2 a3 => ?_, ?_, ?_, fun q q0 q1 => ?_⟩
      · rw [y_up_ne (by omega), y_up_ne (by omega), y_up_ne (by omega)]
        exact P1 id j (by omega) a2 a3
      · rw [y_up_ne (Or.inl (by decide)), y_up_eq]; omega
      · rw [y_up_eq]; omega
      · rw [y_up_ne (Or.inl (by decide)), y_up_ne (Or.inl (by decide))]
        by_cases e : q = m + x.toInt
        · rw [e, y_up_eq]
        · rw [y_up_ne (by omega)]; exact P4 q q0 (by omega)
    · have ex : x.toInt = n := by omega
      rw [if_neg q]
      rw [ex] at P
      exact ⟨V, w, P⟩
/-- cards from the hand to the heap -/
theorem gm_move (Y : y_S X lb) (G : y_G X lb g o) (w : y_W X lb g o σ0 τ V) {v1 v2 v3 : Int32} {p k n : Int} (hv1 : v1.toInt = p) (hv2 : v2.toInt = k) (hv3 : v3.toInt = n) (hp : 0 ≤ p ∧ p < 6) (hk : 0 ≤ k ∧ k < 10) (hn : 0 ≤ n ∧ n ≤ 1000) (b7 : -1000 ≤ V 7 (10 * p + k) ∧ V 7 (10 * p + k) ≤ 1000) (b8 : -1000 ≤ V 8 (10 * p + k) ∧ V 8 (10 * p + k) ≤ 1000) (b9 : -1000 ≤ V 9 p ∧ V 9 p ≤ 1000) :
    y_W X lb g o σ0 (F_X1_moveToHeap X τ (q_rf X g 1) v1 v2 v3) (y_up (y_up (y_up V 7 (10 * p + k) (V 7 (10 * p + k) - n)) 9 p (V 9 p - n)) 8 (10 * p + k) (V 8 (10 * p + k) + n)) := by
  have gn7 : ((y_gn 7 : Nat) : Int) = 60 := rfl
  have gn8 : ((y_gn 8 : Nat) : Int) = 60 := rfl
  have gn9 : ((y_gn 9 : Nat) : Int) = 6 := rfl
  have e10 : (10 : Int32).toInt = 10 := rfl
  have ei : (v1 * 10 + v2).toInt = 10 * p + k := by
    rw [ar_add, ar_mul, hv1, hv2, e10, ar_wr (n := p * 10) (by omega) (by omega), ar_wr (by omega) (by omega)]
    omega
  unfold F_X1_moveToHeap
  rw [q_letE (-v3)]
  obtain ⟨u, hu⟩ : ∃ u, u = -v3 := ⟨_, rfl⟩
  have uv : u.toInt = -n := by rw [hu, ar_neg, hv3, ar_wr (by omega) (by omega)]
  rw [← hu]
  have w1 := w.add Y G (id := 7) (r := q_rf X (q_rf X g 1) 0) ⟨by decide, by decide⟩ rfl (v1 * 10 + v2) u (by omega) (by rw [gn7]; omega)
  rw [ei, uv, ar_wr (by omega) (by omega)] at w1
  have d1 : F_X1_deal X τ (q_rf X g 1) v1 v2 u = F_X5_add X (F_X5_add X τ (q_rf X (q_rf X g 1) 0) (v1 * 10 + v2) u) (q_rf X (q_rf X g 1) 2) v1 u := by
    unfold F_X1_deal
    rw [q_letE, q_letE, q_letE, q_letE]
  rw [d1]
  obtain ⟨τ1, e1⟩ : ∃ s, s = F_X5_add X τ (q_rf X (q_rf X g 1) 0) (v1 * 10 + v2) u := ⟨_, rfl⟩
  rw [← e1] at w1 ⊢
  have w2 := w1.add Y G (id := 9) (r := q_rf X (q_rf X g 1) 2) ⟨by decide, by decide⟩ rfl v1 u (by omega) (by rw [gn9]; omega)
  rw [hv1, uv, y_up_ne (Or.inl (by decide)), ar_wr (by omega) (by omega)] at w2
  rw [q_letE (F_X5_add X τ1 (q_rf X (q_rf X g 1) 2) v1 u), q_letE (v1 * 10), q_letE (v1 * 10 + v2)]
  obtain ⟨τ2, e2⟩ : ∃ s, s = F_X5_add X τ1 (q_rf X (q_rf X g 1) 2) v1 u := ⟨_, rfl⟩
  rw [← e2] at w2 ⊢
  have w3 := w2.add Y G (id := 8) (r := q_rf X (q_rf X g 1) 1) ⟨by decide, by decide⟩ rfl (v1 * 10 + v2) v3 (by omega) (by rw [gn8]; omega)
  rw [ei, hv3, y_up_ne (Or.inl (by decide)), y_up_ne (Or.inl (by decide)), ar_wr (by omega) (by omega)] at w3
  rw [q_letE (F_X5_add X τ2 (q_rf X (q_rf X g 1) 1) (v1 * 10 + v2) v3)]
  exact w3
/-- a laying begun -/
theorem gm_begin (Y : y_S X lb) (G : y_G X lb g o) (w : y_W X lb g o σ0 τ V) {v1 v2 : Int32} {p k K : Int} (hv1 : v1.toInt = p) (hv2 : v2.toInt = k) (hK : V 2 0 = K) (bK : 0 ≤ K ∧ K < 80) :
    y_W X lb g o σ0 (F_X2_begin X τ (q_rf X g 2) v1 v2) (y_up (y_up (y_up (y_up V 14 K p) 15 K k) 16 K 0) 2 0 (K + 1)) := by
  have gn14 : ((y_gn 14 : Nat) : Int) = 80 := rfl
  have gn15 : ((y_gn 15 : Nat) : Int) = 80 := rfl
  have gn16 : ((y_gn 16 : Nat) : Int) = 80 := rfl
  have one : (1 : Int32).toInt = 1 := rfl
  have z0 : (0 : Int32).toInt = 0 := rfl
  unfold F_X2_begin
  have f1 : (τ.1 (q_rf X g 2) 0).toInt = K := (w.rd (id := 2) (by decide) 0 rfl).trans hK
  rw [q_letE (τ.1 (q_rf X g 2) 0)]
  obtain ⟨u, hu⟩ : ∃ u, u = τ.1 (q_rf X g 2) 0 := ⟨_, rfl⟩
  rw [← hu] at f1 ⊢
  have w1 := w.set Y G (id := 14) (r := q_rf X (q_rf X g 2) 2) ⟨by decide, by decide⟩ rfl u v1 (by omega) (by rw [gn14]; omega)
  rw [f1, hv1] at w1
  rw [q_letE (F_X5_set X τ (q_rf X (q_rf X g 2) 2) u v1)]
  obtain ⟨τ1, e1⟩ : ∃ s, s = F_X5_set X τ (q_rf X (q_rf X g 2) 2) u v1 := ⟨_, rfl⟩
  rw [← e1] at w1 ⊢
  have f2 : (τ1.1 (q_rf X g 2) 0).toInt = K := (w1.rd (id := 2) (by decide) 0 rfl).trans ((y_up_ne (Or.inl (by decide))).trans hK)
  rw [q_letE (τ1.1 (q_rf X g 2) 0)]
  obtain ⟨u2, hu2⟩ : ∃ u, u = τ1.1 (q_rf X g 2) 0 := ⟨_, rfl⟩
  rw [← hu2] at f2 ⊢
  have w2 := w1.set Y G (id := 15) (r := q_rf X (q_rf X g 2) 3) ⟨by decide, by decide⟩ rfl u2 v2 (by omega) (by rw [gn15]; omega)
  rw [f2, hv2] at w2
  rw [q_letE (F_X5_set X τ1 (q_rf X (q_rf X g 2) 3) u2 v2)]
  obtain ⟨τ2, e2⟩ : ∃ s, s = F_X5_set X τ1 (q_rf X (q_rf X g 2) 3) u2 v2 := ⟨_, rfl⟩
  rw [← e2] at w2 ⊢
  have f3 : (τ2.1 (q_rf X g 2) 0).toInt = K := (w2.rd (id := 2) (by decide) 0 rfl).trans ((y_up_ne (Or.inl (by decide))).trans ((y_up_ne (Or.inl (by decide))).trans hK))
  rw [q_letE (τ2.1 (q_rf X g 2) 0)]
  obtain ⟨u3, hu3⟩ : ∃ u, u = τ2.1 (q_rf X g 2) 0 := ⟨_, rfl⟩
  rw [← hu3] at f3 ⊢
  have w3 := w2.set Y G (id := 16) (r := q_rf X (q_rf X g 2) 4) ⟨by decide, by decide⟩ rfl u3 0 (by omega) (by rw [gn16]; omega)
  rw [f3, z0] at w3
  rw [q_letE (F_X5_set X τ2 (q_rf X (q_rf X g 2) 4) u3 0)]
  obtain ⟨τ3, e3⟩ : ∃ s, s = F_X5_set X τ2 (q_rf X (q_rf X g 2) 4) u3 0 := ⟨_, rfl⟩
  rw [← e3] at w3 ⊢
  have f4 : (τ3.1 (q_rf X g 2) 0).toInt = K := (w3.rd (id := 2) (by decide) 0 rfl).trans ((y_up_ne (Or.inl (by decide))).trans ((y_up_ne (Or.inl (by decide))).trans ((y_up_ne (Or.inl (by decide))).trans hK)))
  rw [q_letE (τ3.1 (q_rf X g 2) 0)]
  obtain ⟨u4, hu4⟩ : ∃ u, u = τ3.1 (q_rf X g 2) 0 + 1 := ⟨_, rfl⟩
  have uv : u4.toInt = K + 1 := by rw [hu4, ar_add, f4, one, ar_wr (by omega) (by omega)]
  rw [← hu4, q_letE u4, q_letE (q_si τ3 (q_rf X g 2) 0 u4)]
  have w4 : y_W X lb g o σ0 (q_si τ3 (q_rf X g 2) 0 u4) (y_up (y_up (y_up (y_up V 14 K p) 15 K k) 16 K 0) 2 0 u4.toInt) := w3.si Y G (id := 2) (by decide) 0 u4
  rw [uv] at w4
  exact w4
/-- what the class wants of the game that lays -/
def gl_p (V0 : Nat → Int → Int) (l : Int → Int) (p K N : Int) : Prop :=
  V0 0 5 = p ∧ V0 1 0 = N ∧ (0 ≤ p ∧ p < 6) ∧ (0 ≤ K ∧ K < 80) ∧ (0 ≤ N ∧ N ≤ 10) ∧ (∀ t : Int, 0 ≤ t → t < 10 → V0 23 t = l t ∧ 0 ≤ l t) ∧ m_S l 0 10 ≤ 4 ∧ (0 ≤ V0 2 1 ∧ V0 2 1 ≤ 90) ∧ (∀ t : Int, 0 ≤ t → t < 10 → (0 ≤ V0 7 (10 * p + t) ∧ V0 7 (10 * p + t) ≤ 90) ∧ (0 ≤ V0 8 (10 * p + t) ∧ V0 8 (10 * p + t) ≤ 90)) ∧ (0 ≤ V0 9 p ∧ V0 9 p ≤ 90)
theorem gl_vL (Y : y_S X lb) (G : y_G X lb g o) {p K N : Int} (H : gl_p V0 l p K N) (fu : Nat) : ∀ (x : Int32) (τ : ST) (V : Nat → Int → Int), (2147483647 - x.toInt).toNat < fu → y_W X lb g o σ0 τ V → gl_v V0 V l p K x.toInt → 0 ≤ x.toInt → x.toInt ≤ N →
    ∃ V' : Nat → Int → Int, y_W X lb g o σ0 (F_X0_layWanted_L17_1 X g fu x τ) (y_up V' 0 7 1) ∧ gl_v V0 V' l p K N := by
  obtain ⟨H1, H2, Hp, HK, HN, Hw, H4, Hc, Hr, H9⟩ := H
  have gn23 : ((y_gn 23 : Nat) : Int) = 10 := rfl
  have one : (1 : Int32).toInt = 1 := rfl
  have nn : ∀ t : Int, 0 ≤ t → t < 10 → 0 ≤ l t := fun t a b => (Hw t a b).2
  have z10 : m_S l 0 (10 : Int).toNat = m_S l 0 10 := rfl
  have m00 : m_S l 0 (0 : Int).toNat = 0 := rfl
  induction fu with
  | zero => intro x τ V h; exact absurd h (Nat.not_lt_zero _)
  | succ fu ih =>
    intro x τ V hf w P x0 x1
    obtain ⟨P1, ⟨P2, P2b⟩, P3, P4, P5, P6, P7, ⟨P8, P8b, P8c⟩, P9, P10⟩ := P
    have v1 : ∀ j, V 1 j = V0 1 j := fun j => P1 1 j (by decide) (by decide) (by decide) (by decide) (by decide) (by decide) (by decide) (by decide)
    have v0 : ∀ j, V 0 j = V0 0 j := fun j => P1 0 j (by decide) (by decide) (by decide) (by decide) (by decide) (by decide) (by decide) (by decide)
    have v23 : ∀ j, V 23 j = V0 23 j := fun j => P1 23 j (by decide) (by decide) (by decide) (by decide) (by decide) (by decide) (by decide) (by decide)
    have f8 : (τ.1 (q_rf X g 0) 0).toInt = N := (w.rd (id := 1) (by decide) 0 rfl).trans ((v1 _).trans H2)
    rw [F_X0_layWanted_L17_1_s]
    unfold F_X0_layWanted_B17_1
    rw [q_letE (τ.1 (q_rf X g 0) 0), f8]
    by_cases q : x.toInt < N
    · have f11 : (τ.1 g 5).toInt = p := (w.rd (id := 0) (by decide) 5 rfl).trans ((v0 _).trans H1)
      have wx := Hw x.toInt x0 (by omega)
      have f12 : (F_X5_get X τ (q_rf X g 8) x).toInt = l x.toInt := (y_getI Y G w (id := 23) ⟨by decide, by decide⟩ rfl (x := x) rfl x0 (by rw [gn23]; omega)).trans ((v23 _).trans wx.1)
      have mx := gl_mono nn (t := 0) (k := x.toInt) (by omega) x0 (by omega)
      have mx1 := gl_mono nn (t := x.toInt + 1) (k := 10) (by omega) (by omega) (by omega)
      have ms := gl_succ l x0
      have rx := Hr x.toInt x0 (by omega)
      have o7 := P3 (10 * p + x.toInt) (by omega)
      rw [if_pos q, q_letE (τ.1 g 5), q_letE (F_X5_get X τ (q_rf X g 8) x)]
      obtain ⟨n, hn⟩ : ∃ n, n = F_X5_get X τ (q_rf X g 8) x := ⟨_, rfl⟩
      rw [← hn] at f12 ⊢
      obtain ⟨pl, hpl⟩ : ∃ n, n = τ.1 g 5 := ⟨_, rfl⟩
      rw [← hpl] at f11 ⊢
      have w1 := gm_move Y G w (v1 := pl) (v2 := x) (v3 := n) f11 rfl f12 Hp ⟨x0, by omega⟩ ⟨wx.2, by omega⟩ (by rw [o7.1]; omega) (by rw [o7.2]; omega) (by rw [P6]; omega)
      rw [q_letE (F_X1_moveToHeap X τ (q_rf X g 1) pl x n)]
      obtain ⟨τ1, e1⟩ : ∃ s, s = F_X1_moveToHeap X τ (q_rf X g 1) pl x n := ⟨_, rfl⟩
      rw [← e1] at w1 ⊢
      obtain ⟨V1, hV1⟩ : ∃ v, v = y_up (y_up (y_up V 7 (10 * p + x.toInt) (V 7 (10 * p + x.toInt) - l x.toInt)) 9 p (V 9 p - l x.toInt)) 8 (10 * p + x.toInt) (V 8 (10 * p + x.toInt) + l x.toInt) := ⟨_, rfl⟩
      rw [← hV1] at w1
      have r1 : ∀ (id : Nat) (j : Int), id ≠ 7 → id ≠ 8 → id ≠ 9 → V1 id j = V id j := fun id j a7 a8 a9 => by
        rw [hV1, y_up_ne (Or.inl a8), y_up_ne (Or.inl a9), y_up_ne (Or.inl a7)]
      have f16 : (F_X5_get X τ1 (q_rf X g 8) x).toInt = l x.toInt := (y_getI Y G w1 (id := 23) ⟨by decide, by decide⟩ rfl (x := x) rfl x0 (by rw [gn23]; omega)).trans ((r1 23 _ (by decide) (by decide) (by decide)).trans ((v23 _).trans wx.1))
      rw [q_letE (F_X5_get X τ1 (q_rf X g 8) x)]
      obtain ⟨n2, hn2⟩ : ∃ n, n = F_X5_get X τ1 (q_rf X g 8) x := ⟨_, rfl⟩
      rw [← hn2] at f16 ⊢
      -- the pile
      have f0 : (τ1.1 (q_rf X g 2) 0).toInt = K + 1 := (w1.rd (id := 2) (by decide) 0 rfl).trans ((r1 2 _ (by decide) (by decide) (by decide)).trans P2)
      have z0 : (0 : Int32).toInt = 0 := rfl
      obtain ⟨V2, w2, A1, A2, A3, A4⟩ := gp_addL (V1 := V1) Y G (K := K) (k := x.toInt) (m := m_S l 0 x.toInt.toNat) (C := V0 2 1 + m_S l 0 x.toInt.toNat) (n := l x.toInt) HK ⟨by omega, by omega⟩ ⟨by omega, by omega⟩ (z2 := τ1.1 (q_rf X g 2) 0 - 1) (v1 := x) (v2 := n2) (by rw [ar_sub, f0, one, ar_wr (by omega) (by omega)]; omega) rfl f16 ((2147483647 - (0 : Int32).toInt).toNat + 1) 0 τ1 V1 (by decide) w1 (by
        rw [z0]
        refine ⟨fun _ _ _ _ _ => rfl, ?_, ?_, fun q q0 q1 => by omega⟩
        · rw [r1 16 _ (by decide) (by decide) (by decide), P8c]; omega
        · rw [r1 2 _ (by decide) (by decide) (by decide), P2b]; omega) (by decide) (by rw [z0]; exact wx.2)
      have d2 : F_X2_add X τ1 (q_rf X g 2) x n2 = F_X2_add_L10_1 X n2 (τ1.1 (q_rf X g 2) 0 - 1) (q_rf X g 2) x ((2147483647 - (0 : Int32).toInt).toNat + 1) 0 τ1 := by
        unfold F_X2_add
        rw [q_letE, q_letE]
      rw [← d2] at w2
      rw [q_letE (F_X2_add X τ1 (q_rf X g 2) x n2), q_letE (x + 1)]
      have ex : (x + 1).toInt = x.toInt + 1 := y_inc (by omega)
      refine ih (x + 1) _ V2 (by omega) w2 ?_ (by omega) (by omega)
      rw [ex]
      have r2 : ∀ (id : Nat) (j : Int), id ≠ 17 → id ≠ 16 → id ≠ 2 → V2 id j = V1 id j := fun id j a1 a2 a3 => A1 id j (fun z => a1 z.1) (fun z => a2 z.1) (fun z => a3 z.1)
      refine ⟨fun id j b2 b7 b8 b9 b14 b15 b16 b17 => ?_, ⟨?_, ?_⟩, fun j hj => ⟨?_, ?_⟩, fun t t0 t1 => ⟨?_, ?_⟩, fun j hj => ?_, ?_, fun j hj => ⟨?_, ?_, ?_⟩, ⟨?_, ?_, ?_⟩, fun j hj => ?_, fun t q t0 t1 q0 q1 => ?_⟩
      · rw [r2 id j b17 b16 b2, r1 id j b7 b8 b9]; exact P1 id j b2 b7 b8 b9 b14 b15 b16 b17
      · rw [A1 2 0 (by omega) (by omega) (by omega), r1 2 _ (by decide) (by decide) (by decide)]; exact P2
      · rw [A3, ms]; omega
      · rw [r2 7 j (by decide) (by decide) (by decide), hV1, y_up_ne (Or.inl (by decide)), y_up_ne (Or.inl (by decide)), y_up_ne (by omega)]
        exact (P3 j (by omega)).1
      · rw [r2 8 j (by decide) (by decide) (by decide), hV1, y_up_ne (by omega), y_up_ne (Or.inl (by decide)), y_up_ne (Or.inl (by decide))]
        exact (P3 j (by omega)).2
      · rw [r2 7 _ (by decide) (by decide) (by decide), hV1, y_up_ne (Or.inl (by decide)), y_up_ne (Or.inl (by decide))]
        by_cases e : t = x.toInt
        · rw [e, y_up_eq, o7.1]
        · rw [y_up_ne (by omega)]; exact (P4 t t0 (by omega)).1
      · rw [r2 8 _ (by decide) (by decide) (by decide), hV1]
        by_cases e : t = x.toInt
        · rw [e, y_up_eq, o7.2]
        · rw [y_up_ne (by omega), y_up_ne (Or.inl (by decide)), y_up_ne (Or.inl (by decide))]; exact (P4 t t0 (by omega)).2
      · rw [r2 9 _ (by decide) (by decide) (by decide), hV1, y_up_ne (Or.inl (by decide)), y_up_ne (by omega), y_up_ne (Or.inl (by decide))]
        exact P5 j hj
      · rw [r2 9 _ (by decide) (by decide) (by decide), hV1, y_up_ne (Or.inl (by decide)), y_up_eq, P6, ms]
        omega
      · rw [r2 14 _ (by decide) (by decide) (by decide), r1 14 _ (by decide) (by decide) (by decide)]; exact (P7 j hj).1
      · rw [r2 15 _ (by decide) (by decide) (by decide), r1 15 _ (by decide) (by decide) (by decide)]; exact (P7 j hj).2.1
      · rw [A1 16 j (by omega) (by omega) (by omega), r1 16 _ (by decide) (by decide) (by decide)]; exact (P7 j hj).2.2
      · rw [r2 14 _ (by decide) (by decide) (by decide), r1 14 _ (by decide) (by decide) (by decide)]; exact P8
      · rw [r2 15 _ (by decide) (by decide) (by decide), r1 15 _ (by decide) (by decide) (by decide)]; exact P8b
      · rw [A2, ms]
      · rw [A1 17 j (by omega) (by omega) (by omega), r1 17 _ (by decide) (by decide) (by decide)]; exact P9 j hj
      · by_cases e : t = x.toInt
        · subst e
          exact A4 q q0 q1
        · have mt := gl_mono nn (t := t + 1) (k := x.toInt) (by omega) (by omega) (by omega)
          have ts := gl_succ l t0
          rw [A1 17 _ (by omega) (by omega) (by omega), r1 17 _ (by decide) (by decide) (by decide)]
          exact P10 t q t0 (by omega) q0 q1
    · have ex : x.toInt = N := by omega
      rw [if_neg q]
      rw [ex] at P2b P3 P4 P6 P8c P10
      unfold F_X0_layWanted_E70_2
      rw [q_letE (q_si τ g 7 1)]
      have w5 : y_W X lb g o σ0 (q_si τ g 7 1) (y_up V 0 7 1) := w.si Y G (id := 0) (by decide) 7 1
      exact ⟨V, w5, P1, ⟨P2, P2b⟩, P3, P4, P5, P6, P7, ⟨P8, P8b, P8c⟩, P9, P10⟩
/-- the class lays down what is wanted -/
theorem gm_layWanted (Y : y_S X lb) (G : y_G X lb g o) (w : y_W X lb g o σ0 τ V) {p K N : Int} (H : gl_p V l p K N) (h20 : V 2 0 = K) :
    ∃ V' : Nat → Int → Int, y_W X lb g o σ0 (F_X0_layWanted X τ g) (y_up V' 0 7 1) ∧ gl_v V V' l p K N := by
  have H' := H
  obtain ⟨H1, H2, Hp, HK, HN, Hw, H4, Hc, Hr, H9⟩ := H'
  have z0 : (0 : Int32).toInt = 0 := rfl
  have m00 : m_S l 0 (0 : Int).toNat = 0 := rfl
  unfold F_X0_layWanted
  rw [q_letE (τ.1 g 5), q_letE (τ.1 g 4)]
  have f5 : (τ.1 g 5).toInt = p := (w.rd (id := 0) (by decide) 5 rfl).trans H1
  have f4 : (τ.1 g 4).toInt = V 0 4 := w.rd (id := 0) (by decide) 4 rfl
  have w1 := gm_begin Y G w f5 f4 h20 HK
  rw [q_letE (F_X2_begin X τ (q_rf X g 2) (τ.1 g 5) (τ.1 g 4))]
  obtain ⟨τ1, e1⟩ : ∃ s, s = F_X2_begin X τ (q_rf X g 2) (τ.1 g 5) (τ.1 g 4) := ⟨_, rfl⟩
  rw [← e1] at w1 ⊢
  refine gl_vL Y G H _ 0 τ1 _ (by decide) w1 ?_ (by decide) (by rw [z0]; exact HN.1)
  rw [z0]
  refine ⟨fun id j b2 b7 b8 b9 b14 b15 b16 b17 => ?_, ⟨?_, ?_⟩, fun j hj => ⟨?_, ?_⟩, fun t t0 t1 => by omega, fun j hj => ?_, ?_, fun j hj => ⟨?_, ?_, ?_⟩, ⟨?_, ?_, ?_⟩, fun j hj => ?_, fun t q t0 t1 => by omega⟩
  · rw [y_up_ne (Or.inl b2), y_up_ne (Or.inl b16), y_up_ne (Or.inl b15), y_up_ne (Or.inl b14)]
  · rw [y_up_eq]
  · rw [y_up_ne (Or.inr (by decide)), y_up_ne (Or.inl (by decide)), y_up_ne (Or.inl (by decide)), y_up_ne (Or.inl (by decide)), m00]; omega
  · rw [y_up_ne (Or.inl (by decide)), y_up_ne (Or.inl (by decide)), y_up_ne (Or.inl (by decide)), y_up_ne (Or.inl (by decide))]
  · rw [y_up_ne (Or.inl (by decide)), y_up_ne (Or.inl (by decide)), y_up_ne (Or.inl (by decide)), y_up_ne (Or.inl (by decide))]
  · rw [y_up_ne (Or.inl (by decide)), y_up_ne (Or.inl (by decide)), y_up_ne (Or.inl (by decide)), y_up_ne (Or.inl (by decide))]
  · rw [y_up_ne (Or.inl (by decide)), y_up_ne (Or.inl (by decide)), y_up_ne (Or.inl (by decide)), y_up_ne (Or.inl (by decide)), m00]; omega
  · rw [y_up_ne (Or.inl (by decide)), y_up_ne (Or.inl (by decide)), y_up_ne (Or.inl (by decide)), y_up_ne (Or.inr hj)]
  · rw [y_up_ne (Or.inl (by decide)), y_up_ne (Or.inl (by decide)), y_up_ne (Or.inr hj), y_up_ne (Or.inl (by decide))]
  · rw [y_up_ne (Or.inl (by decide)), y_up_ne (Or.inr hj), y_up_ne (Or.inl (by decide)), y_up_ne (Or.inl (by decide))]
  · rw [y_up_ne (Or.inl (by decide)), y_up_ne (Or.inl (by decide)), y_up_ne (Or.inl (by decide)), y_up_eq]
  · rw [y_up_ne (Or.inl (by decide)), y_up_ne (Or.inl (by decide)), y_up_eq]
  · rw [y_up_ne (Or.inl (by decide)), y_up_eq, m00]
  · rw [y_up_ne (Or.inl (by decide)), y_up_ne (Or.inl (by decide)), y_up_ne (Or.inl (by decide)), y_up_ne (Or.inl (by decide))]
end GE

/-! FROM 49f.rglay.lean.txt -/
/-! CARDS LAID DOWN: the games stay the same -/
theorem gm_Kx {c c' : Int → Int} {w k : Int} {n : Nat} (h : ∀ j : Int, w + 3 ≤ j → j < w + 3 + (n : Int) → c' j = c j) : m_K c' w k n = m_K c w k n := by
  induction n with
  | zero => rfl
  | succ n ih =>
    show m_K c' w k n + (if k < 0 ∨ c' (w + 3 + (n : Int)) = k then 1 else 0) = m_K c w k n + (if k < 0 ∨ c (w + 3 + (n : Int)) = k then 1 else 0)
    rw [ih (fun j a b => h j a (by omega)), h _ (by omega) (by omega)]
/-- the layings below n are the same -/
theorem gm_Lx {c c' : Int → Int} {n : Nat} (h4 : ∀ i : Int, 0 ≤ i → i < (n : Int) → c (94 + 7 * i + 2) ≤ 4) (h : ∀ j : Int, 94 ≤ j → j < 94 + 7 * (n : Int) → c' j = c j) : m_L c' n = m_L c n ∧ ∀ p k : Int, m_A c' p k n = m_A c p k n := by
  induction n with
  | zero => exact ⟨rfl, fun _ _ => rfl⟩
  | succ n ih =>
    obtain ⟨i1, i2⟩ := ih (fun i a b => h4 i a (by omega)) (fun j a b => h j a (by omega))
    have s4 := h4 (n : Int) (by omega) (by omega)
    refine ⟨?_, fun p k => ?_⟩
    · show m_L c' n + c' (94 + 7 * (n : Int) + 2) = m_L c n + c (94 + 7 * (n : Int) + 2)
      rw [i1, h _ (by omega) (by omega)]
    · show m_A c' p k n + (if 0 ≤ p ∧ c' (94 + 7 * (n : Int)) ≠ p then 0 else m_K c' (94 + 7 * (n : Int)) k (c' (94 + 7 * (n : Int) + 2)).toNat) = m_A c p k n + (if 0 ≤ p ∧ c (94 + 7 * (n : Int)) ≠ p then 0 else m_K c (94 + 7 * (n : Int)) k (c (94 + 7 * (n : Int) + 2)).toNat)
      rw [i2 p k, h _ (by omega) (by omega), h (94 + 7 * (n : Int) + 2) (by omega) (by omega), gm_Kx (c := c) (fun j a b => h j (by omega) (by omega))]
theorem gl_K {c l : Int → Int} {w k : Int} (nn : ∀ t : Int, 0 ≤ t → t < 10 → 0 ≤ l t) (hk : 0 ≤ k ∧ k < 10) (hq : ∀ t q : Int, 0 ≤ t → t < 10 → m_S l 0 t.toNat ≤ q → q < m_S l 0 t.toNat + l t → c (w + 3 + q) = t) (t : Nat) (ht : t ≤ 10) : m_K c w k (m_S l 0 t).toNat = if k < (t : Int) then l k else 0 := by
  induction t with
  | zero =>
    rw [if_neg (by omega)]
    rfl
  | succ t ih =>
    have i1 := ih (by omega)
    have et : ((t : Int)).toNat = t := by omega
    have lt := nn (t : Int) (by omega) (by omega)
    have s0 : 0 ≤ m_S l 0 t := m_S_nn (fun j a b => nn j a (by omega))
    have hs : m_S l 0 (t + 1) = m_S l 0 t + l (t : Int) := by
      show m_S l 0 t + l (0 + (t : Int)) = _
      rw [Int.zero_add]
    have st : ∀ i : Nat, (i : Int) ≤ l (t : Int) → m_K c w k ((m_S l 0 t).toNat + i) = m_K c w k (m_S l 0 t).toNat + (if (t : Int) = k then (i : Int) else 0) := by
      intro i
      induction i with
      | zero =>
        intro _
        show m_K c w k (m_S l 0 t).toNat = _
        split <;> omega
      | succ i ih2 =>
        intro hi
        have i2 := ih2 (by omega)
        have hc := hq (t : Int) (m_S l 0 t + (i : Int)) (by omega) (by omega) (by rw [et]; omega) (by rw [et]; omega)
        have ec : (((m_S l 0 t).toNat + i : Nat) : Int) = m_S l 0 t + (i : Int) := by omega
        show m_K c w k ((m_S l 0 t).toNat + i) + (if k < 0 ∨ c (w + 3 + (((m_S l 0 t).toNat + i : Nat) : Int)) = k then 1 else 0) = _
        rw [i2, ec, hc]
        by_cases q : (t : Int) = k
        · rw [if_pos q, if_pos q, if_pos (Or.inr q)]; omega
        · rw [if_neg q, if_neg q, if_neg (by omega)]; omega
    have hf := st (l (t : Int)).toNat (by omega)
    have es : (m_S l 0 (t + 1)).toNat = (m_S l 0 t).toNat + (l (t : Int)).toNat := by omega
    rw [es, hf, i1]
    by_cases q : (t : Int) = k
    · rw [if_pos q, if_neg (by omega), if_pos (by omega), ← q]; omega
    · rw [if_neg q]
      by_cases q2 : k < (t : Int)
      · rw [if_pos q2, if_pos (by omega)]; omega
      · rw [if_neg q2, if_neg (by omega)]; rfl
theorem gl_P {c c' l : Int → Int} {p k : Int} (hp : 0 ≤ p) (h1 : c' (34 + 10 * p + k) = c (34 + 10 * p + k) - l k) (h2 : ∀ q : Int, 0 ≤ q → q < 6 → q ≠ p → c' (34 + 10 * q + k) = c (34 + 10 * q + k)) (n : Nat) (hn : n ≤ 6) : m_P c' k n = m_P c k n - (if p < (n : Int) then l k else 0) := by
  induction n with
  | zero =>
    rw [if_neg (by omega)]
    rfl
  | succ n ih =>
    have i1 := ih (by omega)
    show m_P c' k n + c' (34 + 10 * (n : Int) + k) = m_P c k n + c (34 + 10 * (n : Int) + k) - _
    rw [i1]
    by_cases q : (n : Int) = p
    · rw [q, h1, if_neg (by omega), if_pos (by omega)]; omega
    · rw [h2 (n : Int) (by omega) (by omega) q]
      by_cases q2 : p < (n : Int)
      · rw [if_pos q2, if_pos (by omega)]; omega
      · rw [if_neg q2, if_neg (by omega)]; omega
theorem gl_cut {l : Int → Int} (n m : Nat) (h : ∀ t : Int, (n : Int) ≤ t → t < ((n + m : Nat) : Int) → l t = 0) : m_S l 0 (n + m) = m_S l 0 n := by
  induction m with
  | zero => rfl
  | succ m ih =>
    show m_S l 0 (n + m) + l (0 + ((n + m : Nat) : Int)) = _
    rw [ih (fun t a b => h t a (by omega)), h _ (by omega) (by omega)]
    omega
theorem rg.lay {V V' : Nat → Int → Int} {c c' l : Int → Int} {p : Int} (R : rg V c) (hl : m_lo c l p) (h6 : c 6 = p) (v : gl_v V V' l p (c 9) (c 0)) (r : gl_r c c' l p) : rg (y_up V' 0 7 1) c' := by
  have b9 := hl.c9
  have hp := hl.2.1
  have hG := hl.1
  obtain ⟨b0, b2, b4, b5, b6, b7, b9', b79⟩ := hG.1
  have nn : ∀ t : Int, 0 ≤ t → t < 10 → 0 ≤ l t := fun t a b => (hl.2.2.1 t a b).1
  have zl : ∀ t : Int, c 0 ≤ t → t < 10 → l t = 0 := fun t a b => by
    have z := hl.2.2.1 t (by omega) b
    have y := (hG.2.1 p t hp.1 hp.2 (by omega) b).2 a
    omega
  have hN : m_S l 0 (c 0).toNat = m_S l 0 10 := by
    have z := gl_cut (l := l) (c 0).toNat (10 - (c 0).toNat) (fun t a b => zl t (by omega) (by omega))
    have e : (c 0).toNat + (10 - (c 0).toNat) = 10 := by omega
    rw [e] at z
    exact z.symm
  obtain ⟨⟨t1, t2, t3, t4, t5, t6⟩, ⟨s1, s2, s3, s4⟩, hpp, ⟨g1, g2⟩, ⟨l1, l2, l3⟩, ⟨a1, a2⟩⟩ := R
  obtain ⟨P1, ⟨P2, P2b⟩, P3, P4, P5, P6, P7, ⟨P8, P8b, P8c⟩, P9, P10⟩ := v
  obtain ⟨r1, r2, r3, r4, r5, r6, r7, r8⟩ := r
  rw [hN] at P2b P6 P8c
  have d : ∀ j : Int, 0 ≤ j → j < 34 → j ≠ 9 → j ≠ 7 → c' j = c j := fun j j0 j1 j2 j3 => r1 j j0 (by omega) (by omega) j2 j3
  have dl : ∀ j : Int, 94 ≤ j → j < 94 + 7 * c 9 → c' j = c j := fun j j0 j1 => r1 j (by omega) (by omega) (by omega) (by omega) (by omega)
  have u : ∀ (id : Nat) (j : Int), id ≠ 0 → y_up V' 0 7 1 id j = V' id j := fun id j h => y_up_ne (Or.inl h)
  have w : ∀ (id : Nat) (j : Int), id ≠ 0 → id ≠ 2 → id ≠ 7 → id ≠ 8 → id ≠ 9 → id ≠ 14 → id ≠ 15 → id ≠ 16 → id ≠ 17 → y_up V' 0 7 1 id j = V id j := fun id j q0 q2 q7 q8 q9 q14 q15 q16 q17 => (u id j q0).trans (P1 id j q2 q7 q8 q9 q14 q15 q16 q17)
  have w0 : ∀ j : Int, j ≠ 7 → y_up V' 0 7 1 0 j = V 0 j := fun j h => (y_up_ne (Or.inr h)).trans (P1 0 j (by decide) (by decide) (by decide) (by decide) (by decide) (by decide) (by decide) (by decide))
  have Lx := gm_Lx (c := c) (c' := c') (n := (c 9).toNat) (fun i i0 i1 => ((hG.2.2.1 i i0 (by omega)).1).2) (fun j j0 j1 => dl j j0 (by omega))
  have e9 : (c' 9).toNat = (c 9 + 1).toNat := by rw [r6]
  have kk : ∀ k : Int, 0 ≤ k → k < 10 → m_K c' (94 + 7 * c 9) k (c' (94 + 7 * c 9 + 2)).toNat = l k := by
    intro k k0 k1
    have z := gl_K (c := c') (w := 94 + 7 * c 9) nn ⟨k0, k1⟩ r8 10 (Nat.le_refl 10)
    rw [if_pos (by omega)] at z
    rw [r5]
    exact z
  refine ⟨⟨?_, ?_, ?_, ?_, ?_, ?_⟩, ⟨?_, ?_, ?_, ?_⟩, fun q q0 q1 => ⟨?_, ?_, ?_, ?_⟩, ⟨fun j j0 j1 => ?_, fun q q0 q1 => ?_⟩, ⟨?_, ?_, fun k k0 k1 => ?_⟩, ⟨fun q k q0 q1 k0 k1 => ?_, fun k k0 k1 => ?_⟩⟩
  · rw [w 1 0 (by decide) (by decide) (by decide) (by decide) (by decide) (by decide) (by decide) (by decide) (by decide), d 0 (by decide) (by decide) (by decide) (by decide)]; exact t1
  · rw [w 1 1 (by decide) (by decide) (by decide) (by decide) (by decide) (by decide) (by decide) (by decide) (by decide), d 1 (by decide) (by decide) (by decide) (by decide)]; exact t2
  · rw [w 1 2 (by decide) (by decide) (by decide) (by decide) (by decide) (by decide) (by decide) (by decide) (by decide), d 3 (by decide) (by decide) (by decide) (by decide)]; exact t3
  · rw [w 1 3 (by decide) (by decide) (by decide) (by decide) (by decide) (by decide) (by decide) (by decide) (by decide), d 4 (by decide) (by decide) (by decide) (by decide)]; exact t4
  · rw [w 1 4 (by decide) (by decide) (by decide) (by decide) (by decide) (by decide) (by decide) (by decide) (by decide), d 2 (by decide) (by decide) (by decide) (by decide)]; exact t5
  · rw [d 3 (by decide) (by decide) (by decide) (by decide)]; exact t6
  · rw [w0 4 (by decide), d 5 (by decide) (by decide) (by decide) (by decide)]; exact s1
  · rw [w0 5 (by decide), d 2 (by decide) (by decide) (by decide) (by decide), d 6 (by decide) (by decide) (by decide) (by decide)]; exact s2
  · rw [w0 6 (by decide), d 8 (by decide) (by decide) (by decide) (by decide)]; exact s3
  · rw [y_up_eq, r7]
  · rw [w 10 q (by decide) (by decide) (by decide) (by decide) (by decide) (by decide) (by decide) (by decide) (by decide), d _ (by omega) (by omega) (by omega) (by omega)]; exact (hpp q q0 q1).1
  · rw [w 11 q (by decide) (by decide) (by decide) (by decide) (by decide) (by decide) (by decide) (by decide) (by decide), d _ (by omega) (by omega) (by omega) (by omega)]; exact (hpp q q0 q1).2.1
  · rw [w 12 q (by decide) (by decide) (by decide) (by decide) (by decide) (by decide) (by decide) (by decide) (by decide), d _ (by omega) (by omega) (by omega) (by omega)]; exact (hpp q q0 q1).2.2.1
  · rw [w 13 q (by decide) (by decide) (by decide) (by decide) (by decide) (by decide) (by decide) (by decide) (by decide), d _ (by omega) (by omega) (by omega) (by omega)]; exact (hpp q q0 q1).2.2.2
  · rw [u 7 j (by decide)]
    by_cases e : 10 * p ≤ j ∧ j < 10 * p + 10
    · obtain ⟨t, ht⟩ : ∃ t, t = j - 10 * p := ⟨_, rfl⟩
      have ej : j = 10 * p + t := by omega
      subst ej
      have ec : (34 : Int) + (10 * p + t) = 34 + 10 * p + t := by omega
      have gg := g1 (10 * p + t) j0 j1
      rw [ec] at gg
      rw [ec, r2 t (by omega) (by omega)]
      by_cases e2 : t < c 0
      · rw [(P4 t (by omega) e2).1, gg]
      · rw [(P3 _ (by omega)).1, gg, zl t (by omega) (by omega)]; omega
    · rw [(P3 _ (by omega)).1, r1 _ (by omega) (by omega) (by omega) (by omega) (by omega)]
      exact g1 j j0 j1
  · rw [u 9 q (by decide)]
    by_cases e : q = p
    · rw [e, P6, g2 p hp.1 hp.2, m_S_sub (c' := c') (c := c) (f := l) (b := 34 + 10 * p) (n := 10) (fun t a b => r2 t a (by omega))]
    · rw [P5 q e, g2 q q0 q1]
      exact (m_S_ext (fun j x y => r1 j (by omega) (by omega) (by omega) (by omega) (by omega))).symm
  · rw [u 2 0 (by decide), P2, r6]
  · rw [u 2 1 (by decide), P2b, l2, e9, m_L_succ c' (c 9) b9.1, Lx.1, r5]
  · rw [u 14 k (by decide), u 15 k (by decide), u 16 k (by decide)]
    rw [r6] at k1
    by_cases e : k = c 9
    · subst e
      rw [P8, P8b, P8c, r3, r4, r5]
      refine ⟨rfl, s1, rfl, hp, fun i i0 i1 => ?_⟩
      obtain ⟨t, x0, x1, x2, x3⟩ := gl_at 10 i i0 i1
      have tk := hl.kind x0 (by omega) (by omega)
      rw [u 17 _ (by decide), P10 t i x0 tk x2 x3, r8 t i x0 (by omega) x2 x3]
    · have z := P7 k e
      obtain ⟨y1, y2, y3, y5, y4⟩ := l3 k k0 (by omega)
      have z4 := ((hG.2.2.1 k k0 (by omega)).1).2
      rw [z.1, z.2.1, z.2.2, dl _ (by omega) (by omega), dl _ (by omega) (by omega), dl _ (by omega) (by omega)]
      refine ⟨y1, y2, y3, y5, fun i i0 i1 => ?_⟩
      rw [u 17 _ (by decide), P9 _ (by omega), dl _ (by omega) (by omega)]
      exact y4 i i0 i1
  · rw [u 8 _ (by decide), e9, m_A_succ c' q k (c 9) b9.1, Lx.2, r3]
    by_cases e : q = p
    · subst e
      rw [if_neg (fun z => z.2 rfl), kk k k0 k1]
      by_cases e2 : k < c 0
      · rw [(P4 k k0 e2).2, a1 q k q0 q1 k0 k1]
      · rw [(P3 _ (by omega)).2, a1 q k q0 q1 k0 k1, zl k (by omega) k1]; omega
    · rw [if_pos ⟨q0, fun z => e z.symm⟩, (P3 _ (by omega)).2, a1 q k q0 q1 k0 k1]; omega
  · rw [w 4 k (by decide) (by decide) (by decide) (by decide) (by decide) (by decide) (by decide) (by decide) (by decide), a2 k k0 k1]
    unfold m_I
    rw [e9, d 2 (by decide) (by decide) (by decide) (by decide), m_A_succ c' (-1) k (c 9) b9.1, Lx.2, if_neg (fun z => absurd z.1 (by decide)), kk k k0 k1, gl_P (l := l) hp.1 (r2 k k0 k1) (fun q q0 q1 q2 => r1 _ (by omega) (by omega) (by omega) (by omega) (by omega)) (c 2).toNat (by omega), if_pos (by omega)]
    omega

/-! FROM 49g.truth.lean.txt -/
/-! TRUE, MIXED, FALSE -/
def g_ct (f : Int → Int) (b : Int) : Nat → Int
  | 0 => 0
  | n + 1 => g_ct f b n + (if f (n : Int) = b then 1 else 0)
def g_tr (f : Int → Int) (b n : Int) : Int := if g_ct f b n.toNat = n then 0 else if g_ct f b n.toNat = 0 then 2 else 1
theorem g_ct_s (f : Int → Int) (b : Int) {x : Int} (h : 0 ≤ x) : g_ct f b (x + 1).toNat = g_ct f b x.toNat + (if f x = b then 1 else 0) := by
  have e : (x + 1).toNat = x.toNat + 1 := by omega
  have e2 : (x.toNat : Int) = x := by omega
  rw [e]
  show g_ct f b x.toNat + (if f (x.toNat : Int) = b then 1 else 0) = _
  rw [e2]
theorem g_ct_b (f : Int → Int) (b : Int) (n : Nat) : 0 ≤ g_ct f b n ∧ g_ct f b n ≤ (n : Int) := by
  induction n with
  | zero => exact ⟨Int.le_refl _, Int.le_refl _⟩
  | succ n ih =>
    have e : g_ct f b (n + 1) = g_ct f b n + (if f (n : Int) = b then 1 else 0) := rfl
    rw [e]
    split <;> omega
theorem g_ct_x {f f' : Int → Int} {b : Int} {n : Nat} (h : ∀ i : Int, 0 ≤ i → i < (n : Int) → f i = f' i) : g_ct f b n = g_ct f' b n := by
  induction n with
  | zero => rfl
  | succ n ih =>
    show g_ct f b n + (if f (n : Int) = b then 1 else 0) = g_ct f' b n + (if f' (n : Int) = b then 1 else 0)
    rw [ih (fun i a c => h i a (by omega)), h (n : Int) (by omega) (by omega)]
theorem g_tr_x {f f' : Int → Int} {b n : Int} (h : ∀ i : Int, 0 ≤ i → i < n → f i = f' i) : g_tr f b n = g_tr f' b n := by
  unfold g_tr
  rw [g_ct_x (f := f) (f' := f') (n := n.toNat) (fun i a c => h i a (by omega))]
section GF
variable {X : XW} {lb : Nat → Nat} {g o a : Nat} {σ τ σ0 τ0 : ST} {V : Nat → Int → Int} {c : Int → Int}
theorem gm_truthL (Y : y_S X lb) (G : y_G X lb g o) (w : y_W X lb g o σ0 σ V) {v1 : Int32} {k n : Int} (hv : v1.toInt = k) (hk : 0 ≤ k ∧ k < 80) (hs : V 16 k = n) (hn : 0 ≤ n ∧ n ≤ 4) (fu : Nat) : ∀ x1 x2 : Int32, (2147483647 - x2.toInt).toNat < fu → 0 ≤ x2.toInt → x2.toInt ≤ n → x1.toInt = g_ct (fun i => V 17 (4 * k + i)) (V 15 k) x2.toInt.toNat → (F_X2_truth_L4_1 X σ (q_rf X g 2) v1 fu x1 x2).toInt = g_tr (fun i => V 17 (4 * k + i)) (V 15 k) n := by
  have gn15 : ((y_gn 15 : Nat) : Int) = 80 := rfl
  have gn16 : ((y_gn 16 : Nat) : Int) = 80 := rfl
  have gn17 : ((y_gn 17 : Nat) : Int) = 320 := rfl
  have e4 : (4 : Int32).toInt = 4 := rfl
  have r4 : (F_X5_get X σ (q_rf X (q_rf X g 2) 4) v1).toInt = n := (y_getI Y G w (id := 16) ⟨by decide, by decide⟩ rfl hv hk.1 (by rw [gn16]; exact hk.2)).trans hs
  have r15 : (F_X5_get X σ (q_rf X (q_rf X g 2) 3) v1).toInt = V 15 k := y_getI Y G w (id := 15) ⟨by decide, by decide⟩ rfl hv hk.1 (by rw [gn15]; exact hk.2)
  induction fu with
  | zero => intro x1 x2 h; exact absurd h (Nat.not_lt_zero _)
  | succ fu ih =>
    intro x1 x2 hf y0 y1 hx
    have cb := g_ct_b (fun i => V 17 (4 * k + i)) (V 15 k) x2.toInt.toNat
    rw [F_X2_truth_L4_1_s]
    unfold F_X2_truth_B4_1
    rw [q_letE (F_X5_get X σ (q_rf X (q_rf X g 2) 4) v1), r4]
    by_cases q : x2.toInt < n
    · have ei : (v1 * 4 + x2).toInt = 4 * k + x2.toInt := by
        rw [ar_add, ar_mul, hv, e4, ar_wr (n := k * 4) (by omega) (by omega), ar_wr (by omega) (by omega)]
        omega
      have r13 : (F_X5_get X σ (q_rf X (q_rf X g 2) 5) (v1 * 4 + x2)).toInt = V 17 (4 * k + x2.toInt) := y_getI Y G w (id := 17) ⟨by decide, by decide⟩ rfl ei (by omega) (by rw [gn17]; omega)
      have ex1 : (x1 + 1).toInt = x1.toInt + 1 := y_inc (by omega)
      have ex2 : (x2 + 1).toInt = x2.toInt + 1 := y_inc (by omega)
      have cs := g_ct_s (fun i => V 17 (4 * k + i)) (V 15 k) y0
      rw [if_pos q, q_letE (v1 * 4), q_letE (v1 * 4 + x2), q_letE (F_X5_get X σ (q_rf X (q_rf X g 2) 5) (v1 * 4 + x2)), q_letE (F_X5_get X σ (q_rf X (q_rf X g 2) 3) v1), r13, r15]
      by_cases q2 : V 17 (4 * k + x2.toInt) = V 15 k
      · rw [if_pos q2, q_letE (x1 + 1), q_letE (x2 + 1)]
        rw [if_pos q2] at cs
        exact ih _ _ (by omega) (by omega) (by omega) (by rw [ex1, ex2, cs, hx])
      · rw [if_neg q2, q_letE (x2 + 1)]
        rw [if_neg q2] at cs
        exact ih _ _ (by omega) (by omega) (by omega) (by rw [ex2, cs, hx]; omega)
    · have ey : x2.toInt = n := by omega
      rw [ey] at hx
      rw [if_neg q]
      unfold F_X2_truth_E48_2
      rw [q_letE, r4, hx]
      unfold g_tr
      by_cases q2 : g_ct (fun i => V 17 (4 * k + i)) (V 15 k) n.toNat = n
      · rw [if_pos q2, if_pos q2]; rfl
      · rw [if_neg q2, if_neg q2]
        by_cases q3 : g_ct (fun i => V 17 (4 * k + i)) (V 15 k) n.toNat = 0
        · rw [if_pos q3, if_pos q3]; rfl
        · rw [if_neg q3, if_neg q3]; rfl
theorem gm_truth (Y : y_S X lb) (G : y_G X lb g o) (w : y_W X lb g o σ0 σ V) {v1 : Int32} {k n : Int} (hv : v1.toInt = k) (hk : 0 ≤ k ∧ k < 80) (hs : V 16 k = n) (hn : 0 ≤ n ∧ n ≤ 4) : (F_X2_truth X σ (q_rf X g 2) v1).toInt = g_tr (fun i => V 17 (4 * k + i)) (V 15 k) n := by
  have z0 : (0 : Int32).toInt = 0 := rfl
  unfold F_X2_truth
  exact gm_truthL Y G w hv hk hs hn _ 0 0 (by decide) (by decide) (by rw [z0]; exact hn.1) (by rw [z0]; rfl)
theorem gm_laid {v : Int32} {k : Int} (hv : v.toInt = k) (hk : 0 ≤ k ∧ k ≤ 80) : (F_X12_laid X τ v).toInt = 94 + 7 * k := by
  have e7 : (7 : Int32).toInt = 7 := rfl
  have e94 : (94 : Int32).toInt = 94 := rfl
  unfold F_X12_laid
  rw [q_letE, q_letE, ar_add, ar_mul, e94, e7, hv, ar_wr (n := 7 * k) (by omega) (by omega), ar_wr (by omega) (by omega)]
theorem gm_sortL (hc : m_c X τ a = c) {rr : Int32} {k n : Int} (hr : rr.toInt = 94 + 7 * k) (hk : 0 ≤ k ∧ k < 80) (hs : c (94 + 7 * k + 2) = n) (hn : 0 ≤ n ∧ n ≤ 4) (fu : Nat) : ∀ x1 x2 : Int32, (2147483647 - x2.toInt).toNat < fu → 0 ≤ x2.toInt → x2.toInt ≤ n → x1.toInt = g_ct (fun i => c (94 + 7 * k + 3 + i)) (c (94 + 7 * k + 1)) x2.toInt.toNat → (F_X12_sortOf_L10_1 X rr τ a fu x1 x2).toInt = g_tr (fun i => c (94 + 7 * k + 3 + i)) (c (94 + 7 * k + 1)) n := by
  have e1 : (1 : Int32).toInt = 1 := rfl
  have e2 : (2 : Int32).toInt = 2 := rfl
  have e3 : (3 : Int32).toInt = 3 := rfl
  have z0 : (0 : Int32).toInt = 0 := rfl
  have i1 : (rr + 1).toInt = 94 + 7 * k + 1 := by rw [ar_add, hr, e1, ar_wr (by omega) (by omega)]
  have i2 : (rr + 2).toInt = 94 + 7 * k + 2 := by rw [ar_add, hr, e2, ar_wr (by omega) (by omega)]
  have i3 : (rr + 3).toInt = 94 + 7 * k + 3 := by rw [ar_add, hr, e3, ar_wr (by omega) (by omega)]
  have r2 : (τ.1 (q_rf X a 20) (rr + 2).toNatClampNeg).toInt = n := (gm_cell hc i2).trans hs
  have r1 : (τ.1 (q_rf X a 20) (rr + 1).toNatClampNeg).toInt = c (94 + 7 * k + 1) := gm_cell hc i1
  induction fu with
  | zero => intro x1 x2 h; exact absurd h (Nat.not_lt_zero _)
  | succ fu ih =>
    intro x1 x2 hf y0 y1 hx
    have cb := g_ct_b (fun i => c (94 + 7 * k + 3 + i)) (c (94 + 7 * k + 1)) x2.toInt.toNat
    rw [F_X12_sortOf_L10_1_s]
    unfold F_X12_sortOf_B10_1
    rw [q_letE (rr + 2), q_letE (τ.1 (q_rf X a 20) (rr + 2).toNatClampNeg), r2]
    by_cases q : x2.toInt < n
    · have ei : (rr + 3 + x2).toInt = 94 + 7 * k + 3 + x2.toInt := by rw [ar_add, i3, ar_wr (by omega) (by omega)]
      have r13 : (τ.1 (q_rf X a 20) (rr + 3 + x2).toNatClampNeg).toInt = c (94 + 7 * k + 3 + x2.toInt) := gm_cell hc ei
      have ex1 : (x1 + 1).toInt = x1.toInt + 1 := y_inc (by omega)
      have ex0 : (x1 + 0).toInt = x1.toInt := by rw [ar_add, z0, ar_wr (by omega) (by omega)]; omega
      have ex2 : (x2 + 1).toInt = x2.toInt + 1 := y_inc (by omega)
      have cs := g_ct_s (fun i => c (94 + 7 * k + 3 + i)) (c (94 + 7 * k + 1)) y0
      rw [if_pos q, q_letE (rr + 3), q_letE (rr + 3 + x2), q_letE (τ.1 (q_rf X a 20) (rr + 3 + x2).toNatClampNeg), q_letE (rr + 1), q_letE (τ.1 (q_rf X a 20) (rr + 1).toNatClampNeg), r13, r1]
      by_cases q2 : c (94 + 7 * k + 3 + x2.toInt) = c (94 + 7 * k + 1)
      · rw [if_pos q2, q_letE (x1 + 1), q_letE (x2 + 1)]
        rw [if_pos q2] at cs
        exact ih _ _ (by omega) (by omega) (by omega) (by rw [ex1, ex2, cs, hx])
      · rw [if_neg q2, q_letE (x1 + 0), q_letE (x2 + 1)]
        rw [if_neg q2] at cs
        exact ih _ _ (by omega) (by omega) (by omega) (by rw [ex0, ex2, cs, hx]; omega)
    · have ey : x2.toInt = n := by omega
      rw [ey] at hx
      rw [if_neg q]
      unfold F_X12_sortOf_E59_2
      rw [q_letE, q_letE, r2, hx]
      unfold g_tr
      by_cases q2 : g_ct (fun i => c (94 + 7 * k + 3 + i)) (c (94 + 7 * k + 1)) n.toNat = n
      · rw [if_pos q2, if_pos q2]; rfl
      · rw [if_neg q2, if_neg q2]
        by_cases q3 : g_ct (fun i => c (94 + 7 * k + 3 + i)) (c (94 + 7 * k + 1)) n.toNat = 0
        · rw [if_pos q3, if_pos q3]; rfl
        · rw [if_neg q3, if_neg q3]; rfl
theorem gm_sortOf (hc : m_c X τ a = c) {v1 : Int32} {k n : Int} (hv : v1.toInt = k) (hk : 0 ≤ k ∧ k < 80) (hs : c (94 + 7 * k + 2) = n) (hn : 0 ≤ n ∧ n ≤ 4) : (F_X12_sortOf X τ a v1).toInt = g_tr (fun i => c (94 + 7 * k + 3 + i)) (c (94 + 7 * k + 1)) n := by
  have z0 : (0 : Int32).toInt = 0 := rfl
  unfold F_X12_sortOf
  rw [q_letE]
  exact gm_sortL hc (gm_laid hv ⟨hk.1, by omega⟩) hk hs hn _ 0 0 (by decide) (by decide) (by rw [z0]; exact hn.1) (by rw [z0]; rfl)
/-- both find the same sort -/
theorem rg.sort (Y : y_S X lb) (G : y_G X lb g o) (w : y_W X lb g o σ0 σ V) (R : rg V c) (hG : m_G c) (hc : m_c X τ a = c) {v1 v1' : Int32} {k : Int} (hv : v1.toInt = k) (hv' : v1'.toInt = k) (hk : 0 ≤ k ∧ k < c 9) : (F_X2_truth X σ (q_rf X g 2) v1).toInt = (F_X12_sortOf X τ a v1').toInt ∧ 0 ≤ (F_X12_sortOf X τ a v1').toInt ∧ (F_X12_sortOf X τ a v1').toInt ≤ 2 := by
  have b9 := hG.1.2.2.2.2.2.2.1
  have y4 := (hG.2.2.1 k hk.1 hk.2).1
  obtain ⟨y1, y2, y3, y5, y6⟩ := R.2.2.2.2.1.2.2 k hk.1 hk.2
  have a1 := gm_truth Y G w hv ⟨hk.1, by omega⟩ y3 ⟨by omega, by omega⟩
  have a2 := gm_sortOf hc hv' ⟨hk.1, by omega⟩ rfl ⟨by omega, by omega⟩
  rw [a1, a2, y2]
  refine ⟨g_tr_x (fun i i0 i1 => y6 i i0 i1), ?_, ?_⟩
  · unfold g_tr
    split
    · decide
    · split <;> decide
  · unfold g_tr
    split
    · decide
    · split <;> decide
end GF

/-! FROM 49h.takes.lean.txt -/
/-! THE HEAP TAKEN -/
def gq (f : Int → Int) (d : Int) : Nat → Int
  | 0 => 0
  | n + 1 => gq f d n + f (10 * (n : Int) + d)
theorem gq_s (f : Int → Int) (d : Int) {p : Int} (h : 0 ≤ p) : gq f d (p + 1).toNat = gq f d p.toNat + f (10 * p + d) := by
  have e : (p + 1).toNat = p.toNat + 1 := by omega
  have e2 : (p.toNat : Int) = p := by omega
  rw [e]
  show gq f d p.toNat + f (10 * (p.toNat : Int) + d) = _
  rw [e2]
theorem gq_b {f : Int → Int} {d : Int} (n : Nat) (h : ∀ p : Int, 0 ≤ p → p < (n : Int) → 0 ≤ f (10 * p + d) ∧ f (10 * p + d) ≤ 80) : 0 ≤ gq f d n ∧ gq f d n ≤ 80 * (n : Int) := by
  induction n with
  | zero => exact ⟨Int.le_refl _, Int.le_refl _⟩
  | succ n ih =>
    have i := ih (fun p a b => h p a (by omega))
    have d0 := h (n : Int) (by omega) (by omega)
    show 0 ≤ gq f d n + f (10 * (n : Int) + d) ∧ gq f d n + f (10 * (n : Int) + d) ≤ _
    omega
/-- all players' cards of a kind in the heap -/
theorem gq_A {c : Int → Int} {d : Int} (n : Nat) (hl : ∀ i : Int, 0 ≤ i → i < (n : Int) → 0 ≤ c (94 + 7 * i) ∧ c (94 + 7 * i) < 6) : m_A c 0 d n + m_A c 1 d n + m_A c 2 d n + m_A c 3 d n + m_A c 4 d n + m_A c 5 d n = m_A c (-1) d n := by
  induction n with
  | zero => rfl
  | succ n ih =>
    have i := ih (fun t a b => hl t a (by omega))
    have l := hl (n : Int) (by omega) (by omega)
    have s : ∀ q : Int, m_A c q d (n + 1) = m_A c q d n + (if 0 ≤ q ∧ c (94 + 7 * (n : Int)) ≠ q then 0 else m_K c (94 + 7 * (n : Int)) d (c (94 + 7 * (n : Int) + 2)).toNat) := fun q => rfl
    have sm : m_A c (-1) d (n + 1) = m_A c (-1) d n + m_K c (94 + 7 * (n : Int)) d (c (94 + 7 * (n : Int) + 2)).toNat := by rw [s (-1), if_neg (fun z => absurd z.1 (by decide))]
    rw [s 0, s 1, s 2, s 3, s 4, s 5, sm, ← i]
    obtain ⟨L, hL⟩ : ∃ L, L = c (94 + 7 * (n : Int)) := ⟨_, rfl⟩
    obtain ⟨M, hM⟩ : ∃ M, M = m_K c (94 + 7 * (n : Int)) d (c (94 + 7 * (n : Int) + 2)).toNat := ⟨_, rfl⟩
    rw [← hL] at l ⊢
    rw [← hM]
    rcases (by omega : L = 0 ∨ L = 1 ∨ L = 2 ∨ L = 3 ∨ L = 4 ∨ L = 5) with e | e | e | e | e | e <;> rw [e] <;> simp <;> omega
/-- how far the class is: the rows of the players below p, the first k of p's -/
def gt_v (V0 V : Nat → Int → Int) (t p k : Int) : Prop :=
  (∀ (id : Nat) (j : Int), id ≠ 7 → id ≠ 9 → V id j = V0 id j) ∧ (∀ j : Int, ¬ (10 * t ≤ j ∧ j < 10 * t + 10) → V 7 j = V0 7 j) ∧ (∀ d : Int, 0 ≤ d → d < 10 → V 7 (10 * t + d) = V0 7 (10 * t + d) + gq (V0 8) d (if d < k then p + 1 else p).toNat) ∧ (∀ j : Int, j ≠ t → V 9 j = V0 9 j) ∧ V 9 t = m_S (V 7) (10 * t) 10 ∧ 0 ≤ V 9 t ∧ V 9 t ≤ 100 + 80 * (10 * p + k)
def gt_V (V0 V : Nat → Int → Int) (t : Int) : Prop :=
  (∀ (id : Nat) (j : Int), id ≠ 7 → id ≠ 8 → id ≠ 9 → V id j = V0 id j) ∧ (∀ j : Int, ¬ (10 * t ≤ j ∧ j < 10 * t + 10) → V 7 j = V0 7 j) ∧ (∀ d : Int, 0 ≤ d → d < 10 → V 7 (10 * t + d) = V0 7 (10 * t + d) + gq (V0 8) d 6) ∧ (∀ j : Int, j ≠ t → V 9 j = V0 9 j) ∧ V 9 t = m_S (V 7) (10 * t) 10 ∧ ∀ j : Int, 0 ≤ j → j < 60 → V 8 j = 0
/-- what it wants of the game -/
def gt_p (V0 : Nat → Int → Int) (t : Int) : Prop := (0 ≤ t ∧ t < 6) ∧ (∀ j : Int, 0 ≤ j → j < 60 → (0 ≤ V0 7 j ∧ V0 7 j ≤ 80) ∧ 0 ≤ V0 8 j ∧ V0 8 j ≤ 80) ∧ V0 9 t = m_S (V0 7) (10 * t) 10 ∧ 0 ≤ V0 9 t ∧ V0 9 t ≤ 100
section GH
variable {X : XW} {lb : Nat → Nat} {g o a : Nat} {σ τ σ0 τ0 : ST} {V V0 : Nat → Int → Int} {c c0 : Int → Int}
theorem gm_deal (Y : y_S X lb) (G : y_G X lb g o) (w : y_W X lb g o σ0 τ V) {v1 v2 v3 : Int32} {p k n : Int} (hv1 : v1.toInt = p) (hv2 : v2.toInt = k) (hv3 : v3.toInt = n) (hp : 0 ≤ p ∧ p < 6) (hk : 0 ≤ k ∧ k < 10) (hn : -1000 ≤ n ∧ n ≤ 1000) (b7 : -100000 ≤ V 7 (10 * p + k) ∧ V 7 (10 * p + k) ≤ 100000) (b9 : -100000 ≤ V 9 p ∧ V 9 p ≤ 100000) :
    y_W X lb g o σ0 (F_X1_deal X τ (q_rf X g 1) v1 v2 v3) (y_up (y_up V 7 (10 * p + k) (V 7 (10 * p + k) + n)) 9 p (V 9 p + n)) := by
  have gn7 : ((y_gn 7 : Nat) : Int) = 60 := rfl
  have gn9 : ((y_gn 9 : Nat) : Int) = 6 := rfl
  have e10 : (10 : Int32).toInt = 10 := rfl
  have ei : (v1 * 10 + v2).toInt = 10 * p + k := by
    rw [ar_add, ar_mul, hv1, hv2, e10, ar_wr (n := p * 10) (by omega) (by omega), ar_wr (by omega) (by omega)]
    omega
  have w1 := w.add Y G (id := 7) (r := q_rf X (q_rf X g 1) 0) ⟨by decide, by decide⟩ rfl (v1 * 10 + v2) v3 (by omega) (by rw [gn7]; omega)
  rw [ei, hv3, ar_wr (by omega) (by omega)] at w1
  unfold F_X1_deal
  rw [q_letE (v1 * 10), q_letE (v1 * 10 + v2), q_letE (F_X5_add X τ (q_rf X (q_rf X g 1) 0) (v1 * 10 + v2) v3)]
  obtain ⟨τ1, e1⟩ : ∃ s, s = F_X5_add X τ (q_rf X (q_rf X g 1) 0) (v1 * 10 + v2) v3 := ⟨_, rfl⟩
  rw [← e1] at w1 ⊢
  have w2 := w1.add Y G (id := 9) (r := q_rf X (q_rf X g 1) 2) ⟨by decide, by decide⟩ rfl v1 v3 (by omega) (by rw [gn9]; omega)
  rw [hv1, hv3, y_up_ne (Or.inl (by decide)), ar_wr (by omega) (by omega)] at w2
  rw [q_letE (F_X5_add X τ1 (q_rf X (q_rf X g 1) 2) v1 v3)]
  exact w2
theorem gt_step {t p k n : Int} (H : gt_p V0 t) (hp : 0 ≤ p ∧ p < 6) (hk : 0 ≤ k ∧ k < 10) (P : gt_v V0 V t p k) (hn : n = V0 8 (10 * p + k)) : gt_v V0 (y_up (y_up V 7 (10 * t + k) (V 7 (10 * t + k) + n)) 9 t (V 9 t + n)) t p (k + 1) := by
  obtain ⟨Ht, Hb, H9, -, -⟩ := H
  obtain ⟨P1, P2, P3, P4, P5, P6, P7⟩ := P
  have bn := (Hb (10 * p + k) (by omega) (by omega)).2
  refine ⟨fun id j i7 i9 => ?_, fun j hj => ?_, fun d d0 d1 => ?_, fun j hj => ?_, ?_, ?_, ?_⟩
  · rw [y_up_ne (Or.inl i9), y_up_ne (Or.inl i7)]; exact P1 id j i7 i9
  · rw [y_up_ne (Or.inl (by decide)), y_up_ne (by omega)]; exact P2 j hj
  · rw [y_up_ne (Or.inl (by decide))]
    by_cases e : d = k
    · subst e
      have z := P3 d d0 d1
      rw [if_neg (by omega)] at z
      rw [y_up_eq, z, if_pos (by omega), gq_s _ _ hp.1, hn]
      omega
    · rw [y_up_ne (by omega), P3 d d0 d1]
      by_cases e2 : d < k
      · rw [if_pos e2, if_pos (by omega)]
      · rw [if_neg e2, if_neg (by omega)]
  · rw [y_up_ne (by omega), y_up_ne (Or.inl (by decide))]; exact P4 j hj
  · rw [y_up_eq]
    have z := m_S_upd (c := V 7) (c' := (y_up (y_up V 7 (10 * t + k) (V 7 (10 * t + k) + n)) 9 t (V 9 t + n)) 7) (b := 10 * t) (A := 10 * t + k) (v := V 7 (10 * t + k) + n) (n := 10) (fun j a1 a2 => by
      rw [y_up_ne (Or.inl (by decide))]
      by_cases e : j = 10 * t + k
      · rw [e, y_up_eq, if_pos rfl]
      · rw [y_up_ne (Or.inr e), if_neg e]) (by omega) (by omega)
    rw [z, P5]
    omega
  · rw [y_up_eq]; omega
  · rw [y_up_eq]; omega
theorem gt_in (Y : y_S X lb) (G : y_G X lb g o) {t p : Int} (H : gt_p V0 t) (hp : 0 ≤ p ∧ p < 6) {x1 v1 : Int32} (hx1 : x1.toInt = p) (hv1 : v1.toInt = t) (Bf : Int32 → ST → ST) (fu : Nat) : ∀ (x : Int32) (τ : ST) (V : Nat → Int → Int), (2147483647 - x.toInt).toNat < fu → y_W X lb g o σ0 τ V → gt_v V0 V t p x.toInt → 0 ≤ x.toInt → x.toInt ≤ 10 →
    ∃ (τ' : ST) (V' : Nat → Int → Int), F_X1_takeHeap_L10_3 X (q_rf X g 1) x1 v1 Bf fu x τ = Bf (x1 + 1) τ' ∧ y_W X lb g o σ0 τ' V' ∧ gt_v V0 V' t (p + 1) 0 := by
  have gn8 : ((y_gn 8 : Nat) : Int) = 60 := rfl
  have e10 : (10 : Int32).toInt = 10 := rfl
  induction fu with
  | zero => intro x τ V h; exact absurd h (Nat.not_lt_zero _)
  | succ fu ih =>
    intro x τ V hf w P x0 x1'
    rw [F_X1_takeHeap_L10_3_s]
    unfold F_X1_takeHeap_B10_3
    by_cases q : x.toInt < 10
    · have ei : (x1 * 10 + x).toInt = 10 * p + x.toInt := by
        rw [ar_add, ar_mul, hx1, e10, ar_wr (n := p * 10) (by omega) (by omega), ar_wr (by omega) (by omega)]
        omega
      have lb8 : (F_X1_laidBy X τ (q_rf X g 1) x1 x).toInt = V0 8 (10 * p + x.toInt) := by
        unfold F_X1_laidBy
        rw [q_letE, q_letE, q_letE]
        exact (y_getI Y G w (id := 8) ⟨by decide, by decide⟩ rfl ei (by omega) (by rw [gn8]; omega)).trans (P.1 8 _ (by decide) (by decide))
      have bn := (H.2.1 (10 * p + x.toInt) (by omega) (by omega)).2
      have b7 := (H.2.1 (10 * t + x.toInt) (by have := H.1; omega) (by have := H.1; omega)).1
      have q7 := P.2.2.1 x.toInt x0 q
      rw [if_neg (by omega)] at q7
      have gb := gq_b (f := V0 8) (d := x.toInt) p.toNat (fun r r0 r1 => (H.2.1 (10 * r + x.toInt) (by omega) (by omega)).2)
      have p9 := P.2.2.2.2.2
      rw [if_pos q, q_letE (F_X1_laidBy X τ (q_rf X g 1) x1 x)]
      obtain ⟨n, hn⟩ : ∃ n, n = F_X1_laidBy X τ (q_rf X g 1) x1 x := ⟨_, rfl⟩
      rw [← hn] at lb8 ⊢
      have w1 := gm_deal Y G w (v1 := v1) (v2 := x) (v3 := n) hv1 rfl rfl H.1 ⟨x0, q⟩ (by omega) (by omega) (by omega)
      rw [q_letE (F_X1_deal X τ (q_rf X g 1) v1 x n), q_letE (x + 1)]
      have ex : (x + 1).toInt = x.toInt + 1 := y_inc (by omega)
      exact ih (x + 1) _ _ (by omega) w1 (by rw [ex]; exact gt_step H hp ⟨x0, q⟩ P lb8) (by omega) (by omega)
    · have ex : x.toInt = 10 := by omega
      rw [ex] at P
      rw [if_neg q]
      unfold F_X1_takeHeap_E34_4
      rw [q_letE (x1 + 1)]
      obtain ⟨P1, P2, P3, P4, P5, P6, P7⟩ := P
      refine ⟨τ, V, rfl, w, P1, P2, fun d d0 d1 => ?_, P4, P5, P6, by omega⟩
      rw [P3 d d0 d1, if_pos d1, if_neg (by omega)]
theorem gt_out (Y : y_S X lb) (G : y_G X lb g o) {t : Int} (H : gt_p V0 t) {v1 : Int32} (hv1 : v1.toInt = t) (fu : Nat) : ∀ (x : Int32) (τ : ST) (V : Nat → Int → Int), (2147483647 - x.toInt).toNat < fu → y_W X lb g o σ0 τ V → gt_v V0 V t x.toInt 0 → 0 ≤ x.toInt → x.toInt ≤ 6 →
    ∃ V' : Nat → Int → Int, y_W X lb g o σ0 (F_X1_takeHeap_L2_1 X (q_rf X g 1) v1 fu x τ) V' ∧ gt_V V0 V' t := by
  induction fu with
  | zero => intro x τ V h; exact absurd h (Nat.not_lt_zero _)
  | succ fu ih =>
    intro x τ V hf w P x0 x1'
    have z0 : (0 : Int32).toInt = 0 := rfl
    rw [F_X1_takeHeap_L2_1_s]
    unfold F_X1_takeHeap_B2_1
    by_cases q : x.toInt < 6
    · rw [if_pos q]
      obtain ⟨τ', V', e, w', P'⟩ := gt_in Y G H ⟨x0, q⟩ (x1 := x) rfl hv1 (F_X1_takeHeap_L2_1 X (q_rf X g 1) v1 fu) ((2147483647 - (0 : Int32).toInt).toNat + 1) 0 τ V (by decide) w (by rw [z0]; exact P) (by decide) (by decide)
      rw [e]
      have ex : (x + 1).toInt = x.toInt + 1 := y_inc (by omega)
      exact ih (x + 1) τ' V' (by omega) w' (by rw [ex]; exact P') (by omega) (by omega)
    · have ex : x.toInt = 6 := by omega
      rw [ex] at P
      rw [if_neg q]
      unfold F_X1_takeHeap_E40_2
      rw [q_letE (F_X5_clear X τ (q_rf X (q_rf X g 1) 1))]
      have w1 := w.clear Y G (id := 8) (r := q_rf X (q_rf X g 1) 1) ⟨by decide, by decide⟩ rfl
      obtain ⟨P1, P2, P3, P4, P5, P6, P7⟩ := P
      have r : ∀ (id : Nat) (j : Int), id ≠ 8 → y_bl V 8 ((y_gn 8 : Nat) : Int) (fun _ => 0) id j = V id j := fun id j h => if_neg (fun z => h z.1)
      refine ⟨_, w1, fun id j i7 i8 i9 => ?_, fun j hj => ?_, fun d d0 d1 => ?_, fun j hj => ?_, ?_, fun j j0 j1 => ?_⟩
      · rw [r id j i8]; exact P1 id j i7 i9
      · rw [r 7 j (by decide)]; exact P2 j hj
      · rw [r 7 _ (by decide), P3 d d0 d1, if_neg (by omega)]; rfl
      · rw [r 9 j (by decide)]; exact P4 j hj
      · rw [r 9 t (by decide), P5]
        exact (m_S_ext (fun j a b => r 7 j (by decide))).symm
      · exact if_pos ⟨rfl, j0, j1⟩
/-- the class's player takes the heap -/
theorem gm_takeHeap (Y : y_S X lb) (G : y_G X lb g o) (w : y_W X lb g o σ0 τ V) {t : Int} (H : gt_p V t) {v1 : Int32} (hv1 : v1.toInt = t) : ∃ V' : Nat → Int → Int, y_W X lb g o σ0 (F_X1_takeHeap X τ (q_rf X g 1) v1) V' ∧ gt_V V V' t := by
  have z0 : (0 : Int32).toInt = 0 := rfl
  unfold F_X1_takeHeap
  refine gt_out Y G H hv1 _ 0 τ V (by decide) w ?_ (by decide) (by decide)
  rw [z0]
  refine ⟨fun _ _ _ _ => rfl, fun _ _ => rfl, fun d d0 d1 => ?_, fun _ _ => rfl, H.2.2.1, H.2.2.2.1, by have := H.2.2.2.2; omega⟩
  rw [if_neg (by omega)]
  have e : gq (V 8) d (0 : Int).toNat = 0 := rfl
  omega
/-! the reference -/
def gt_c (c0 c : Int → Int) (p k i : Int) : Prop := (∀ j : Int, 0 ≤ j → ¬ (34 + 10 * p ≤ j ∧ j < 44 + 10 * p) → c j = c0 j) ∧ ∀ d : Int, 0 ≤ d → d < 10 → c (34 + 10 * p + d) = c0 (34 + 10 * p + d) + m_A c0 (-1) d k.toNat + m_K c0 (94 + 7 * k) d i.toNat
theorem gt_c.card {p k i d v : Int} (h : gt_c c0 c p k i) (hp : 0 ≤ p ∧ p < 6) (hk : 0 ≤ k) (hi : 0 ≤ i) (hd : 0 ≤ d ∧ d < 10) (ed : c0 (94 + 7 * k + 3 + i) = d) (hv : v = c (34 + 10 * p + d) + 1) : gt_c c0 (m_up c (34 + 10 * p + d) v) p k (i + 1) := by
  obtain ⟨h1, h2⟩ := h
  refine ⟨fun j j0 j1 => ?_, fun e e0 e1 => ?_⟩
  · rw [m_up_ne (by omega)]; exact h1 j j0 j1
  · rw [m_K_succ _ _ _ _ hi, ed]
    by_cases q : e = d
    · rw [q, m_up_eq, if_pos (Or.inr rfl), hv, h2 d hd.1 hd.2]
      omega
    · rw [m_up_ne (by omega), h2 e e0 e1, if_neg (by omega)]
      omega
theorem gt_c.lay {p k i : Int} (h : gt_c c0 c p k i) (hk : 0 ≤ k) (hi : i = c0 (94 + 7 * k + 2)) : gt_c c0 c p (k + 1) 0 := by
  obtain ⟨h1, h2⟩ := h
  refine ⟨h1, fun d d0 d1 => ?_⟩
  have z : m_K c0 (94 + 7 * (k + 1)) d (0 : Int).toNat = 0 := rfl
  rw [h2 d d0 d1, m_A_succ _ _ _ _ hk, if_neg (fun z => absurd z.1 (by decide)), hi, z]
  omega
theorem gr_in (g0 : m_G c0) {p k : Int} (hp : 0 ≤ p ∧ p < 6) (hk : 0 ≤ k ∧ k < c0 9) {v1 x1 rr : Int32} (hv1 : v1.toInt = p) (hr : rr.toInt = 94 + 7 * k) (Bf : Int32 → ST → ST) (fu : Nat) : ∀ (x : Int32) (τ : ST) (c : Int → Int), (2147483647 - x.toInt).toNat < fu → tkl (fun b _ => b = q_rf X a 20) (fun _ _ => False) τ0 τ → m_c X τ a = c → gt_c c0 c p k x.toInt → m_tk c0 c p k x.toInt → 0 ≤ x.toInt → x.toInt ≤ c0 (94 + 7 * k + 2) →
    ∃ (τ' : ST) (c' : Int → Int), F_X12_takes_L21_3 X rr a v1 x1 Bf fu x τ = Bf (x1 + 1) τ' ∧ tkl (fun b _ => b = q_rf X a 20) (fun _ _ => False) τ0 τ' ∧ m_c X τ' a = c' ∧ gt_c c0 c' p (k + 1) 0 ∧ m_tk c0 c' p (k + 1) 0 := by
  have e1 : (1 : Int32).toInt = 1 := rfl
  have e2 : (2 : Int32).toInt = 2 := rfl
  have e3 : (3 : Int32).toInt = 3 := rfl
  have e10 : (10 : Int32).toInt = 10 := rfl
  have e34 : (34 : Int32).toInt = 34 := rfl
  have b9 := g0.1.2.2.2.2.2.2.1
  have b0 := g0.1.1
  obtain ⟨y4, y5⟩ := g0.2.2.1 k hk.1 hk.2
  have i2 : (rr + 2).toInt = 94 + 7 * k + 2 := by rw [ar_add, hr, e2, ar_wr (by omega) (by omega)]
  have i3 : (rr + 3).toInt = 94 + 7 * k + 3 := by rw [ar_add, hr, e3, ar_wr (by omega) (by omega)]
  have i34 : ((34 : Int32) + 10 * v1).toInt = 34 + 10 * p := by
    rw [ar_add, ar_mul, hv1, e10, e34, ar_wr (n := 10 * p) (by omega) (by omega), ar_wr (by omega) (by omega)]
  induction fu with
  | zero => intro x τ c h; exact absurd h (Nat.not_lt_zero _)
  | succ fu ih =>
    intro x τ c hf t hc P D x0 x1'
    have r2 : (τ.1 (q_rf X a 20) (rr + 2).toNatClampNeg).toInt = c0 (94 + 7 * k + 2) := (gm_cell hc i2).trans (P.1 _ (by omega) (by omega))
    rw [F_X12_takes_L21_3_s]
    unfold F_X12_takes_B21_3
    rw [q_letE (rr + 2), q_letE (τ.1 (q_rf X a 20) (rr + 2).toNatClampNeg), r2]
    by_cases q : x.toInt < c0 (94 + 7 * k + 2)
    · have yd := y5 x.toInt x0 q
      have ei : (rr + 3 + x).toInt = 94 + 7 * k + 3 + x.toInt := by rw [ar_add, i3, ar_wr (by omega) (by omega)]
      have rd : (τ.1 (q_rf X a 20) (rr + 3 + x).toNatClampNeg).toInt = c0 (94 + 7 * k + 3 + x.toInt) := (gm_cell hc ei).trans (P.1 _ (by omega) (by omega))
      rw [if_pos q, q_letE ((10 : Int32) * v1), q_letE ((34 : Int32) + 10 * v1), q_letE (rr + 3), q_letE (rr + 3 + x), q_letE (τ.1 (q_rf X a 20) (rr + 3 + x).toNatClampNeg)]
      obtain ⟨f, hf1⟩ : ∃ f, f = τ.1 (q_rf X a 20) (rr + 3 + x).toNatClampNeg := ⟨_, rfl⟩
      rw [← hf1] at rd ⊢
      obtain ⟨d, hd⟩ : ∃ d, d = c0 (94 + 7 * k + 3 + x.toInt) := ⟨_, rfl⟩
      rw [← hd] at rd yd
      have ej : ((34 : Int32) + 10 * v1 + f).toInt = 34 + 10 * p + d := by rw [ar_add, i34, rd, ar_wr (by omega) (by omega)]
      have fh : (τ.1 (q_rf X a 20) ((34 : Int32) + 10 * v1 + f).toNatClampNeg).toInt = c (34 + 10 * p + d) := gm_cell hc ej
      have ab := g0.A_bd (-1) d k.toNat (by omega)
      have lb := g0.L80 hk.1 (by omega : k ≤ c0 9)
      have kb := m_K_bd c0 (94 + 7 * k) d x.toInt.toNat
      have hb := g0.h80 hp.1 hp.2 yd.1 (by omega : d < 10)
      have pd := P.2 d yd.1 (by omega)
      rw [q_letE ((34 : Int32) + 10 * v1 + f), q_letE (τ.1 (q_rf X a 20) ((34 : Int32) + 10 * v1 + f).toNatClampNeg)]
      obtain ⟨u, hu⟩ : ∃ u, u = τ.1 (q_rf X a 20) ((34 : Int32) + 10 * v1 + f).toNatClampNeg + 1 := ⟨_, rfl⟩
      have uv : u.toInt = c (34 + 10 * p + d) + 1 := by rw [hu, ar_add, fh, e1, ar_wr (by omega) (by omega)]
      rw [← hu, q_letE u, q_letE (q_si τ (q_rf X a 20) ((34 : Int32) + 10 * v1 + f).toNatClampNeg u), q_letE (x + 1)]
      have ex : (x + 1).toInt = x.toInt + 1 := y_inc (by omega)
      have c1 : m_c X (q_si τ (q_rf X a 20) ((34 : Int32) + 10 * v1 + f).toNatClampNeg u) a = m_up c (34 + 10 * p + d) u.toInt := by
        rw [m_c_up _ (by omega) ej, hc]
      exact ih (x + 1) _ _ (by omega) (t.si _ rfl) c1 (by rw [ex]; exact P.card hp hk.1 x0 ⟨yd.1, by omega⟩ hd.symm uv) (by rw [ex]; exact D.card hp yd (by omega) m_up_e uv) (by omega) (by omega)
    · rw [if_neg q]
      unfold F_X12_takes_E68_4
      rw [q_letE (x1 + 1)]
      exact ⟨τ, c, rfl, t, hc, P.lay hk.1 (by omega), D.lay hk.1 (by omega)⟩
theorem gr_out (g0 : m_G c0) (h7 : c0 7 = 0) {p : Int} (hp : 0 ≤ p ∧ p < 6) {v1 : Int32} (hv1 : v1.toInt = p) (fu : Nat) : ∀ (x : Int32) (τ : ST) (c : Int → Int), (2147483647 - x.toInt).toNat < fu → tkl (fun b _ => b = q_rf X a 20) (fun _ _ => False) τ0 τ → m_c X τ a = c → gt_c c0 c p x.toInt 0 → m_tk c0 c p x.toInt 0 → 0 ≤ x.toInt → x.toInt ≤ c0 9 →
    ∃ c' : Int → Int, m_c X (F_X12_takes_L2_1 X a v1 fu x τ) a = m_up c' 9 0 ∧ tkl (fun b _ => b = q_rf X a 20) (fun _ _ => False) τ0 (F_X12_takes_L2_1 X a v1 fu x τ) ∧ gt_c c0 c' p (c0 9) 0 ∧ m_G (m_up c' 9 0) := by
  have b9 := g0.1.2.2.2.2.2.2.1
  have z0 : (0 : Int32).toInt = 0 := rfl
  induction fu with
  | zero => intro x τ c h; exact absurd h (Nat.not_lt_zero _)
  | succ fu ih =>
    intro x τ c hf t hc P D x0 x1'
    have r9 : (τ.1 (q_rf X a 20) (9 : Int32).toNatClampNeg).toInt = c0 9 := (gm_cell (A := 9) hc rfl).trans (P.1 _ (by omega) (by omega))
    rw [F_X12_takes_L2_1_s]
    unfold F_X12_takes_B2_1
    rw [q_letE (τ.1 (q_rf X a 20) (9 : Int32).toNatClampNeg), r9]
    by_cases q : x.toInt < c0 9
    · have y4 := (g0.2.2.1 x.toInt x0 q).1
      rw [if_pos q, q_letE (F_X12_laid X τ x)]
      obtain ⟨τ', c', i1, i2, i3, i4, i5⟩ := gr_in (X := X) (a := a) (τ0 := τ0) g0 hp ⟨x0, q⟩ hv1 (x1 := x) (gm_laid (X := X) (τ := τ) (v := x) rfl ⟨x0, by omega⟩) (F_X12_takes_L2_1 X a v1 fu) ((2147483647 - (0 : Int32).toInt).toNat + 1) 0 τ c (by decide) t hc (by rw [z0]; exact P) (by rw [z0]; exact D) (by decide) (by rw [z0]; omega)
      rw [i1]
      have ex : (x + 1).toInt = x.toInt + 1 := y_inc (by omega)
      exact ih (x + 1) τ' c' (by omega) i2 i3 (by rw [ex]; exact i4) (by rw [ex]; exact i5) (by omega) (by omega)
    · have ex : x.toInt = c0 9 := by omega
      rw [ex] at P D
      rw [if_neg q]
      unfold F_X12_takes_E74_2
      rw [q_letE (q_si τ (q_rf X a 20) (9 : Int32).toNatClampNeg 0)]
      exact ⟨c, by rw [m_c_up 9 (by decide) rfl, hc, z0], t.si _ rfl, P, (D.done g0 hp h7 m_up_e rfl).1⟩
theorem gm_takes (g0 : m_G c) (h7 : c 7 = 0) (hc : m_c X τ a = c) {p : Int} (hp : 0 ≤ p ∧ p < 6) {v1 : Int32} (hv1 : v1.toInt = p) : ∃ c' : Int → Int, m_c X (F_X12_takes X τ a v1) a = m_up c' 9 0 ∧ tkl (fun b _ => b = q_rf X a 20) (fun _ _ => False) τ (F_X12_takes X τ a v1) ∧ gt_c c c' p (c 9) 0 ∧ m_G (m_up c' 9 0) := by
  have z0 : (0 : Int32).toInt = 0 := rfl
  have b9 := g0.1.2.2.2.2.2.2.1
  unfold F_X12_takes
  refine gr_out g0 h7 hp hv1 _ 0 τ c (by decide) tkl.rf hc ?_ (by rw [z0]; exact m_tk.start g0 hp) (by decide) (by rw [z0]; exact b9.1)
  rw [z0]
  refine ⟨fun _ _ _ => rfl, fun d d0 d1 => ?_⟩
  have e1 : m_A c (-1) d (0 : Int).toNat = 0 := rfl
  have e2 : m_K c (94 + 7 * 0) d (0 : Int).toNat = 0 := rfl
  omega
end GH

/-! FROM 49i.doubt.lean.txt -/
/-! A DOUBT: class and reference -/
def gd_nk (c : Int → Int) (k : Int) : Int := if c 3 = 1 then (k - 1) % c 0 else (k + 1) % c 0
/-- what a doubt leaves of the class's game: t takes, P had laid, kd falls, tn is next, W has won, u of P's cards shown were not true -/
def gd_V (V V' : Nat → Int → Int) (t P kd tn W u : Int) : Prop :=
  (∀ (id : Nat) (j : Int), id ≠ 0 → id ≠ 2 → id ≠ 7 → id ≠ 8 → id ≠ 9 → id ≠ 12 → id ≠ 13 → V' id j = V id j) ∧ (V' 0 4 = kd ∧ V' 0 5 = tn ∧ V' 0 6 = W ∧ V' 0 7 = 0) ∧ (V' 2 0 = 0 ∧ V' 2 1 = 0) ∧ (∀ j : Int, ¬ (10 * t ≤ j ∧ j < 10 * t + 10) → V' 7 j = V 7 j) ∧ (∀ d : Int, 0 ≤ d → d < 10 → V' 7 (10 * t + d) = V 7 (10 * t + d) + gq (V 8) d 6) ∧ (∀ j : Int, j ≠ t → V' 9 j = V 9 j) ∧ V' 9 t = m_S (V' 7) (10 * t) 10 ∧ (∀ j : Int, 0 ≤ j → j < 60 → V' 8 j = 0) ∧ ∀ j : Int, V' 12 j = (if j = P then V 12 j + 1 else V 12 j) ∧ V' 13 j = (if j = P then V 13 j + u else V 13 j)
def gd_C (c c' : Int → Int) (t P kd tn W u : Int) : Prop :=
  (∀ j : Int, 0 ≤ j → j ≠ 5 → j ≠ 6 → j ≠ 7 → j ≠ 8 → j ≠ 9 → j ≠ 22 + P → j ≠ 28 + P → ¬ (34 + 10 * t ≤ j ∧ j < 44 + 10 * t) → c' j = c j) ∧ (c' 5 = kd ∧ c' 6 = tn ∧ c' 7 = 0 ∧ c' 8 = W ∧ c' 9 = 0) ∧ c' (22 + P) = c (22 + P) + 1 ∧ c' (28 + P) = c (28 + P) + u ∧ ∀ d : Int, 0 ≤ d → d < 10 → c' (34 + 10 * t + d) = c (34 + 10 * t + d) + m_A c (-1) d (c 9).toNat
theorem rg.doubt {V V' : Nat → Int → Int} {c c' : Int → Int} {t P kd tn W u : Int} (R : rg V c) (hG : m_G c) (hP : 0 ≤ P ∧ P < 6) (ht : 0 ≤ t ∧ t < c 2) (hW : -1 ≤ W) (v : gd_V V V' t P kd tn W u) (r : gd_C c c' t P kd tn W u) : rg V' c' := by
  obtain ⟨b0, b2, b4, b5, b6, b7, b9, b79⟩ := hG.1
  obtain ⟨⟨t1, t2, t3, t4, t5, t6⟩, ⟨s1, s2, s3, s4⟩, hpp, ⟨g1, g2⟩, ⟨l1, l2, l3⟩, ⟨a1, a2⟩⟩ := R
  obtain ⟨P1, ⟨P2, P2b, P2c, P2d⟩, ⟨P3, P3b⟩, P4, P5, P6, P7, P8, P9⟩ := v
  obtain ⟨r1, ⟨r5, r6, r7, r8, r9⟩, r22, r28, rh⟩ := r
  have w : ∀ (id : Nat) (j : Int), id ≠ 0 → id ≠ 2 → id ≠ 7 → id ≠ 8 → id ≠ 9 → id ≠ 12 → id ≠ 13 → V' id j = V id j := P1
  have d : ∀ j : Int, 0 ≤ j → j < 34 → j ≠ 5 → j ≠ 6 → j ≠ 7 → j ≠ 8 → j ≠ 9 → j ≠ 22 + P → j ≠ 28 + P → c' j = c j := fun j j0 j1 j5 j6 j7 j8 j9 j22 j28 => r1 j j0 j5 j6 j7 j8 j9 j22 j28 (by omega)
  have e9 : (c' 9).toNat = 0 := by rw [r9]; rfl
  have qa : ∀ k : Int, 0 ≤ k → k < 10 → gq (V 8) k 6 = m_A c (-1) k (c 9).toNat := by
    intro k k0 k1
    have z := gq_A (c := c) (d := k) (c 9).toNat (fun i i0 i1 => (l3 i i0 (by omega)).2.2.2.1)
    have y0 := a1 0 k (by decide) (by decide) k0 k1
    have y1 := a1 1 k (by decide) (by decide) k0 k1
    have y2 := a1 2 k (by decide) (by decide) k0 k1
    have y3 := a1 3 k (by decide) (by decide) k0 k1
    have y4 := a1 4 k (by decide) (by decide) k0 k1
    have y5 := a1 5 k (by decide) (by decide) k0 k1
    show 0 + V 8 (10 * 0 + k) + V 8 (10 * 1 + k) + V 8 (10 * 2 + k) + V 8 (10 * 3 + k) + V 8 (10 * 4 + k) + V 8 (10 * 5 + k) = _
    omega
  have h7 : ∀ j : Int, 0 ≤ j → j < 60 → V' 7 j = c' (34 + j) := by
    intro j j0 j1
    by_cases e : 10 * t ≤ j ∧ j < 10 * t + 10
    · obtain ⟨q, hq⟩ : ∃ q, q = j - 10 * t := ⟨_, rfl⟩
      have ej : j = 10 * t + q := by omega
      subst ej
      have ec : (34 : Int) + (10 * t + q) = 34 + 10 * t + q := by omega
      have gg := g1 (10 * t + q) j0 j1
      rw [ec] at gg
      rw [ec, P5 q (by omega) (by omega), rh q (by omega) (by omega), gg, qa q (by omega) (by omega)]
    · rw [P4 j e, r1 _ (by omega) (by omega) (by omega) (by omega) (by omega) (by omega) (by omega) (by omega) (by omega)]
      exact g1 j j0 j1
  refine ⟨⟨?_, ?_, ?_, ?_, ?_, ?_⟩, ⟨?_, ?_, ?_, ?_⟩, fun q q0 q1 => ⟨?_, ?_, ?_, ?_⟩, ⟨h7, fun q q0 q1 => ?_⟩, ⟨?_, ?_, fun k k0 k1 => by omega⟩, ⟨fun q k q0 q1 k0 k1 => ?_, fun k k0 k1 => ?_⟩⟩
  · rw [w 1 0 (by decide) (by decide) (by decide) (by decide) (by decide) (by decide) (by decide), d 0 (by decide) (by decide) (by decide) (by decide) (by decide) (by decide) (by decide) (by omega) (by omega)]; exact t1
  · rw [w 1 1 (by decide) (by decide) (by decide) (by decide) (by decide) (by decide) (by decide), d 1 (by decide) (by decide) (by decide) (by decide) (by decide) (by decide) (by decide) (by omega) (by omega)]; exact t2
  · rw [w 1 2 (by decide) (by decide) (by decide) (by decide) (by decide) (by decide) (by decide), d 3 (by decide) (by decide) (by decide) (by decide) (by decide) (by decide) (by decide) (by omega) (by omega)]; exact t3
  · rw [w 1 3 (by decide) (by decide) (by decide) (by decide) (by decide) (by decide) (by decide), d 4 (by decide) (by decide) (by decide) (by decide) (by decide) (by decide) (by decide) (by omega) (by omega)]; exact t4
  · rw [w 1 4 (by decide) (by decide) (by decide) (by decide) (by decide) (by decide) (by decide), d 2 (by decide) (by decide) (by decide) (by decide) (by decide) (by decide) (by decide) (by omega) (by omega)]; exact t5
  · rw [d 3 (by decide) (by decide) (by decide) (by decide) (by decide) (by decide) (by decide) (by omega) (by omega)]; exact t6
  · rw [P2, r5]
  · rw [P2b, r6, d 2 (by decide) (by decide) (by decide) (by decide) (by decide) (by decide) (by decide) (by omega) (by omega), if_neg (by omega)]
  · rw [P2c, r8]; exact ⟨rfl, hW⟩
  · rw [P2d, r7]
  · rw [w 10 q (by decide) (by decide) (by decide) (by decide) (by decide) (by decide) (by decide), d _ (by omega) (by omega) (by omega) (by omega) (by omega) (by omega) (by omega) (by omega) (by omega)]; exact (hpp q q0 q1).1
  · rw [w 11 q (by decide) (by decide) (by decide) (by decide) (by decide) (by decide) (by decide), d _ (by omega) (by omega) (by omega) (by omega) (by omega) (by omega) (by omega) (by omega) (by omega)]; exact (hpp q q0 q1).2.1
  · rw [(P9 q).1]
    by_cases e : q = P
    · rw [if_pos e, e, r22, (hpp P hP.1 hP.2).2.2.1]
    · rw [if_neg e, d _ (by omega) (by omega) (by omega) (by omega) (by omega) (by omega) (by omega) (by omega) (by omega)]; exact (hpp q q0 q1).2.2.1
  · rw [(P9 q).2]
    by_cases e : q = P
    · rw [if_pos e, e, r28, (hpp P hP.1 hP.2).2.2.2]
    · rw [if_neg e, d _ (by omega) (by omega) (by omega) (by omega) (by omega) (by omega) (by omega) (by omega) (by omega)]; exact (hpp q q0 q1).2.2.2
  · by_cases e : q = t
    · rw [e, P7]
      have sh : ∀ n : Nat, n ≤ 10 → m_S (V' 7) (10 * t) n = m_S c' (34 + 10 * t) n := by
        intro n
        induction n with
        | zero => intro _; rfl
        | succ n ih =>
          intro hn
          show m_S (V' 7) (10 * t) n + V' 7 (10 * t + (n : Int)) = m_S c' (34 + 10 * t) n + c' (34 + 10 * t + (n : Int))
          rw [ih (by omega), h7 _ (by omega) (by omega)]
          have ec : (34 : Int) + (10 * t + (n : Int)) = 34 + 10 * t + (n : Int) := by omega
          rw [ec]
      exact sh 10 (Nat.le_refl 10)
    · rw [P6 q e, g2 q q0 q1]
      exact (m_S_ext (fun j x y => r1 j (by omega) (by omega) (by omega) (by omega) (by omega) (by omega) (by omega) (by omega) (by omega))).symm
  · rw [P3, r9]
  · rw [P3b, e9]; rfl
  · rw [P8 _ (by omega) (by omega), e9]; rfl
  · rw [w 4 k (by decide) (by decide) (by decide) (by decide) (by decide) (by decide) (by decide), a2 k k0 k1]
    unfold m_I
    have pp : m_P c' k (c 2).toNat = m_P c k (c 2).toNat - (if t < (((c 2).toNat : Nat) : Int) then -(m_A c (-1) k (c 9).toNat) else 0) := gl_P (l := fun d => -(m_A c (-1) d (c 9).toNat)) ht.1 (by rw [rh k k0 k1]; omega) (fun q q0 q1 q2 => r1 _ (by omega) (by omega) (by omega) (by omega) (by omega) (by omega) (by omega) (by omega) (by omega)) (c 2).toNat (by omega)
    rw [if_pos (by omega)] at pp
    have m0 : m_A c' (-1) k 0 = 0 := rfl
    rw [e9, d 2 (by decide) (by decide) (by decide) (by decide) (by decide) (by decide) (by decide) (by omega) (by omega), pp, m0]
    omega
section GI
variable {X : XW} {lb : Nat → Nat} {g o a : Nat} {σ τ σ0 τ0 : ST} {V V0 : Nat → Int → Int} {c c0 : Int → Int}
theorem gm_kindDoubt (w : y_W X lb g o σ0 σ V) (t0 : V 1 0 = c 0) (t2 : V 1 2 = c 3) (h0 : 2 ≤ c 0 ∧ c 0 ≤ 10) {x : Int32} {k : Int} (hx : x.toInt = k) (hk : 0 ≤ k ∧ k < c 0) : (F_X6_kindAfterDoubt X σ (q_rf X g 0) x).toInt = gd_nk c k := by
  have one : (1 : Int32).toInt = 1 := rfl
  have e2 : (σ.1 (q_rf X g 0) 2).toInt = c 3 := (w.rd (id := 1) (by decide) 2 rfl).trans t2
  have e0 : (σ.1 (q_rf X g 0) 0).toInt = c 0 := (w.rd (id := 1) (by decide) 0 rfl).trans t0
  unfold F_X6_kindAfterDoubt gd_nk
  rw [q_letE (σ.1 (q_rf X g 0) 0), e0, if_pos (by omega : 0 < c 0), q_letE (σ.1 (q_rf X g 0) 2), e2]
  by_cases q : c 3 = 1
  · rw [if_pos q, if_pos q, q_letE, q_letE, q_letE]
    exact gm_fm (by rw [ar_sub, hx, one, ar_wr (by omega) (by omega)]) e0 ⟨by omega, by omega⟩ ⟨by omega, by omega⟩
  · rw [if_neg q, if_neg q, q_letE, q_letE, q_letE]
    exact gm_fm (by rw [ar_add, hx, one, ar_wr (by omega) (by omega)]) e0 ⟨by omega, by omega⟩ ⟨by omega, by omega⟩
theorem gm_nextKind0 (hc : m_c X τ a = c) (h0 : 2 ≤ c 0 ∧ c 0 ≤ 10) (h5 : 0 ≤ c 5 ∧ c 5 < c 0) : (F_X12_nextKind X τ a 0).toInt = gd_nk c (c 5) := by
  have one : (1 : Int32).toInt = 1 := rfl
  have r0 : (τ.1 (q_rf X a 20) (0 : Int32).toNatClampNeg).toInt = c 0 := gm_cell hc rfl
  have r3 : (τ.1 (q_rf X a 20) (3 : Int32).toNatClampNeg).toInt = c 3 := gm_cell hc rfl
  have r5 : (τ.1 (q_rf X a 20) (5 : Int32).toNatClampNeg).toInt = c 5 := gm_cell hc rfl
  have rm : ∀ (x : Int32) (k : Int), x.toInt = k → 0 ≤ k → (x % τ.1 (q_rf X a 20) (0 : Int32).toNatClampNeg).toInt = k % c 0 := by
    intro x k hx h0'
    rw [Int32.toInt_mod, hx, r0, Int.tmod_eq_emod_of_nonneg h0']
  unfold F_X12_nextKind gd_nk
  rw [q_letE (τ.1 (q_rf X a 20) (0 : Int32).toNatClampNeg), q_letE (τ.1 (q_rf X a 20) (3 : Int32).toNatClampNeg), r3]
  by_cases q0 : c 3 = 0
  · rw [if_pos q0, if_neg (by omega), q_letE, q_letE, q_letE]
    exact rm _ _ (by rw [ar_add, r5, one, ar_wr (by omega) (by omega)]) (by omega)
  · rw [if_neg q0, q_letE (τ.1 (q_rf X a 20) (3 : Int32).toNatClampNeg), r3]
    by_cases q1 : c 3 = 1
    · rw [if_pos q1, q_letE (τ.1 (q_rf X a 20) (3 : Int32).toNatClampNeg), r3, if_pos q1, if_pos q1, q_letE, q_letE, q_letE, q_letE]
      rw [rm _ (c 5 + c 0 - 1) (by rw [ar_sub, ar_add, r5, r0, one, ar_wr (n := c 5 + c 0) (by omega) (by omega), ar_wr (by omega) (by omega)]) (by omega)]
      exact gm_back
    · rw [if_neg q1, if_neg q1, if_pos (by decide), q_letE, q_letE, q_letE]
      exact rm _ _ (by rw [ar_add, r5, one, ar_wr (by omega) (by omega)]) (by omega)
/-- behind the cards shown: the class -/
theorem gd_tail (Y : y_S X lb) (G : y_G X lb g o) (w : y_W X lb g o σ0 τ V) {t tn k : Int} (H : gt_p V t) {x4 x5 : Int32} (h4 : x4.toInt = t) (h5 : x5.toInt = tn) (t0 : V 1 0 = c 0) (t2 : V 1 2 = c 3) (h0 : 2 ≤ c 0 ∧ c 0 ≤ 10) (v4 : V 0 4 = k) (hk : 0 ≤ k ∧ k < c 0) :
    ∃ (σ' : ST) (V' VT : Nat → Int → Int), q_let (F_X1_takeHeap X τ (q_rf X g 1) x4 : ST) (fun σ_16 => q_let (F_X2_clear X σ_16 (q_rf X g 2) : ST) (fun σ_18 => q_let (q_si σ_18 g 7 (0 : Int32) : ST) (fun σ_19 => q_let (σ_19.1 g 4 : Int32) (fun f_20 => q_let (F_X6_kindAfterDoubt X σ_19 (q_rf X g 0) f_20 : Int32) (fun r_21 => q_let (q_si σ_19 g 4 r_21 : ST) (fun σ_23 => q_let (q_si σ_23 g 5 x5 : ST) (fun σ_24 => (x4, σ_24)))))))) = (x4, σ') ∧ y_W X lb g o σ0 σ' V' ∧ gt_V V VT t ∧ V' = y_up (y_up (y_up (y_up (y_up VT 2 0 0) 2 1 0) 0 7 0) 0 4 (gd_nk c k)) 0 5 tn := by
  have z0 : (0 : Int32).toInt = 0 := rfl
  obtain ⟨VT, w1, P⟩ := gm_takeHeap Y G w H h4
  rw [q_letE (F_X1_takeHeap X τ (q_rf X g 1) x4)]
  obtain ⟨τ1, e1⟩ : ∃ s, s = F_X1_takeHeap X τ (q_rf X g 1) x4 := ⟨_, rfl⟩
  rw [← e1] at w1 ⊢
  have d2 : F_X2_clear X τ1 (q_rf X g 2) = q_si (q_si τ1 (q_rf X g 2) 0 0) (q_rf X g 2) 1 0 := by
    unfold F_X2_clear
    rw [q_letE, q_letE]
  have w2 : y_W X lb g o σ0 (q_si τ1 (q_rf X g 2) 0 0) (y_up VT 2 0 0) := w1.si Y G (id := 2) (by decide) 0 0
  have w3 : y_W X lb g o σ0 (q_si (q_si τ1 (q_rf X g 2) 0 0) (q_rf X g 2) 1 0) (y_up (y_up VT 2 0 0) 2 1 0) := w2.si Y G (id := 2) (by decide) 1 0
  rw [← d2] at w3
  rw [q_letE (F_X2_clear X τ1 (q_rf X g 2))]
  obtain ⟨τ2, e2⟩ : ∃ s, s = F_X2_clear X τ1 (q_rf X g 2) := ⟨_, rfl⟩
  rw [← e2] at w3 ⊢
  have w4 : y_W X lb g o σ0 (q_si τ2 g 7 0) (y_up (y_up (y_up VT 2 0 0) 2 1 0) 0 7 0) := w3.si Y G (id := 0) (by decide) 7 0
  rw [q_letE (q_si τ2 g 7 0)]
  obtain ⟨τ3, e3⟩ : ∃ s, s = q_si τ2 g 7 0 := ⟨_, rfl⟩
  rw [← e3] at w4 ⊢
  have u : ∀ (id : Nat) (j : Int), id ≠ 2 → (id ≠ 0 ∨ j ≠ 7) → id ≠ 7 → id ≠ 8 → id ≠ 9 → y_up (y_up (y_up VT 2 0 0) 2 1 0) 0 7 0 id j = V id j := fun id j i2 i0 i7 i8 i9 => by
    rw [y_up_ne i0, y_up_ne (Or.inl i2), y_up_ne (Or.inl i2)]
    exact P.1 id j i7 i8 i9
  have f4 : (τ3.1 g 4).toInt = k := (w4.rd (id := 0) (by decide) 4 rfl).trans ((u 0 4 (by decide) (Or.inr (by decide)) (by decide) (by decide) (by decide)).trans v4)
  have kd := gm_kindDoubt (c := c) w4 ((u 1 0 (by decide) (Or.inl (by decide)) (by decide) (by decide) (by decide)).trans t0) ((u 1 2 (by decide) (Or.inl (by decide)) (by decide) (by decide) (by decide)).trans t2) h0 f4 hk
  rw [q_letE (τ3.1 g 4), q_letE (F_X6_kindAfterDoubt X τ3 (q_rf X g 0) (τ3.1 g 4))]
  obtain ⟨r, hr⟩ : ∃ r, r = F_X6_kindAfterDoubt X τ3 (q_rf X g 0) (τ3.1 g 4) := ⟨_, rfl⟩
  rw [← hr] at kd ⊢
  have w5 : y_W X lb g o σ0 (q_si τ3 g 4 r) (y_up (y_up (y_up (y_up VT 2 0 0) 2 1 0) 0 7 0) 0 4 r.toInt) := w4.si Y G (id := 0) (by decide) 4 r
  rw [kd] at w5
  rw [q_letE (q_si τ3 g 4 r)]
  obtain ⟨τ4, e4⟩ : ∃ s, s = q_si τ3 g 4 r := ⟨_, rfl⟩
  rw [← e4] at w5 ⊢
  have w6 : y_W X lb g o σ0 (q_si τ4 g 5 x5) (y_up (y_up (y_up (y_up (y_up VT 2 0 0) 2 1 0) 0 7 0) 0 4 (gd_nk c k)) 0 5 x5.toInt) := w5.si Y G (id := 0) (by decide) 5 x5
  rw [h5] at w6
  rw [q_letE (q_si τ4 g 5 x5)]
  exact ⟨_, _, VT, rfl, w6, P, rfl⟩
/-- a doubt in the class's game -/
theorem gm_challenge (Y : y_S X lb) (G : y_G X lb g o) (w : y_W X lb g o σ0 τ V) (R : rg V c) (hG : m_G c) (h7 : c 7 = 1) (hW : ∀ q : Int, 0 ≤ q → q < 6 → (0 ≤ c (22 + q) ∧ c (22 + q) ≤ 1000000) ∧ 0 ≤ c (28 + q) ∧ c (28 + q) ≤ 1000000) {v1 : Int32} {q : Int} (hv : v1.toInt = q) (hq : 0 ≤ q ∧ q < c 2) {s : Int} (hs : (F_X2_topTruth X τ (q_rf X g 2)).toInt = s) :
    ∃ (z : Int32) (σ' : ST) (V' : Nat → Int → Int), F_X0_challenge X τ g v1 = (z, σ') ∧ z.toInt = (if s = 0 then q else c 6) ∧ y_W X lb g o σ0 σ' V' ∧ gd_V V V' (if s = 0 then q else c 6) (c 6) (gd_nk c (c 5)) (if s = 0 then c 6 else q) (if s = 0 then (if m_S c (34 + 10 * c 6) 10 = 0 then c 6 else c 8) else c 8) (if s = 0 then 0 else 1) := by
  obtain ⟨b0, b2, b4, b5, b6, b7, b9, b79⟩ := hG.1
  have pr : 0 ≤ c 6 ∧ c 6 < c 2 := by omega
  obtain ⟨P, hP⟩ : ∃ P, P = c 6 := ⟨_, rfl⟩
  rw [← hP] at pr ⊢
  have R' := R
  obtain ⟨⟨t1, t2, t3, t4, t5, t6⟩, ⟨s1, s2, s3, s4⟩, hpp, ⟨g1, g2⟩, ⟨l1, l2, l3⟩, ⟨a1, a2⟩⟩ := R'
  have n2 : ¬ c 2 = 0 := by omega
  rw [if_neg n2, ← hP] at s2
  have z0 : (0 : Int32).toInt = 0 := rfl
  have one : (1 : Int32).toInt = 1 := rfl
  have gn12 : ((y_gn 12 : Nat) : Int) = 6 := rfl
  have gn13 : ((y_gn 13 : Nat) : Int) = 6 := rfl
  have hw := hW P pr.1 (by omega)
  have v12 : V 12 P = c (22 + P) := (hpp P pr.1 (by omega)).2.2.1
  have v13 : V 13 P = c (28 + P) := (hpp P pr.1 (by omega)).2.2.2
  -- who takes: bounds of the rows
  have gtp : ∀ (V1 : Nat → Int → Int) (t : Int), 0 ≤ t → t < 6 → (∀ j, V1 7 j = V 7 j) → (∀ j, V1 8 j = V 8 j) → (∀ j, V1 9 j = V 9 j) → gt_p V1 t := by
    intro V1 t h0 h1 e7 e8 e9
    have sh : ∀ n : Nat, n ≤ 10 → m_S (V1 7) (10 * t) n = m_S c (34 + 10 * t) n := by
      intro n
      induction n with
      | zero => intro _; rfl
      | succ n ih =>
        intro hn
        show m_S (V1 7) (10 * t) n + V1 7 (10 * t + (n : Int)) = m_S c (34 + 10 * t) n + c (34 + 10 * t + (n : Int))
        have ec : (34 : Int) + (10 * t + (n : Int)) = 34 + 10 * t + (n : Int) := by omega
        rw [ih (by omega), e7, g1 _ (by omega) (by omega), ec]
    have s80 := hG.S80 (p := t) (k := 10) h0 h1 (by decide) (by decide)
    have z10 : m_S c (34 + 10 * t) (10 : Int).toNat = m_S c (34 + 10 * t) 10 := rfl
    refine ⟨⟨h0, h1⟩, fun j j0 j1 => ⟨?_, ?_⟩, ?_, ?_⟩
    · rw [e7, g1 j j0 j1]
      have hh := hG.h80 (p := j / 10) (k := j % 10) (by omega) (by omega) (by omega) (by omega)
      have ej : 34 + 10 * (j / 10) + j % 10 = 34 + j := by omega
      rw [ej] at hh
      exact hh
    · rw [e8]
      have ej : 10 * (j / 10) + j % 10 = j := by omega
      have y := a1 (j / 10) (j % 10) (by omega) (by omega) (by omega) (by omega)
      rw [ej] at y
      have ab := hG.A_bd (j / 10) (j % 10) (c 9).toNat (by omega)
      have lb := hG.L80 b9.1 (Int.le_refl (c 9))
      rw [y]
      omega
    · rw [e9, g2 t h0 h1]
      exact (sh 10 (Nat.le_refl 10)).symm
    · rw [e9, g2 t h0 h1]
      omega
  -- turn and cards shown
  have f5 : (τ.1 g 5).toInt = P := (w.rd (id := 0) (by decide) 5 rfl).trans s2
  have w1 := w.add Y G (id := 12) (r := q_rf X (q_rf X g 1) 5) ⟨by decide, by decide⟩ rfl (τ.1 g 5) 1 (by omega) (by rw [gn12]; omega)
  rw [f5, one, ar_wr (by omega) (by omega)] at w1
  unfold F_X0_challenge
  rw [q_letE (F_X2_topTruth X τ (q_rf X g 2)), hs]
  by_cases hs0 : s = 0
  · rw [if_pos hs0, if_pos hs0, if_pos hs0, if_pos hs0, if_pos hs0]
    unfold F_X0_challenge_J15_1
    rw [if_neg (by decide : ¬ (1 : Int32).toInt = 0)]
    unfold F_X0_challenge_J28_2
    rw [if_neg (by decide : ¬ (1 : Int32).toInt = 0), q_letE (τ.1 g 5)]
    unfold F_X0_challenge_J41_3
    rw [q_letE (τ.1 g 5), q_letE (F_X5_add X τ (q_rf X (q_rf X g 1) 5) (τ.1 g 5) 1), if_neg (by decide : ¬ (1 : Int32).toInt = 0)]
    obtain ⟨τ1, e1⟩ : ∃ s, s = F_X5_add X τ (q_rf X (q_rf X g 1) 5) (τ.1 g 5) 1 := ⟨_, rfl⟩
    rw [← e1] at w1 ⊢
    have w2 := gm_winIfRid Y G w1 (p := P) ((y_up_ne (Or.inl (by decide))).trans s2) ⟨pr.1, by omega⟩
    have r9 : y_up V 12 P (V 12 P + 1) 9 P = m_S c (34 + 10 * P) 10 := (y_up_ne (Or.inl (by decide))).trans (g2 P pr.1 (by omega))
    have r6 : y_up V 12 P (V 12 P + 1) 0 6 = c 8 := (y_up_ne (Or.inl (by decide))).trans s3.1
    rw [r9, r6] at w2
    obtain ⟨W, hWn⟩ : ∃ W : Int, W = (if m_S c (34 + 10 * P) 10 = 0 then P else c 8) := ⟨_, rfl⟩
    rw [← hWn] at w2 ⊢
    rw [q_letE (F_X0_winIfRid X τ1 g)]
    obtain ⟨τ2, e2⟩ : ∃ s, s = F_X0_winIfRid X τ1 g := ⟨_, rfl⟩
    rw [← e2] at w2 ⊢
    obtain ⟨V1, hV1⟩ : ∃ v, v = y_up (y_up V 12 P (V 12 P + 1)) 0 6 W := ⟨_, rfl⟩
    rw [← hV1] at w2
    have u : ∀ (id : Nat) (j : Int), id ≠ 12 → (id ≠ 0 ∨ j ≠ 6) → V1 id j = V id j := fun id j i12 i0 => by
      rw [hV1, y_up_ne i0, y_up_ne (Or.inl i12)]
    obtain ⟨σ', V', VT, x1, x2, x3, x4⟩ := gd_tail (c := c) Y G w2 (t := q) (tn := P) (gtp V1 q hq.1 (by omega) (fun j => u 7 j (by decide) (Or.inl (by decide))) (fun j => u 8 j (by decide) (Or.inl (by decide))) (fun j => u 9 j (by decide) (Or.inl (by decide)))) (x4 := v1) (x5 := τ.1 g 5) hv f5 ((u 1 0 (by decide) (Or.inl (by decide))).trans t1) ((u 1 2 (by decide) (Or.inl (by decide))).trans t3) b0 ((u 0 4 (by decide) (Or.inr (by decide))).trans s1) b5
    refine ⟨v1, σ', V', x1, hv, x2, ?_⟩
    obtain ⟨y1, y2, y3, y4, y5, y6⟩ := x3
    have k : ∀ (id : Nat) (j : Int), id ≠ 0 → id ≠ 2 → V' id j = VT id j := fun id j i0 i2 => by
      rw [x4, y_up_ne (Or.inl i0), y_up_ne (Or.inl i0), y_up_ne (Or.inl i0), y_up_ne (Or.inl i2), y_up_ne (Or.inl i2)]
    have k7 : V' 7 = VT 7 := funext (fun j => k 7 j (by decide) (by decide))
    have k8 : V1 8 = V 8 := funext (fun j => u 8 j (by decide) (Or.inl (by decide)))
    refine ⟨fun id j i0 i2 i7 i8 i9 i12 i13 => ?_, ⟨?_, ?_, ?_, ?_⟩, ⟨?_, ?_⟩, fun j hj => ?_, fun d d0 d1 => ?_, fun j hj => ?_, ?_, fun j j0 j1 => ?_, fun j => ⟨?_, ?_⟩⟩
    · rw [k id j i0 i2, y1 id j i7 i8 i9]; exact u id j i12 (Or.inl i0)
    · rw [x4, y_up_ne (Or.inr (by decide)), y_up_eq]
    · rw [x4, y_up_eq]
    · rw [x4, y_up_ne (Or.inr (by decide)), y_up_ne (Or.inr (by decide)), y_up_ne (Or.inr (by decide)), y_up_ne (Or.inl (by decide)), y_up_ne (Or.inl (by decide)), y1 0 6 (by decide) (by decide) (by decide), hV1, y_up_eq]
    · rw [x4, y_up_ne (Or.inr (by decide)), y_up_ne (Or.inr (by decide)), y_up_eq]
    · rw [x4, y_up_ne (Or.inl (by decide)), y_up_ne (Or.inl (by decide)), y_up_ne (Or.inl (by decide)), y_up_ne (Or.inr (by decide)), y_up_eq]
    · rw [x4, y_up_ne (Or.inl (by decide)), y_up_ne (Or.inl (by decide)), y_up_ne (Or.inl (by decide)), y_up_eq]
    · rw [k7, y2 j hj]; exact u 7 j (by decide) (Or.inl (by decide))
    · rw [k7, y3 d d0 d1, k8, u 7 _ (by decide) (Or.inl (by decide))]
    · rw [k 9 j (by decide) (by decide), y4 j hj]; exact u 9 j (by decide) (Or.inl (by decide))
    · rw [k 9 q (by decide) (by decide), y5, k7]
    · rw [k 8 j (by decide) (by decide)]; exact y6 j j0 j1
    · rw [k 12 j (by decide) (by decide), y1 12 j (by decide) (by decide) (by decide), hV1, y_up_ne (Or.inl (by decide))]
      by_cases e : j = P
      · rw [if_pos e, e, y_up_eq]
      · rw [if_neg e, y_up_ne (Or.inr e)]
    · rw [k 13 j (by decide) (by decide), y1 13 j (by decide) (by decide) (by decide), u 13 j (by decide) (Or.inl (by decide))]
      split <;> omega
  · rw [if_neg hs0, if_neg hs0, if_neg hs0, if_neg hs0, if_neg hs0]
    unfold F_X0_challenge_J15_1
    rw [if_pos (by decide : (0 : Int32).toInt = 0), q_letE (τ.1 g 5)]
    unfold F_X0_challenge_J28_2
    rw [if_pos (by decide : (0 : Int32).toInt = 0)]
    unfold F_X0_challenge_J41_3
    rw [q_letE (τ.1 g 5), q_letE (F_X5_add X τ (q_rf X (q_rf X g 1) 5) (τ.1 g 5) 1), if_pos (by decide : (0 : Int32).toInt = 0)]
    obtain ⟨τ1, e1⟩ : ∃ s, s = F_X5_add X τ (q_rf X (q_rf X g 1) 5) (τ.1 g 5) 1 := ⟨_, rfl⟩
    rw [← e1] at w1 ⊢
    have f11 : (τ1.1 g 5).toInt = P := (w1.rd (id := 0) (by decide) 5 rfl).trans ((y_up_ne (Or.inl (by decide))).trans s2)
    have w2 := w1.add Y G (id := 13) (r := q_rf X (q_rf X g 1) 6) ⟨by decide, by decide⟩ rfl (τ1.1 g 5) 1 (by omega) (by rw [gn13]; omega)
    rw [f11, one, y_up_ne (Or.inl (by decide)), ar_wr (by omega) (by omega)] at w2
    rw [q_letE (τ1.1 g 5), q_letE (F_X5_add X τ1 (q_rf X (q_rf X g 1) 6) (τ1.1 g 5) 1)]
    obtain ⟨τ2, e2⟩ : ∃ s, s = F_X5_add X τ1 (q_rf X (q_rf X g 1) 6) (τ1.1 g 5) 1 := ⟨_, rfl⟩
    rw [← e2] at w2 ⊢
    obtain ⟨V1, hV1⟩ : ∃ v, v = y_up (y_up V 12 P (V 12 P + 1)) 13 P (V 13 P + 1) := ⟨_, rfl⟩
    rw [← hV1] at w2
    have u : ∀ (id : Nat) (j : Int), id ≠ 12 → id ≠ 13 → V1 id j = V id j := fun id j i12 i13 => by
      rw [hV1, y_up_ne (Or.inl i13), y_up_ne (Or.inl i12)]
    obtain ⟨σ', V', VT, x1, x2, x3, x4⟩ := gd_tail (c := c) Y G w2 (t := P) (tn := q) (gtp V1 P pr.1 (by omega) (fun j => u 7 j (by decide) (by decide)) (fun j => u 8 j (by decide) (by decide)) (fun j => u 9 j (by decide) (by decide))) (x4 := τ.1 g 5) (x5 := v1) f5 hv ((u 1 0 (by decide) (by decide)).trans t1) ((u 1 2 (by decide) (by decide)).trans t3) b0 ((u 0 4 (by decide) (by decide)).trans s1) b5
    refine ⟨τ.1 g 5, σ', V', x1, f5, x2, ?_⟩
    obtain ⟨y1, y2, y3, y4, y5, y6⟩ := x3
    have k : ∀ (id : Nat) (j : Int), id ≠ 0 → id ≠ 2 → V' id j = VT id j := fun id j i0 i2 => by
      rw [x4, y_up_ne (Or.inl i0), y_up_ne (Or.inl i0), y_up_ne (Or.inl i0), y_up_ne (Or.inl i2), y_up_ne (Or.inl i2)]
    have k7 : V' 7 = VT 7 := funext (fun j => k 7 j (by decide) (by decide))
    have k8 : V1 8 = V 8 := funext (fun j => u 8 j (by decide) (by decide))
    refine ⟨fun id j i0 i2 i7 i8 i9 i12 i13 => ?_, ⟨?_, ?_, ?_, ?_⟩, ⟨?_, ?_⟩, fun j hj => ?_, fun d d0 d1 => ?_, fun j hj => ?_, ?_, fun j j0 j1 => ?_, fun j => ⟨?_, ?_⟩⟩
    · rw [k id j i0 i2, y1 id j i7 i8 i9]; exact u id j i12 i13
    · rw [x4, y_up_ne (Or.inr (by decide)), y_up_eq]
    · rw [x4, y_up_eq]
    · rw [x4, y_up_ne (Or.inr (by decide)), y_up_ne (Or.inr (by decide)), y_up_ne (Or.inr (by decide)), y_up_ne (Or.inl (by decide)), y_up_ne (Or.inl (by decide)), y1 0 6 (by decide) (by decide) (by decide), u 0 6 (by decide) (by decide)]
      exact s3.1
    · rw [x4, y_up_ne (Or.inr (by decide)), y_up_ne (Or.inr (by decide)), y_up_eq]
    · rw [x4, y_up_ne (Or.inl (by decide)), y_up_ne (Or.inl (by decide)), y_up_ne (Or.inl (by decide)), y_up_ne (Or.inr (by decide)), y_up_eq]
    · rw [x4, y_up_ne (Or.inl (by decide)), y_up_ne (Or.inl (by decide)), y_up_ne (Or.inl (by decide)), y_up_eq]
    · rw [k7, y2 j hj]; exact u 7 j (by decide) (by decide)
    · rw [k7, y3 d d0 d1, k8, u 7 _ (by decide) (by decide)]
    · rw [k 9 j (by decide) (by decide), y4 j hj]; exact u 9 j (by decide) (by decide)
    · rw [k 9 P (by decide) (by decide), y5, k7]
    · rw [k 8 j (by decide) (by decide)]; exact y6 j j0 j1
    · rw [k 12 j (by decide) (by decide), y1 12 j (by decide) (by decide) (by decide), hV1, y_up_ne (Or.inl (by decide))]
      by_cases e : j = P
      · rw [if_pos e, e, y_up_eq]
      · rw [if_neg e, y_up_ne (Or.inr e)]
    · rw [k 13 j (by decide) (by decide), y1 13 j (by decide) (by decide) (by decide), hV1]
      by_cases e : j = P
      · rw [if_pos e, e, y_up_eq]
      · rw [if_neg e, y_up_ne (Or.inr e), y_up_ne (Or.inl (by decide))]
end GI

/-! FROM 49j.doubts.lean.txt -/
/-! A DOUBT: the reference, both -/
section GJ
variable {X : XW} {lb : Nat → Nat} {g o a : Nat} {σ τ σ0 τ0 : ST} {V V0 : Nat → Int → Int} {c c0 : Int → Int}
theorem gdr_tail (hG : m_G c) (h7 : c 7 = 0) (hc : m_c X τ a = c) {x y : Int32} {t tn : Int} (hx : x.toInt = t) (ht : 0 ≤ t ∧ t < c 2) (hy : y.toInt = tn) (htn : 0 ≤ tn ∧ tn < c 2) : ∃ ct : Int → Int, m_c X (q_si (q_si (F_X12_takes X τ a x) (q_rf X a 20) (5 : Int32).toNatClampNeg (F_X12_nextKind X (F_X12_takes X τ a x) a 0)) (q_rf X a 20) (6 : Int32).toNatClampNeg y) a = m_up (m_up (m_up ct 9 0) 5 (gd_nk c (c 5))) 6 tn ∧ tkl (fun b _ => b = q_rf X a 20) (fun _ _ => False) τ (q_si (q_si (F_X12_takes X τ a x) (q_rf X a 20) (5 : Int32).toNatClampNeg (F_X12_nextKind X (F_X12_takes X τ a x) a 0)) (q_rf X a 20) (6 : Int32).toNatClampNeg y) ∧ gt_c c ct t (c 9) 0 ∧ m_G (m_up (m_up (m_up ct 9 0) 5 (gd_nk c (c 5))) 6 tn) := by
  obtain ⟨b0, b2, b4, b5, b6, b7, b9, b79⟩ := hG.1
  obtain ⟨ct, i1, i2, i3, i4⟩ := gm_takes (X := X) (τ := τ) (a := a) hG h7 hc ⟨ht.1, by omega⟩ hx
  obtain ⟨τ1, e1⟩ : ∃ s, s = F_X12_takes X τ a x := ⟨_, rfl⟩
  rw [← e1] at i1 i2 ⊢
  have d : ∀ j : Int, 0 ≤ j → j < 9 → m_up ct 9 0 j = c j := fun j j0 j1 => by rw [m_up_ne (by omega)]; exact i3.1 j j0 (by omega)
  have nk := gm_nextKind0 i1 (by rw [d 0 (by decide) (by decide)]; exact b0) (by rw [d 5 (by decide) (by decide), d 0 (by decide) (by decide)]; exact b5)
  have ek : gd_nk (m_up ct 9 0) (m_up ct 9 0 5) = gd_nk c (c 5) := by
    unfold gd_nk
    rw [d 3 (by decide) (by decide), d 5 (by decide) (by decide), d 0 (by decide) (by decide)]
  rw [ek] at nk
  have kb : 0 ≤ gd_nk c (c 5) ∧ gd_nk c (c 5) < c 0 := by
    unfold gd_nk
    split
    · exact ⟨Int.emod_nonneg _ (by omega), Int.emod_lt_of_pos _ (by omega)⟩
    · exact ⟨Int.emod_nonneg _ (by omega), Int.emod_lt_of_pos _ (by omega)⟩
  have c2 : m_c X (q_si τ1 (q_rf X a 20) (5 : Int32).toNatClampNeg (F_X12_nextKind X τ1 a 0)) a = m_up (m_up ct 9 0) 5 (gd_nk c (c 5)) := by
    rw [m_c_up 5 (by decide) rfl, i1, nk]
  have t2 : tkl (fun b _ => b = q_rf X a 20) (fun _ _ => False) τ (q_si τ1 (q_rf X a 20) (5 : Int32).toNatClampNeg (F_X12_nextKind X τ1 a 0)) := i2.si _ rfl
  have g2 : m_G (m_up (m_up ct 9 0) 5 (gd_nk c (c 5))) := i4.wr m_up_e (by rw [d 0 (by decide) (by decide)]; omega)
  have g3 : m_G (m_up (m_up (m_up ct 9 0) 5 (gd_nk c (c 5))) 6 tn) := g2.wr m_up_e (by
    have q2 : m_up (m_up ct 9 0) 5 (gd_nk c (c 5)) 2 = c 2 := (m_up_ne (by decide)).trans (d 2 (by decide) (by decide))
    have q7 : m_up (m_up ct 9 0) 5 (gd_nk c (c 5)) 7 = c 7 := (m_up_ne (by decide)).trans (d 7 (by decide) (by decide))
    rw [q2, q7]
    omega)
  refine ⟨ct, ?_, t2.si _ rfl, i3, g3⟩
  rw [m_c_up 6 (by decide) rfl, c2, hy]
theorem gm_doubts (hc : m_c X τ a = c) (hG : m_G c) (h7 : c 7 = 1) (hW : ∀ q : Int, 0 ≤ q → q < 6 → (0 ≤ c (22 + q) ∧ c (22 + q) ≤ 1000000) ∧ 0 ≤ c (28 + q) ∧ c (28 + q) ≤ 1000000) {v1 : Int32} {q : Int} (hv : v1.toInt = q) (hq : 0 ≤ q ∧ q < c 2) {s : Int} (hs : (F_X12_sortOf X τ a (τ.1 (q_rf X a 20) (9 : Int32).toNatClampNeg - 1)).toInt = s) :
    ∃ (z : Int32) (τ' : ST) (c' : Int → Int), F_X12_doubts X τ a v1 = (z, τ') ∧ z.toInt = (if s = 0 then q else c 6) ∧ m_c X τ' a = c' ∧ tkl (fun b _ => b = q_rf X a 20) (fun _ _ => False) τ τ' ∧ gd_C c c' (if s = 0 then q else c 6) (c 6) (gd_nk c (c 5)) (if s = 0 then c 6 else q) (if s = 0 then (if m_S c (34 + 10 * c 6) 10 = 0 then c 6 else c 8) else c 8) (if s = 0 then 0 else 1) ∧ m_G c' := by
  obtain ⟨b0, b2, b4, b5, b6, b7, b9, b79⟩ := hG.1
  have pr : 0 ≤ c 6 ∧ c 6 < c 2 := by omega
  obtain ⟨P, hP⟩ : ∃ P, P = c 6 := ⟨_, rfl⟩
  rw [← hP] at pr ⊢
  have hw := hW P pr.1 (by omega)
  have z0 : (0 : Int32).toInt = 0 := rfl
  have one : (1 : Int32).toInt = 1 := rfl
  have e22 : (22 : Int32).toInt = 22 := rfl
  have e28 : (28 : Int32).toInt = 28 := rfl
  unfold F_X12_doubts
  rw [q_letE (τ.1 (q_rf X a 20) (6 : Int32).toNatClampNeg), q_letE (τ.1 (q_rf X a 20) (9 : Int32).toNatClampNeg), q_letE (τ.1 (q_rf X a 20) (9 : Int32).toNatClampNeg - 1), q_letE (F_X12_sortOf X τ a (τ.1 (q_rf X a 20) (9 : Int32).toNatClampNeg - 1)), hs]
  have f1 : (τ.1 (q_rf X a 20) (6 : Int32).toNatClampNeg).toInt = P := (gm_cell (A := 6) hc rfl).trans hP.symm
  obtain ⟨f, hf⟩ : ∃ f, f = τ.1 (q_rf X a 20) (6 : Int32).toNatClampNeg := ⟨_, rfl⟩
  rw [← hf] at f1 ⊢
  have c1 : m_c X (q_si τ (q_rf X a 20) (7 : Int32).toNatClampNeg 0) a = m_up c 7 0 := by rw [m_c_up 7 (by decide) rfl, hc, z0]
  have t1 : tkl (fun b _ => b = q_rf X a 20) (fun _ _ => False) τ (q_si τ (q_rf X a 20) (7 : Int32).toNatClampNeg 0) := tkl.rf.si _ rfl
  obtain ⟨τ1, e1⟩ : ∃ s, s = q_si τ (q_rf X a 20) (7 : Int32).toNatClampNeg 0 := ⟨_, rfl⟩
  have i22 : ((22 : Int32) + f).toInt = 22 + P := by rw [ar_add, e22, f1, ar_wr (by omega) (by omega)]
  have i28 : ((28 : Int32) + f).toInt = 28 + P := by rw [ar_add, e28, f1, ar_wr (by omega) (by omega)]
  rw [← e1] at c1 t1
  have r22 : (τ1.1 (q_rf X a 20) ((22 : Int32) + f).toNatClampNeg).toInt = c (22 + P) := (gm_cell c1 i22).trans (m_up_ne (by omega))
  obtain ⟨u, hu⟩ : ∃ u, u = τ1.1 (q_rf X a 20) ((22 : Int32) + f).toNatClampNeg + 1 := ⟨_, rfl⟩
  have uv : u.toInt = c (22 + P) + 1 := by rw [hu, ar_add, r22, one, ar_wr (by omega) (by omega)]
  have c2 : m_c X (q_si τ1 (q_rf X a 20) ((22 : Int32) + f).toNatClampNeg u) a = m_up (m_up c 7 0) (22 + P) (c (22 + P) + 1) := by rw [m_c_up _ (by omega) i22, c1, uv]
  have t2 : tkl (fun b _ => b = q_rf X a 20) (fun _ _ => False) τ (q_si τ1 (q_rf X a 20) ((22 : Int32) + f).toNatClampNeg u) := t1.si _ rfl
  obtain ⟨τ2, e2⟩ : ∃ s, s = q_si τ1 (q_rf X a 20) ((22 : Int32) + f).toNatClampNeg u := ⟨_, rfl⟩
  rw [← e2] at c2 t2
  have r28 : (τ2.1 (q_rf X a 20) ((28 : Int32) + f).toNatClampNeg).toInt = c (28 + P) := (gm_cell c2 i28).trans ((m_up_ne (by omega)).trans (m_up_ne (by omega)))
  have g1 : m_G (m_up c 7 0) := hG.wr m_up_e (by omega)
  have g2 : m_G (m_up (m_up c 7 0) (22 + P) (c (22 + P) + 1)) := g1.wr m_up_e (by omega)
  -- the head: for both answers the same
  have hd : ∀ x : Int32, F_X12_doubts_J29_1 X τ a f v1 x = (if x.toInt = 0 then q_let (τ2.1 (q_rf X a 20) ((28 : Int32) + f).toNatClampNeg + (1 : Int32) : Int32) (fun z_16 => q_let (q_si τ2 (q_rf X a 20) ((28 : Int32) + f).toNatClampNeg z_16 : ST) (fun σ_17 => if x.toInt = 0 then F_X12_doubts_J92_2 X x a f v1 σ_17 else q_let (F_X12_cardsOf X σ_17 a f : Int32) (fun r_45 => if r_45.toInt = 0 then q_let (q_si σ_17 (q_rf X a 20) (8 : Int32).toNatClampNeg f : ST) (fun σ_48 => F_X12_doubts_J92_2 X x a f v1 σ_48) else F_X12_doubts_J92_2 X x a f v1 σ_17))) else q_let (τ2.1 (q_rf X a 20) ((28 : Int32) + f).toNatClampNeg + (0 : Int32) : Int32) (fun z_49 => q_let (q_si τ2 (q_rf X a 20) ((28 : Int32) + f).toNatClampNeg z_49 : ST) (fun σ_50 => if x.toInt = 0 then F_X12_doubts_J92_5 X x a f v1 σ_50 else q_let (F_X12_cardsOf X σ_50 a f : Int32) (fun r_78 => if r_78.toInt = 0 then q_let (q_si σ_50 (q_rf X a 20) (8 : Int32).toNatClampNeg f : ST) (fun σ_81 => F_X12_doubts_J92_5 X x a f v1 σ_81) else F_X12_doubts_J92_5 X x a f v1 σ_50)))) := by
    intro x
    unfold F_X12_doubts_J29_1
    rw [q_letE (q_si τ (q_rf X a 20) (7 : Int32).toNatClampNeg 0), ← e1, q_letE ((22 : Int32) + f), q_letE (τ1.1 (q_rf X a 20) ((22 : Int32) + f).toNatClampNeg), q_letE (τ1.1 (q_rf X a 20) ((22 : Int32) + f).toNatClampNeg + 1), ← hu, q_letE (q_si τ1 (q_rf X a 20) ((22 : Int32) + f).toNatClampNeg u), ← e2, q_letE ((28 : Int32) + f), q_letE (τ2.1 (q_rf X a 20) ((28 : Int32) + f).toNatClampNeg)]
  by_cases hs0 : s = 0
  · rw [if_pos hs0, if_pos hs0, if_pos hs0, if_pos hs0, if_pos hs0, hd 1, if_neg (by decide : ¬ (1 : Int32).toInt = 0)]
    obtain ⟨u3, hu3⟩ : ∃ u, u = τ2.1 (q_rf X a 20) ((28 : Int32) + f).toNatClampNeg + 0 := ⟨_, rfl⟩
    have uv3 : u3.toInt = c (28 + P) + 0 := by rw [hu3, ar_add, r28, z0, ar_wr (by omega) (by omega)]
    rw [← hu3, q_letE u3, q_letE (q_si τ2 (q_rf X a 20) ((28 : Int32) + f).toNatClampNeg u3)]
    have c3 : m_c X (q_si τ2 (q_rf X a 20) ((28 : Int32) + f).toNatClampNeg u3) a = m_up (m_up (m_up c 7 0) (22 + P) (c (22 + P) + 1)) (28 + P) (c (28 + P) + 0) := by rw [m_c_up _ (by omega) i28, c2, uv3]
    have t3 : tkl (fun b _ => b = q_rf X a 20) (fun _ _ => False) τ (q_si τ2 (q_rf X a 20) ((28 : Int32) + f).toNatClampNeg u3) := t2.si _ rfl
    obtain ⟨τ3, e3⟩ : ∃ s, s = q_si τ2 (q_rf X a 20) ((28 : Int32) + f).toNatClampNeg u3 := ⟨_, rfl⟩
    rw [← e3] at c3 t3 ⊢
    have g3 : m_G (m_up (m_up (m_up c 7 0) (22 + P) (c (22 + P) + 1)) (28 + P) (c (28 + P) + 0)) := g2.wr m_up_e (by omega)
    obtain ⟨C3, hC3⟩ : ∃ C, C = m_up (m_up (m_up c 7 0) (22 + P) (c (22 + P) + 1)) (28 + P) (c (28 + P) + 0) := ⟨_, rfl⟩
    rw [← hC3] at c3 g3
    have d3 : ∀ j : Int, j ≠ 7 → j ≠ 22 + P → j ≠ 28 + P → C3 j = c j := fun j a1 a2 a3 => by rw [hC3, m_up_ne a3, m_up_ne a2, m_up_ne a1]
    have cd : (F_X12_cardsOf X τ3 a f).toInt = m_S c (34 + 10 * P) 10 := by
      rw [gm_cardsOf c3 g3 f1 ⟨pr.1, by omega⟩]
      exact m_S_ext (fun j a1 a2 => d3 j (by omega) (by omega) (by omega))
    rw [if_neg (by decide : ¬ (1 : Int32).toInt = 0), q_letE (F_X12_cardsOf X τ3 a f), cd]
    obtain ⟨W, hWn⟩ : ∃ W : Int, W = (if m_S c (34 + 10 * P) 10 = 0 then P else c 8) := ⟨_, rfl⟩
    rw [← hWn]
    have fin : ∀ (τ4 : ST) (C4 : Int → Int), m_c X τ4 a = C4 → m_G C4 → tkl (fun b _ => b = q_rf X a 20) (fun _ _ => False) τ τ4 → C4 8 = W → (∀ j : Int, j ≠ 8 → C4 j = C3 j) → ∃ (z : Int32) (τ' : ST) (c' : Int → Int), F_X12_doubts_J92_5 X 1 a f v1 τ4 = (z, τ') ∧ z.toInt = q ∧ m_c X τ' a = c' ∧ tkl (fun b _ => b = q_rf X a 20) (fun _ _ => False) τ τ' ∧ gd_C c c' q P (gd_nk c (c 5)) P W 0 ∧ m_G c' := by
      intro τ4 C4 c4 g4 t4 w4 o4
      have d4 : ∀ j : Int, j ≠ 7 → j ≠ 8 → j ≠ 22 + P → j ≠ 28 + P → C4 j = c j := fun j a1 a2 a3 a4 => by rw [o4 j a2, d3 j a1 a3 a4]
      obtain ⟨ct, y1, y2, y3, y4⟩ := gdr_tail (X := X) (τ := τ4) (a := a) g4 (by rw [o4 7 (by decide), hC3, m_up_ne (by omega), m_up_ne (by omega), m_up_eq]) c4 (x := v1) (y := f) hv (by rw [d4 2 (by decide) (by decide) (by omega) (by omega)]; exact hq) f1 (by rw [d4 2 (by decide) (by decide) (by omega) (by omega)]; exact pr)
      have ek : gd_nk C4 (C4 5) = gd_nk c (c 5) := by
        unfold gd_nk
        rw [d4 3 (by decide) (by decide) (by omega) (by omega), d4 5 (by decide) (by decide) (by omega) (by omega), d4 0 (by decide) (by decide) (by omega) (by omega)]
      rw [ek] at y1 y4
      unfold F_X12_doubts_J92_5
      rw [if_neg (by decide : ¬ (1 : Int32).toInt = 0), q_letE (F_X12_takes X τ4 a v1)]
      unfold F_X12_doubts_J105_7
      rw [q_letE (F_X12_nextKind X (F_X12_takes X τ4 a v1) a 0), q_letE (q_si (F_X12_takes X τ4 a v1) (q_rf X a 20) (5 : Int32).toNatClampNeg (F_X12_nextKind X (F_X12_takes X τ4 a v1) a 0)), if_neg (by decide : ¬ (1 : Int32).toInt = 0), q_letE, if_neg (by decide : ¬ (1 : Int32).toInt = 0)]
      have e9 : C4 9 = c 9 := d4 9 (by decide) (by decide) (by omega) (by omega)
      rw [e9] at y3
      have Ax : ∀ d : Int, m_A C4 (-1) d (c 9).toNat = m_A c (-1) d (c 9).toNat := fun d => (gm_Lx (c := c) (c' := C4) (n := (c 9).toNat) (fun i i0 i1 => ((hG.2.2.1 i i0 (by omega)).1).2) (fun j j0 j1 => d4 j (by omega) (by omega) (by omega) (by omega))).2 (-1) d
      refine ⟨v1, _, _, rfl, hv, y1, t4.tr y2, ⟨fun j j0 j5 j6 j7 j8 j9 j22 j28 jh => ?_, ⟨?_, ?_, ?_, ?_, ?_⟩, ?_, ?_, fun d d0 d1 => ?_⟩, y4⟩
      · rw [m_up_ne j6, m_up_ne j5, m_up_ne j9, y3.1 j j0 jh, d4 j j7 j8 j22 j28]
      · rw [m_up_ne (by decide), m_up_eq]
      · rw [m_up_eq]
      · rw [m_up_ne (by decide), m_up_ne (by decide), m_up_ne (by decide), y3.1 7 (by decide) (by omega), o4 7 (by decide), hC3, m_up_ne (by omega), m_up_ne (by omega), m_up_eq]
      · rw [m_up_ne (by decide), m_up_ne (by decide), m_up_ne (by decide), y3.1 8 (by decide) (by omega), w4]
      · rw [m_up_ne (by decide), m_up_ne (by decide), m_up_eq]
      · rw [m_up_ne (by omega), m_up_ne (by omega), m_up_ne (by omega), y3.1 _ (by omega) (by omega), o4 _ (by omega), hC3, m_up_ne (by omega), m_up_eq]
      · rw [m_up_ne (by omega), m_up_ne (by omega), m_up_ne (by omega), y3.1 _ (by omega) (by omega), o4 _ (by omega), hC3, m_up_eq]
      · have k0 : m_K C4 (94 + 7 * c 9) d (0 : Int).toNat = 0 := rfl
        rw [m_up_ne (by omega), m_up_ne (by omega), m_up_ne (by omega), y3.2 d d0 d1, Ax d, k0, d4 _ (by omega) (by omega) (by omega) (by omega)]
        omega
    by_cases q0 : m_S c (34 + 10 * P) 10 = 0
    · rw [if_pos q0] at hWn
      rw [if_pos q0, q_letE (q_si τ3 (q_rf X a 20) (8 : Int32).toNatClampNeg f)]
      refine fin _ (m_up C3 8 W) (by rw [m_c_up 8 (by decide) rfl, c3, f1, hWn]) (g3.wr m_up_e (by omega)) (t3.si _ rfl) (m_up_eq _ _ _) (fun j h => m_up_ne h)
    · rw [if_neg q0] at hWn
      rw [if_neg q0]
      refine fin τ3 C3 c3 g3 t3 (by rw [hWn]; exact d3 8 (by decide) (by omega) (by omega)) (fun j _ => rfl)
  · rw [if_neg hs0, if_neg hs0, if_neg hs0, if_neg hs0, if_neg hs0, hd 0, if_pos (by decide : (0 : Int32).toInt = 0)]
    obtain ⟨u3, hu3⟩ : ∃ u, u = τ2.1 (q_rf X a 20) ((28 : Int32) + f).toNatClampNeg + 1 := ⟨_, rfl⟩
    have uv3 : u3.toInt = c (28 + P) + 1 := by rw [hu3, ar_add, r28, one, ar_wr (by omega) (by omega)]
    rw [← hu3, q_letE u3, q_letE (q_si τ2 (q_rf X a 20) ((28 : Int32) + f).toNatClampNeg u3)]
    have c3 : m_c X (q_si τ2 (q_rf X a 20) ((28 : Int32) + f).toNatClampNeg u3) a = m_up (m_up (m_up c 7 0) (22 + P) (c (22 + P) + 1)) (28 + P) (c (28 + P) + 1) := by rw [m_c_up _ (by omega) i28, c2, uv3]
    have t3 : tkl (fun b _ => b = q_rf X a 20) (fun _ _ => False) τ (q_si τ2 (q_rf X a 20) ((28 : Int32) + f).toNatClampNeg u3) := t2.si _ rfl
    obtain ⟨τ4, e4⟩ : ∃ s, s = q_si τ2 (q_rf X a 20) ((28 : Int32) + f).toNatClampNeg u3 := ⟨_, rfl⟩
    rw [← e4] at c3 t3 ⊢
    have g4 : m_G (m_up (m_up (m_up c 7 0) (22 + P) (c (22 + P) + 1)) (28 + P) (c (28 + P) + 1)) := g2.wr m_up_e (by omega)
    obtain ⟨C4, hC4⟩ : ∃ C, C = m_up (m_up (m_up c 7 0) (22 + P) (c (22 + P) + 1)) (28 + P) (c (28 + P) + 1) := ⟨_, rfl⟩
    rw [← hC4] at c3 g4
    have d4 : ∀ j : Int, j ≠ 7 → j ≠ 22 + P → j ≠ 28 + P → C4 j = c j := fun j a1 a2 a3 => by rw [hC4, m_up_ne a3, m_up_ne a2, m_up_ne a1]
    rw [if_pos (by decide : (0 : Int32).toInt = 0)]
    obtain ⟨ct, y1, y2, y3, y4⟩ := gdr_tail (X := X) (τ := τ4) (a := a) g4 (by rw [hC4, m_up_ne (by omega), m_up_ne (by omega), m_up_eq]) c3 (x := f) (y := v1) f1 (by rw [d4 2 (by decide) (by omega) (by omega)]; exact pr) hv (by rw [d4 2 (by decide) (by omega) (by omega)]; exact hq)
    have ek : gd_nk C4 (C4 5) = gd_nk c (c 5) := by
      unfold gd_nk
      rw [d4 3 (by decide) (by omega) (by omega), d4 5 (by decide) (by omega) (by omega), d4 0 (by decide) (by omega) (by omega)]
    rw [ek] at y1 y4
    unfold F_X12_doubts_J92_2
    rw [if_pos (by decide : (0 : Int32).toInt = 0), q_letE (F_X12_takes X τ4 a f)]
    unfold F_X12_doubts_J105_3
    rw [q_letE (F_X12_nextKind X (F_X12_takes X τ4 a f) a 0), q_letE (q_si (F_X12_takes X τ4 a f) (q_rf X a 20) (5 : Int32).toNatClampNeg (F_X12_nextKind X (F_X12_takes X τ4 a f) a 0)), if_pos (by decide : (0 : Int32).toInt = 0), q_letE, if_pos (by decide : (0 : Int32).toInt = 0)]
    have e9 : C4 9 = c 9 := d4 9 (by decide) (by omega) (by omega)
    rw [e9] at y3
    have Ax : ∀ d : Int, m_A C4 (-1) d (c 9).toNat = m_A c (-1) d (c 9).toNat := fun d => (gm_Lx (c := c) (c' := C4) (n := (c 9).toNat) (fun i i0 i1 => ((hG.2.2.1 i i0 (by omega)).1).2) (fun j j0 j1 => d4 j (by omega) (by omega) (by omega))).2 (-1) d
    refine ⟨f, _, _, rfl, f1, y1, t3.tr y2, ⟨fun j j0 j5 j6 j7 j8 j9 j22 j28 jh => ?_, ⟨?_, ?_, ?_, ?_, ?_⟩, ?_, ?_, fun d d0 d1 => ?_⟩, y4⟩
    · rw [m_up_ne j6, m_up_ne j5, m_up_ne j9, y3.1 j j0 jh, d4 j j7 j22 j28]
    · rw [m_up_ne (by decide), m_up_eq]
    · rw [m_up_eq]
    · rw [m_up_ne (by decide), m_up_ne (by decide), m_up_ne (by decide), y3.1 7 (by decide) (by omega), hC4, m_up_ne (by omega), m_up_ne (by omega), m_up_eq]
    · rw [m_up_ne (by decide), m_up_ne (by decide), m_up_ne (by decide), y3.1 8 (by decide) (by omega), d4 8 (by decide) (by omega) (by omega)]
    · rw [m_up_ne (by decide), m_up_ne (by decide), m_up_eq]
    · rw [m_up_ne (by omega), m_up_ne (by omega), m_up_ne (by omega), y3.1 _ (by omega) (by omega), hC4, m_up_ne (by omega), m_up_eq]
    · rw [m_up_ne (by omega), m_up_ne (by omega), m_up_ne (by omega), y3.1 _ (by omega) (by omega), hC4, m_up_eq]
    · have k0 : m_K C4 (94 + 7 * c 9) d (0 : Int).toNat = 0 := rfl
      rw [m_up_ne (by omega), m_up_ne (by omega), m_up_ne (by omega), y3.2 d d0 d1, Ax d, k0, d4 _ (by omega) (by omega) (by omega)]
      omega
/-- both games behind a doubt -/
theorem gm_doubt2 (Y : y_S X lb) (G : y_G X lb g o) (w : y_W X lb g o σ0 σ V) (R : rg V c) (hc : m_c X τ a = c) (hG : m_G c) (h7 : c 7 = 1) (hW : ∀ q : Int, 0 ≤ q → q < 6 → (0 ≤ c (22 + q) ∧ c (22 + q) ≤ 1000000) ∧ 0 ≤ c (28 + q) ∧ c (28 + q) ≤ 1000000) {v v' : Int32} {q : Int} (hv : v.toInt = q) (hv' : v'.toInt = q) (hq : 0 ≤ q ∧ q < c 2) :
    ∃ (z z' : Int32) (σ' τ' : ST) (V' : Nat → Int → Int) (c' : Int → Int) (t P kd tn W u : Int), F_X0_challenge X σ g v = (z, σ') ∧ F_X12_doubts X τ a v' = (z', τ') ∧ z.toInt = t ∧ z'.toInt = t ∧ (t = q ∨ t = c 6) ∧ y_W X lb g o σ0 σ' V' ∧ m_c X τ' a = c' ∧ tkl (fun b _ => b = q_rf X a 20) (fun _ _ => False) τ τ' ∧ rg V' c' ∧ m_G c' ∧ gd_V V V' t P kd tn W u ∧ gd_C c c' t P kd tn W u ∧ P = c 6 ∧ (t = P ↔ ¬ (F_X2_topTruth X σ (q_rf X g 2)).toInt = 0 ∨ q = P) ∧ (u = 0 ∨ u = 1) := by
  obtain ⟨b0, b2, b4, b5, b6, b7, b9, b79⟩ := hG.1
  have one : (1 : Int32).toInt = 1 := rfl
  have r9 : (τ.1 (q_rf X a 20) (9 : Int32).toNatClampNeg).toInt = c 9 := gm_cell (A := 9) hc rfl
  have f20 : (σ.1 (q_rf X g 2) 0).toInt = c 9 := (w.rd (id := 2) (by decide) 0 rfl).trans R.2.2.2.2.1.1
  have so := rg.sort Y G w R hG hc (v1 := σ.1 (q_rf X g 2) 0 - 1) (v1' := τ.1 (q_rf X a 20) (9 : Int32).toNatClampNeg - 1) (k := c 9 - 1) (by rw [ar_sub, f20, one, ar_wr (by omega) (by omega)]) (by rw [ar_sub, r9, one, ar_wr (by omega) (by omega)]) ⟨by omega, by omega⟩
  obtain ⟨s, hs⟩ : ∃ s, s = (F_X12_sortOf X τ a (τ.1 (q_rf X a 20) (9 : Int32).toNatClampNeg - 1)).toInt := ⟨_, rfl⟩
  have tt : (F_X2_topTruth X σ (q_rf X g 2)).toInt = s := by
    unfold F_X2_topTruth
    rw [q_letE, q_letE, q_letE]
    exact so.1.trans hs.symm
  obtain ⟨z, σ', V', x1, x2, x3, x4⟩ := gm_challenge Y G w R hG h7 hW hv hq tt
  obtain ⟨z', τ', c', y1, y2, y3, y4, y5, y6⟩ := gm_doubts hc hG h7 hW hv' hq hs.symm
  have rr := rg.doubt R hG (P := c 6) ⟨by omega, by omega⟩ (by split <;> omega) (by have w8 := R.2.1.2.2.1.2; split <;> (try split) <;> omega) x4 y5
  refine ⟨z, z', σ', τ', V', c', _, _, _, _, _, _, x1, y1, x2, y2, ?_, x3, y3, y4, rr, y6, x4, y5, rfl, ?_, ?_⟩
  · split
    · exact Or.inl rfl
    · exact Or.inr rfl
  · rw [tt]
    by_cases e : s = 0
    · rw [if_pos e]
      constructor
      · intro h; exact Or.inr h
      · rintro (h | h)
        · exact absurd e h
        · exact h
    · rw [if_neg e]
      exact ⟨fun _ => Or.inl e, fun _ => rfl⟩
  · split
    · exact Or.inl rfl
    · exact Or.inr rfl
end GJ

/-! FROM 49k.look.lean.txt -/
/-! WHAT IS LOOKED UP -/
/-- the relation speaks of what a copy takes along -/
theorem rg.x {V V' : Nat → Int → Int} {c c' : Int → Int} (R : rg V c) (hG : m_G c) (hV : ∀ (id : Nat) (i : Int), y_in y_all id i → V' id i = V id i) (hc : ∀ j : Int, 0 ≤ j → j < 654 → c' j = c j) : rg V' c' := by
  obtain ⟨⟨t1, t2, t3, t4, t5, t6⟩, ⟨s1, s2, s3, s4⟩, hpp, ⟨g1, g2⟩, ⟨l1, l2, l3⟩, ⟨a1, a2⟩⟩ := R
  obtain ⟨b0, b2, b4, b5, b6, b7, b9, b79⟩ := hG.1
  have cell : ∀ (id f : Nat), (id, f) ∈ y_all → f ≠ 99 → V' id (f : Int) = V id (f : Int) := fun id f h h9 => hV id _ ⟨(id, f), h, rfl, Or.inr ⟨h9, rfl⟩⟩
  have row : ∀ (id : Nat) (i : Int), (id, 99) ∈ y_all → 0 ≤ i → i < ((y_gn id : Nat) : Int) → V' id i = V id i := fun id i h i0 i1 => hV id i ⟨(id, 99), h, rfl, Or.inl ⟨rfl, i0, i1⟩⟩
  have n4 : ((y_gn 4 : Nat) : Int) = 10 := rfl
  have n7 : ((y_gn 7 : Nat) : Int) = 60 := rfl
  have n8 : ((y_gn 8 : Nat) : Int) = 60 := rfl
  have n9 : ((y_gn 9 : Nat) : Int) = 6 := rfl
  have n10 : ((y_gn 10 : Nat) : Int) = 6 := rfl
  have n11 : ((y_gn 11 : Nat) : Int) = 6 := rfl
  have n12 : ((y_gn 12 : Nat) : Int) = 6 := rfl
  have n13 : ((y_gn 13 : Nat) : Int) = 6 := rfl
  have n14 : ((y_gn 14 : Nat) : Int) = 80 := rfl
  have n15 : ((y_gn 15 : Nat) : Int) = 80 := rfl
  have n16 : ((y_gn 16 : Nat) : Int) = 80 := rfl
  have n17 : ((y_gn 17 : Nat) : Int) = 320 := rfl
  have e9 : c' 9 = c 9 := hc 9 (by decide) (by decide)
  have e2 : c' 2 = c 2 := hc 2 (by decide) (by decide)
  have Lx := gm_Lx (c := c) (c' := c') (n := (c 9).toNat) (fun i i0 i1 => ((hG.2.2.1 i i0 (by omega)).1).2) (fun j j0 j1 => hc j (by omega) (by omega))
  have Px : ∀ (k : Int) (n : Nat), 0 ≤ k → k < 10 → n ≤ 6 → m_P c' k n = m_P c k n := by
    intro k n k0 k1
    induction n with
    | zero => intro _; rfl
    | succ n ih =>
      intro hn
      show m_P c' k n + c' (34 + 10 * (n : Int) + k) = m_P c k n + c (34 + 10 * (n : Int) + k)
      rw [ih (by omega), hc _ (by omega) (by omega)]
  refine ⟨⟨?_, ?_, ?_, ?_, ?_, ?_⟩, ⟨?_, ?_, ?_, ?_⟩, fun q q0 q1 => ⟨?_, ?_, ?_, ?_⟩, ⟨fun j j0 j1 => ?_, fun q q0 q1 => ?_⟩, ⟨?_, ?_, fun k k0 k1 => ?_⟩, ⟨fun q k q0 q1 k0 k1 => ?_, fun k k0 k1 => ?_⟩⟩
  · rw [hc 0 (by decide) (by decide)]; exact (cell 1 0 (by decide) (by decide)).trans t1
  · rw [hc 1 (by decide) (by decide)]; exact (cell 1 1 (by decide) (by decide)).trans t2
  · rw [hc 3 (by decide) (by decide)]; exact (cell 1 2 (by decide) (by decide)).trans t3
  · rw [hc 4 (by decide) (by decide)]; exact (cell 1 3 (by decide) (by decide)).trans t4
  · rw [e2]; exact (cell 1 4 (by decide) (by decide)).trans t5
  · rw [hc 3 (by decide) (by decide)]; exact t6
  · rw [hc 5 (by decide) (by decide)]; exact (cell 0 4 (by decide) (by decide)).trans s1
  · rw [e2, hc 6 (by decide) (by decide)]; exact (cell 0 5 (by decide) (by decide)).trans s2
  · rw [hc 8 (by decide) (by decide)]; exact ⟨(cell 0 6 (by decide) (by decide)).trans s3.1, s3.2⟩
  · rw [hc 7 (by decide) (by decide)]; exact (cell 0 7 (by decide) (by decide)).trans s4
  · rw [row 10 q (by decide) q0 (by omega), hc _ (by omega) (by omega)]; exact (hpp q q0 q1).1
  · rw [row 11 q (by decide) q0 (by omega), hc _ (by omega) (by omega)]; exact (hpp q q0 q1).2.1
  · rw [row 12 q (by decide) q0 (by omega), hc _ (by omega) (by omega)]; exact (hpp q q0 q1).2.2.1
  · rw [row 13 q (by decide) q0 (by omega), hc _ (by omega) (by omega)]; exact (hpp q q0 q1).2.2.2
  · rw [row 7 j (by decide) j0 (by omega), hc _ (by omega) (by omega)]; exact g1 j j0 j1
  · rw [row 9 q (by decide) q0 (by omega), g2 q q0 q1]
    exact (m_S_ext (fun j x y => hc j (by omega) (by omega))).symm
  · rw [e9]; exact (cell 2 0 (by decide) (by decide)).trans l1
  · rw [e9, Lx.1]; exact (cell 2 1 (by decide) (by decide)).trans l2
  · rw [e9] at k1
    obtain ⟨y1, y2, y3, y5, y4⟩ := l3 k k0 k1
    have z4 := ((hG.2.2.1 k k0 k1).1).2
    rw [row 14 k (by decide) k0 (by omega), row 15 k (by decide) k0 (by omega), row 16 k (by decide) k0 (by omega), hc (94 + 7 * k) (by omega) (by omega), hc (94 + 7 * k + 1) (by omega) (by omega), hc (94 + 7 * k + 2) (by omega) (by omega)]
    refine ⟨y1, y2, y3, y5, fun i i0 i1 => ?_⟩
    rw [row 17 _ (by decide) (by omega) (by omega), hc _ (by omega) (by omega)]
    exact y4 i i0 i1
  · rw [row 8 _ (by decide) (by omega) (by omega), e9, Lx.2]; exact a1 q k q0 q1 k0 k1
  · rw [row 4 k (by decide) k0 (by omega), a2 k k0 k1]
    unfold m_I
    rw [e9, e2, Lx.2, Px k _ k0 k1 (by omega)]
/-- what a copy doesn't take along doesn't count -/
theorem rg.w {V V' : Nat → Int → Int} {c : Int → Int} (R : rg V c) (hG : m_G c) (hV : ∀ (id : Nat) (i : Int), id ≠ 23 → id ≠ 24 → (id ≠ 0 ∨ i ≤ 7) → V' id i = V id i) : rg V' c := by
  have a : ∀ e ∈ y_all, e.1 ≠ 23 ∧ e.1 ≠ 24 ∧ (e.1 ≠ 0 ∨ e.2 ≤ 7) := by decide
  refine R.x hG (fun id i h => ?_) (fun _ _ _ => rfl)
  obtain ⟨e, h1, h2, h3⟩ := h
  obtain ⟨x1, x2, x3⟩ := a e h1
  subst h2
  refine hV _ i x1 x2 ?_
  rcases x3 with x3 | x3
  · exact Or.inl x3
  · rcases h3 with h3 | h3
    · exact absurd h3.1 (by omega)
    · exact Or.inr (by omega)
section GK
variable {X : XW} {lb : Nat → Nat} {C a o : Nat} {σ τ σ0 τ0 : ST} {V V0 : Nat → Int → Int} {c c0 : Int → Int}
theorem lk_player (w : y_W X lb (q_rf X C 8) o σ0 σ V) (v : Int32) : (F_X11_isPlayer X σ C v).toInt = if 0 ≤ v.toInt ∧ v.toInt < V 1 4 then 1 else 0 := by
  have e : (σ.1 (q_rf X (q_rf X C 8) 0) 4).toInt = V 1 4 := w.rd (id := 1) (by decide) 4 rfl
  unfold F_X11_isPlayer
  by_cases q : v.toInt < 0
  · rw [if_pos q, if_neg (by omega)]; rfl
  · rw [if_neg q, q_letE, e]
    by_cases q2 : v.toInt < V 1 4
    · rw [if_pos q2, if_pos ⟨by omega, q2⟩]; rfl
    · rw [if_neg q2, if_neg (fun z => q2 z.2)]; rfl
theorem lk_kind (w : y_W X lb (q_rf X C 8) o σ0 σ V) (v : Int32) : (F_X11_isKind X σ C v).toInt = if 0 ≤ v.toInt ∧ v.toInt < V 1 0 then 1 else 0 := by
  have e : (σ.1 (q_rf X (q_rf X C 8) 0) 0).toInt = V 1 0 := w.rd (id := 1) (by decide) 0 rfl
  unfold F_X11_isKind
  by_cases q : v.toInt < 0
  · rw [if_pos q, if_neg (by omega)]; rfl
  · rw [if_neg q, q_letE, e]
    by_cases q2 : v.toInt < V 1 0
    · rw [if_pos q2, if_pos ⟨by omega, q2⟩]; rfl
    · rw [if_neg q2, if_neg (fun z => q2 z.2)]; rfl
theorem lk_kindNone (w : y_W X lb (q_rf X C 8) o σ0 σ V) (v : Int32) : (F_X11_isKindOrNone X σ C v).toInt = if v.toInt = -1 ∨ (0 ≤ v.toInt ∧ v.toInt < V 1 0) then 1 else 0 := by
  unfold F_X11_isKindOrNone
  by_cases q : v.toInt = -1
  · rw [if_pos q, if_pos (Or.inl q)]; rfl
  · rw [if_neg q, q_letE, lk_kind w]
    by_cases q2 : 0 ≤ v.toInt ∧ v.toInt < V 1 0
    · rw [if_pos q2, if_neg (by decide), if_pos (Or.inr q2)]; rfl
    · rw [if_neg q2, if_pos rfl, if_neg (by omega)]; rfl
theorem lk_playerAt (hc : m_c X τ a = c) (h2 : 0 ≤ c 2 ∧ c 2 ≤ 6) (v : Int32) : (F_X12_isPlayerAt X τ a v).toInt = if 0 ≤ v.toInt ∧ v.toInt < c 2 then 1 else 0 := by
  have one : (1 : Int32).toInt = 1 := rfl
  have z0 : (0 : Int64).toInt = 0 := rfl
  have r2 : (τ.1 (q_rf X a 20) (2 : Int32).toNatClampNeg).toInt = c 2 := gm_cell (A := 2) hc rfl
  unfold F_X12_isPlayerAt
  rw [q_letE, q_letE, q_letE, q_letE, q_letE, tm_isIn, ar_i2l, ar_i2l, z0, ar_sub, r2, one, ar_wr (by omega) (by omega)]
  by_cases q : 0 ≤ v.toInt ∧ v.toInt < c 2
  · rw [if_pos q, if_pos (by omega)]
  · rw [if_neg q, if_neg (by omega)]
theorem lk_kindAt (hc : m_c X τ a = c) (h0 : 2 ≤ c 0 ∧ c 0 ≤ 10) (v : Int32) : (F_X12_isKindAt X τ a v).toInt = if 0 ≤ v.toInt ∧ v.toInt < c 0 then 1 else 0 := by
  have one : (1 : Int32).toInt = 1 := rfl
  have z0 : (0 : Int64).toInt = 0 := rfl
  have r2 : (τ.1 (q_rf X a 20) (0 : Int32).toNatClampNeg).toInt = c 0 := gm_cell (A := 0) hc rfl
  unfold F_X12_isKindAt
  rw [q_letE, q_letE, q_letE, q_letE, q_letE, tm_isIn, ar_i2l, ar_i2l, z0, ar_sub, r2, one, ar_wr (by omega) (by omega)]
  by_cases q : 0 ≤ v.toInt ∧ v.toInt < c 0
  · rw [if_pos q, if_pos (by omega)]
  · rw [if_neg q, if_neg (by omega)]
theorem lk_six (v : Int32) : (F_X11_isSixteenths X σ v).toInt = if 0 ≤ v.toInt ∧ v.toInt ≤ 16 then 1 else 0 := by
  unfold F_X11_isSixteenths
  by_cases q : v.toInt < 0
  · rw [if_pos q, if_neg (by omega)]; rfl
  · rw [if_neg q]
    by_cases q2 : 16 < v.toInt
    · rw [if_pos q2, if_neg (by omega)]; rfl
    · rw [if_neg q2, if_pos (by omega)]; rfl
theorem lk_sixAt (v : Int32) : (F_X12_isIn X τ v.toInt64 (0 : Int64) (16 : Int64)).toInt = if 0 ≤ v.toInt ∧ v.toInt ≤ 16 then 1 else 0 := by
  have z0 : (0 : Int64).toInt = 0 := rfl
  have z16 : (16 : Int64).toInt = 16 := rfl
  rw [tm_isIn, ar_i2l, z0, z16]
/-- all cards in the heap -/
theorem lk_heapL (hc : m_c X τ a = c) (hG : m_G c) (fu : Nat) : ∀ x y : Int32, (2147483647 - y.toInt).toNat < fu → 0 ≤ y.toInt → y.toInt ≤ c 9 → x.toInt = m_L c y.toInt.toNat → (F_X12_heapMany_L4_1 X τ a fu x y).toInt = m_L c (c 9).toNat := by
  have b9 := hG.1.2.2.2.2.2.2.1
  have e2 : (2 : Int32).toInt = 2 := rfl
  have r9 : (τ.1 (q_rf X a 20) (9 : Int32).toNatClampNeg).toInt = c 9 := gm_cell (A := 9) hc rfl
  induction fu with
  | zero => intro x y h; exact absurd h (Nat.not_lt_zero _)
  | succ fu ih =>
    intro x y hf y0 y1 hx
    rw [F_X12_heapMany_L4_1_s]
    unfold F_X12_heapMany_B4_1
    rw [q_letE (τ.1 (q_rf X a 20) (9 : Int32).toNatClampNeg), r9]
    by_cases q : y.toInt < c 9
    · have y4 := (hG.2.2.1 y.toInt y0 q).1
      have l80 := hG.L80 y0 y1
      have hl := gm_laid (X := X) (τ := τ) (v := y) rfl ⟨y0, by omega⟩
      have ei : (F_X12_laid X τ y + 2).toInt = 94 + 7 * y.toInt + 2 := by rw [ar_add, hl, e2, ar_wr (by omega) (by omega)]
      have r2 : (τ.1 (q_rf X a 20) (F_X12_laid X τ y + 2).toNatClampNeg).toInt = c (94 + 7 * y.toInt + 2) := gm_cell hc ei
      have ey : (y + 1).toInt = y.toInt + 1 := y_inc (by omega)
      rw [if_pos q, q_letE (F_X12_laid X τ y), q_letE (F_X12_laid X τ y + 2), q_letE (τ.1 (q_rf X a 20) (F_X12_laid X τ y + 2).toNatClampNeg), q_letE, q_letE]
      refine ih _ _ (by omega) (by omega) (by omega) ?_
      rw [ar_add, r2, hx, ey, m_L_succ c y.toInt y0, ar_wr (by omega) (by omega)]
    · have ey : y.toInt = c 9 := by omega
      rw [if_neg q, hx, ey]
theorem lk_heap (hc : m_c X τ a = c) (hG : m_G c) : (F_X12_heapMany X τ a).toInt = m_L c (c 9).toNat := by
  have z0 : (0 : Int32).toInt = 0 := rfl
  unfold F_X12_heapMany
  exact lk_heapL hc hG _ 0 0 (by decide) (by decide) (by rw [z0]; exact hG.1.2.2.2.2.2.2.1.1) (by rw [z0]; rfl)
end GK

/-! FROM 49l.lay.lean.txt -/
/-! A LAYING CALLED -/
abbrev ly_ok (N v : Int) : Prop := v = -1 ∨ (0 ≤ v ∧ v < N)
def ly_n (v : Int) : Int := if v = -1 then 0 else 1
def ly_1 (v j : Int) : Int := if v = j then 1 else 0
def ly_l (p q r s j : Int) : Int := ly_1 p j + ly_1 q j + ly_1 r j + ly_1 s j
theorem ly_1b (v j : Int) : 0 ≤ ly_1 v j ∧ ly_1 v j ≤ 1 := by
  unfold ly_1
  split <;> omega
theorem ly_nb (v : Int) : 0 ≤ ly_n v ∧ ly_n v ≤ 1 := by
  unfold ly_n
  split <;> omega
theorem ly_S1 {v : Int} (h : ly_ok 10 v) : m_S (ly_1 v) 0 10 = ly_n v := by
  rcases (by unfold ly_ok at h; omega : v = -1 ∨ v = 0 ∨ v = 1 ∨ v = 2 ∨ v = 3 ∨ v = 4 ∨ v = 5 ∨ v = 6 ∨ v = 7 ∨ v = 8 ∨ v = 9) with e | e | e | e | e | e | e | e | e | e | e <;> subst e <;> rfl
theorem m_S_plus (f g : Int → Int) (b : Int) (n : Nat) : m_S (fun j => f j + g j) b n = m_S f b n + m_S g b n := by
  induction n with
  | zero => rfl
  | succ n ih =>
    show m_S (fun j => f j + g j) b n + (f (b + (n : Int)) + g (b + (n : Int))) = m_S f b n + f (b + (n : Int)) + (m_S g b n + g (b + (n : Int)))
    rw [ih]
    omega
theorem ly_S {p q r s : Int} (hp : ly_ok 10 p) (hq : ly_ok 10 q) (hr : ly_ok 10 r) (hs : ly_ok 10 s) : m_S (ly_l p q r s) 0 10 = ly_n p + ly_n q + ly_n r + ly_n s := by
  have e : ly_l p q r s = fun j => (fun j => (fun j => ly_1 p j + ly_1 q j) j + ly_1 r j) j + ly_1 s j := rfl
  rw [e, m_S_plus (fun j => (fun j => ly_1 p j + ly_1 q j) j + ly_1 r j) (ly_1 s), m_S_plus (fun j => ly_1 p j + ly_1 q j) (ly_1 r), m_S_plus (ly_1 p) (ly_1 q), ly_S1 hp, ly_S1 hq, ly_S1 hr, ly_S1 hs]
section GL
variable {X : XW} {lb : Nat → Nat} {C g o a : Nat} {σ τ σ0 τ0 : ST} {V V0 : Nat → Int → Int} {c c0 l : Int → Int}
/-! the class -/
theorem ly_want (Y : y_S X lb) (G : y_G X lb g o) (w : y_W X lb g o σ0 τ V) {v : Int32} (h : ly_ok 10 v.toInt) (b : ∀ j : Int, 0 ≤ j → j < 10 → 0 ≤ V 23 j ∧ V 23 j ≤ 10) (b9 : 0 ≤ V 0 9 ∧ V 0 9 ≤ 10) :
    ∃ V' : Nat → Int → Int, y_W X lb g o σ0 (F_X0_want X τ g v 1) V' ∧ (∀ (id : Nat) (i : Int), id ≠ 23 → (id ≠ 0 ∨ i ≠ 9) → V' id i = V id i) ∧ (∀ j : Int, 0 ≤ j → j < 10 → V' 23 j = V 23 j + ly_1 v.toInt j) ∧ V' 0 9 = V 0 9 + ly_n v.toInt := by
  have one : (1 : Int32).toInt = 1 := rfl
  have gn : ((y_gn 23 : Nat) : Int) = 10 := rfl
  unfold F_X0_want ly_n
  by_cases q : v.toInt = -1
  · rw [if_pos q, if_pos q]
    refine ⟨V, w, fun _ _ _ _ => rfl, fun j j0 j1 => ?_, by omega⟩
    unfold ly_1
    rw [if_neg (by omega)]
    omega
  · have hv : 0 ≤ v.toInt ∧ v.toInt < 10 := by
      unfold ly_ok at h
      omega
    have bv := b v.toInt hv.1 hv.2
    rw [if_neg q, if_neg q, q_letE (F_X5_add X τ (q_rf X g 8) v 1)]
    have w1 := w.add Y G (id := 23) (r := q_rf X g 8) ⟨by decide, by decide⟩ rfl v 1 hv.1 (by rw [gn]; exact hv.2)
    rw [one, ar_wr (by omega) (by omega)] at w1
    obtain ⟨τ1, e1⟩ : ∃ s, s = F_X5_add X τ (q_rf X g 8) v 1 := ⟨_, rfl⟩
    rw [← e1] at w1 ⊢
    have f9 : (τ1.1 g 9).toInt = V 0 9 := (w1.rd (id := 0) (by decide) 9 rfl).trans (y_up_ne (Or.inl (by decide)))
    rw [q_letE (τ1.1 g 9)]
    obtain ⟨u, hu⟩ : ∃ u, u = τ1.1 g 9 + 1 := ⟨_, rfl⟩
    have uv : u.toInt = V 0 9 + 1 := by rw [hu, ar_add, f9, one, ar_wr (by omega) (by omega)]
    rw [← hu, q_letE u, q_letE (q_si τ1 g 9 u)]
    have w2 : y_W X lb g o σ0 (q_si τ1 g 9 u) (y_up (y_up V 23 v.toInt (V 23 v.toInt + 1)) 0 9 u.toInt) := w1.si Y G (id := 0) (by decide) 9 u
    rw [uv] at w2
    refine ⟨_, w2, fun id i i23 i0 => ?_, fun j j0 j1 => ?_, y_up_eq _ _ _ _⟩
    · rw [y_up_ne i0, y_up_ne (Or.inl i23)]
    · rw [y_up_ne (Or.inl (by decide))]
      unfold ly_1
      by_cases e : v.toInt = j
      · rw [if_pos e, ← e, y_up_eq]
      · rw [if_neg e, y_up_ne (Or.inr (fun z => e z.symm))]; omega
theorem ly_holdL (Y : y_S X lb) (G : y_G X lb g o) (w : y_W X lb g o σ0 τ V) {N p : Int} (hN : V 1 0 = N) (bN : 0 ≤ N ∧ N ≤ 10) (hp : V 0 5 = p) (bp : 0 ≤ p ∧ p < 6) (fu : Nat) : ∀ x : Int32, (2147483647 - x.toInt).toNat < fu → 0 ≤ x.toInt → x.toInt ≤ N → ((F_X0_holdsWanted_L2_1 X τ g fu x).toInt = 1 ∨ (F_X0_holdsWanted_L2_1 X τ g fu x).toInt = 0) ∧ ((F_X0_holdsWanted_L2_1 X τ g fu x).toInt = 1 ↔ ∀ k : Int, x.toInt ≤ k → k < N → V 23 k ≤ V 7 (10 * p + k)) := by
  have gn7 : ((y_gn 7 : Nat) : Int) = 60 := rfl
  have gn23 : ((y_gn 23 : Nat) : Int) = 10 := rfl
  have e10 : (10 : Int32).toInt = 10 := rfl
  have f0 : (τ.1 (q_rf X g 0) 0).toInt = N := (w.rd (id := 1) (by decide) 0 rfl).trans hN
  have f5 : (τ.1 g 5).toInt = p := (w.rd (id := 0) (by decide) 5 rfl).trans hp
  induction fu with
  | zero => intro x h; exact absurd h (Nat.not_lt_zero _)
  | succ fu ih =>
    intro x hf x0 x1
    rw [F_X0_holdsWanted_L2_1_s]
    unfold F_X0_holdsWanted_B2_1
    rw [q_letE (τ.1 (q_rf X g 0) 0), f0]
    by_cases q : x.toInt < N
    · have ei : (τ.1 g 5 * 10 + x).toInt = 10 * p + x.toInt := by
        rw [ar_add, ar_mul, f5, e10, ar_wr (n := p * 10) (by omega) (by omega), ar_wr (by omega) (by omega)]
        omega
      have h7 : (F_X1_heldBy X τ (q_rf X g 1) (τ.1 g 5) x).toInt = V 7 (10 * p + x.toInt) := by
        unfold F_X1_heldBy
        rw [q_letE, q_letE, q_letE]
        exact y_getI Y G w (id := 7) ⟨by decide, by decide⟩ rfl ei (by omega) (by rw [gn7]; omega)
      have h23 : (F_X5_get X τ (q_rf X g 8) x).toInt = V 23 x.toInt := y_getI Y G w (id := 23) ⟨by decide, by decide⟩ rfl (x := x) rfl x0 (by rw [gn23]; omega)
      have ex : (x + 1).toInt = x.toInt + 1 := y_inc (by omega)
      rw [if_pos q, q_letE (τ.1 g 5), q_letE (F_X1_heldBy X τ (q_rf X g 1) (τ.1 g 5) x), q_letE (F_X5_get X τ (q_rf X g 8) x), h7, h23]
      by_cases q2 : V 7 (10 * p + x.toInt) < V 23 x.toInt
      · rw [if_pos q2]
        refine ⟨Or.inr rfl, ⟨fun h => absurd h (by decide), fun h => ?_⟩⟩
        have := h x.toInt (Int.le_refl _) q
        omega
      · rw [if_neg q2, q_letE (x + 1)]
        obtain ⟨i1, i2⟩ := ih (x + 1) (by omega) (by omega) (by omega)
        refine ⟨i1, i2.trans ⟨fun h k k0 k1 => ?_, fun h k k0 k1 => h k (by omega) k1⟩⟩
        by_cases e : k = x.toInt
        · rw [e]; omega
        · exact h k (by omega) k1
    · rw [if_neg q]
      exact ⟨Or.inl rfl, ⟨fun _ k k0 k1 => by omega, fun _ => rfl⟩⟩
/-! the reference -/
theorem lr_J161 (Bf : Int32 → Int32 → Int32 → Int32 → ST → Int32 × ST) (ha : q_rf X a 28 ≠ q_rf X a 29) {n i v e' g' : Int32} (hv : τ.1 (q_rf X a 29) i.toNatClampNeg = v) (ok : ly_ok 10 v.toInt) (bn : 0 ≤ n.toInt ∧ n.toInt ≤ 10) (bl : ∀ j : Int, 0 ≤ j → j < 10 → 0 ≤ (τ.1 (q_rf X a 28) j.toNat).toInt ∧ (τ.1 (q_rf X a 28) j.toNat).toInt ≤ 10) :
    ∃ (n' : Int32) (τ' : ST), F_X12_lay_J161_10 X τ a i n Bf e' g' = Bf n' g' e' (i + 1) τ' ∧ n'.toInt = n.toInt + ly_n v.toInt ∧ tkl (fun b _ => b = q_rf X a 28) (fun _ _ => False) τ τ' ∧ ∀ j : Int, 0 ≤ j → j < 10 → (τ'.1 (q_rf X a 28) j.toNat).toInt = (τ.1 (q_rf X a 28) j.toNat).toInt + ly_1 v.toInt j := by
  have one : (1 : Int32).toInt = 1 := rfl
  have z0 : (0 : Int32).toInt = 0 := rfl
  unfold F_X12_lay_J161_10 ly_n
  rw [q_letE (τ.1 (q_rf X a 29) i.toNatClampNeg), hv]
  by_cases q : v.toInt = -1
  · rw [if_pos q, if_pos q, q_letE (n + 0), q_letE v, if_pos q, q_letE (i + 1)]
    refine ⟨n + 0, τ, rfl, ?_, tkl.rf, fun j j0 j1 => ?_⟩
    · rw [ar_add, z0, ar_wr (by omega) (by omega)]
    · unfold ly_1
      rw [if_neg (by omega)]
      omega
  · have hv10 : 0 ≤ v.toInt ∧ v.toInt < 10 := by
      unfold ly_ok at ok
      omega
    have bv := bl v.toInt hv10.1 hv10.2
    rw [if_neg q, if_neg q, q_letE (n + 1), q_letE v, if_neg q, q_letE v, q_letE (τ.1 (q_rf X a 28) v.toNatClampNeg)]
    obtain ⟨u, hu⟩ : ∃ u, u = τ.1 (q_rf X a 28) v.toNatClampNeg + 1 := ⟨_, rfl⟩
    have uv : u.toInt = (τ.1 (q_rf X a 28) v.toInt.toNat).toInt + 1 := by
      rw [hu, ar_add, one, ar_cl, ar_wr (by omega) (by omega)]
    rw [← hu, q_letE u, q_letE (q_si τ (q_rf X a 28) v.toNatClampNeg u), q_letE (i + 1)]
    refine ⟨n + 1, _, rfl, ?_, tkl.rf.si _ rfl, fun j j0 j1 => ?_⟩
    · rw [ar_add, one, ar_wr (by omega) (by omega)]
    · unfold ly_1
      show (if q_rf X a 28 = q_rf X a 28 ∧ j.toNat = v.toNatClampNeg then u else τ.1 (q_rf X a 28) j.toNat).toInt = _
      by_cases e : v.toInt = j
      · rw [if_pos e, if_pos ⟨rfl, by rw [ar_cl, e]⟩, uv, e]
      · rw [if_neg e, if_neg (fun z => e (by have := z.2; rw [ar_cl] at this; omega))]
        omega
theorem lr_step (Bf : Int32 → Int32 → Int32 → Int32 → ST → Int32 × ST) (ha : q_rf X a 28 ≠ q_rf X a 29) (hc : m_c X τ a = c) (h0 : 2 ≤ c 0 ∧ c 0 ≤ 10) {n g e i v : Int32} (hi : i.toInt < 4) (hv : τ.1 (q_rf X a 29) i.toNatClampNeg = v) (ok : ly_ok (c 0) v.toInt) (bn : 0 ≤ n.toInt ∧ n.toInt ≤ 10) (bl : ∀ j : Int, 0 ≤ j → j < 10 → 0 ≤ (τ.1 (q_rf X a 28) j.toNat).toInt ∧ (τ.1 (q_rf X a 28) j.toNat).toInt ≤ 10) :
    ∃ (n' g' e' : Int32) (τ' : ST), F_X12_lay_B75_3 X a Bf n g e i τ = Bf n' g' e' (i + 1) τ' ∧ n'.toInt = n.toInt + ly_n v.toInt ∧ (e'.toInt = 0 ↔ e.toInt = 0 ∧ v.toInt ≠ -1) ∧ (g'.toInt = 0 ↔ g.toInt = 0 ∧ (e.toInt = 0 ∨ v.toInt = -1)) ∧ tkl (fun b _ => b = q_rf X a 28) (fun _ _ => False) τ τ' ∧ ∀ j : Int, 0 ≤ j → j < 10 → (τ'.1 (q_rf X a 28) j.toNat).toInt = (τ.1 (q_rf X a 28) j.toNat).toInt + ly_1 v.toInt j := by
  have ok10 : ly_ok 10 v.toInt := by
    unfold ly_ok at ok ⊢
    omega
  have one : (1 : Int32).toInt = 1 := rfl
  have z0 : (0 : Int32).toInt = 0 := rfl
  -- behind the flags
  have fin : ∀ e' g' : Int32, ∃ (n' : Int32) (τ' : ST), F_X12_lay_J161_10 X τ a i n Bf e' g' = Bf n' g' e' (i + 1) τ' ∧ n'.toInt = n.toInt + ly_n v.toInt ∧ tkl (fun b _ => b = q_rf X a 28) (fun _ _ => False) τ τ' ∧ ∀ j : Int, 0 ≤ j → j < 10 → (τ'.1 (q_rf X a 28) j.toNat).toInt = (τ.1 (q_rf X a 28) j.toNat).toInt + ly_1 v.toInt j := fun e' g' => lr_J161 Bf ha hv ok10 bn bl
  have j133 : ∀ e' : Int32, (e'.toInt = 0 ↔ e.toInt = 0 ∧ v.toInt ≠ -1) → ∃ (n' g' : Int32) (τ' : ST), F_X12_lay_J133_9 X g τ a i n Bf e' = Bf n' g' e' (i + 1) τ' ∧ n'.toInt = n.toInt + ly_n v.toInt ∧ (g'.toInt = 0 ↔ g.toInt = 0 ∧ (e.toInt = 0 ∨ v.toInt = -1)) ∧ tkl (fun b _ => b = q_rf X a 28) (fun _ _ => False) τ τ' ∧ ∀ j : Int, 0 ≤ j → j < 10 → (τ'.1 (q_rf X a 28) j.toNat).toInt = (τ.1 (q_rf X a 28) j.toNat).toInt + ly_1 v.toInt j := by
    intro e' he
    unfold F_X12_lay_J133_9
    by_cases q : g.toInt = 0
    · rw [if_pos q]
      by_cases q2 : e'.toInt = 0
      · rw [if_pos q2]
        obtain ⟨n', τ', f1, f2, f3, f4⟩ := fin e' 0
        exact ⟨n', 0, τ', f1, f2, ⟨fun _ => ⟨q, Or.inl (he.mp q2).1⟩, fun _ => rfl⟩, f3, f4⟩
      · rw [if_neg q2, q_letE (τ.1 (q_rf X a 29) i.toNatClampNeg), hv]
        by_cases q3 : v.toInt = -1
        · rw [if_pos q3]
          obtain ⟨n', τ', f1, f2, f3, f4⟩ := fin e' 0
          exact ⟨n', 0, τ', f1, f2, ⟨fun _ => ⟨q, Or.inr q3⟩, fun _ => rfl⟩, f3, f4⟩
        · rw [if_neg q3]
          obtain ⟨n', τ', f1, f2, f3, f4⟩ := fin e' 1
          refine ⟨n', 1, τ', f1, f2, ⟨fun h => absurd h (by decide), fun h => ?_⟩, f3, f4⟩
          rcases h.2 with h | h
          · exact absurd (he.mpr ⟨h, q3⟩) q2
          · exact absurd h q3
    · rw [if_neg q]
      obtain ⟨n', τ', f1, f2, f3, f4⟩ := fin e' 1
      exact ⟨n', 1, τ', f1, f2, ⟨fun h => absurd h (by decide), fun h => absurd h.1 q⟩, f3, f4⟩
  have j112 : ∃ (n' g' e' : Int32) (τ' : ST), F_X12_lay_J112_8 X e τ a i g n Bf = Bf n' g' e' (i + 1) τ' ∧ n'.toInt = n.toInt + ly_n v.toInt ∧ (e'.toInt = 0 ↔ e.toInt = 0 ∧ v.toInt ≠ -1) ∧ (g'.toInt = 0 ↔ g.toInt = 0 ∧ (e.toInt = 0 ∨ v.toInt = -1)) ∧ tkl (fun b _ => b = q_rf X a 28) (fun _ _ => False) τ τ' ∧ ∀ j : Int, 0 ≤ j → j < 10 → (τ'.1 (q_rf X a 28) j.toNat).toInt = (τ.1 (q_rf X a 28) j.toNat).toInt + ly_1 v.toInt j := by
    unfold F_X12_lay_J112_8
    by_cases q : e.toInt = 0
    · rw [if_pos q, q_letE (τ.1 (q_rf X a 29) i.toNatClampNeg), hv]
      by_cases q2 : v.toInt = -1
      · rw [if_pos q2]
        have he : (1 : Int32).toInt = 0 ↔ e.toInt = 0 ∧ v.toInt ≠ -1 := ⟨fun h => absurd h (by decide), fun h => absurd q2 h.2⟩
        obtain ⟨n', g', τ', f1, f2, f3, f4, f5⟩ := j133 1 he
        exact ⟨n', g', 1, τ', f1, f2, he, f3, f4, f5⟩
      · rw [if_neg q2]
        have he : (0 : Int32).toInt = 0 ↔ e.toInt = 0 ∧ v.toInt ≠ -1 := ⟨fun _ => ⟨q, q2⟩, fun _ => rfl⟩
        obtain ⟨n', g', τ', f1, f2, f3, f4, f5⟩ := j133 0 he
        exact ⟨n', g', 0, τ', f1, f2, he, f3, f4, f5⟩
    · rw [if_neg q]
      have he : (1 : Int32).toInt = 0 ↔ e.toInt = 0 ∧ v.toInt ≠ -1 := ⟨fun h => absurd h (by decide), fun h => absurd h.1 q⟩
      obtain ⟨n', g', τ', f1, f2, f3, f4, f5⟩ := j133 1 he
      exact ⟨n', g', 1, τ', f1, f2, he, f3, f4, f5⟩
  unfold F_X12_lay_B75_3
  rw [if_pos hi, q_letE (τ.1 (q_rf X a 29) i.toNatClampNeg), hv]
  by_cases q : v.toInt = -1
  · rw [if_pos q]; exact j112
  · have k := lk_kindAt hc h0 v
    rw [if_pos (by unfold ly_ok at ok; omega)] at k
    rw [if_neg q, q_letE v, q_letE (F_X12_isKindAt X τ a v), k, if_neg (by decide : ¬ (1 : Int) = 0)]
    exact j112
theorem lr_bad (Bf : Int32 → Int32 → Int32 → Int32 → ST → Int32 × ST) (hc : m_c X τ a = c) (h0 : 2 ≤ c 0 ∧ c 0 ≤ 10) {n g e i v : Int32} (hi : i.toInt < 4) (hv : τ.1 (q_rf X a 29) i.toNatClampNeg = v) (ok : ¬ ly_ok (c 0) v.toInt) : F_X12_lay_B75_3 X a Bf n g e i τ = (-1, q_si τ a 0 2) := by
  have q : ¬ v.toInt = -1 := fun h => ok (Or.inl h)
  have k := lk_kindAt hc h0 v
  rw [if_neg (fun h => ok (Or.inr h))] at k
  unfold F_X12_lay_B75_3
  rw [if_pos hi, q_letE (τ.1 (q_rf X a 29) i.toNatClampNeg), hv, if_neg q, q_letE v, q_letE (F_X12_isKindAt X τ a v), k, if_pos rfl]
  unfold F_X12_lay_E106_11 F_X12_refuse
  rw [q_letE]
  rfl
theorem lr_clear (fu : Nat) : ∀ (x : Int32) (τ : ST), (2147483647 - x.toInt).toNat < fu → 0 ≤ x.toInt → x.toInt ≤ 10 → (∀ j : Int, 0 ≤ j → j < x.toInt → (τ.1 (q_rf X a 28) j.toNat).toInt = 0) → ∃ τ' : ST, F_X12_lay_L42_1 X a fu x τ = F_X12_lay_L75_3 X a ((2147483647 - (0 : Int32).toInt).toNat + 1) 0 0 0 0 τ' ∧ tkl (fun b _ => b = q_rf X a 28) (fun _ _ => False) τ τ' ∧ ∀ j : Int, 0 ≤ j → j < 10 → (τ'.1 (q_rf X a 28) j.toNat).toInt = 0 := by
  induction fu with
  | zero => intro x τ h; exact absurd h (Nat.not_lt_zero _)
  | succ fu ih =>
    intro x τ hf x0 x1 hz
    rw [F_X12_lay_L42_1_s]
    unfold F_X12_lay_B42_1
    by_cases q : x.toInt < 10
    · have ex : (x + 1).toInt = x.toInt + 1 := y_inc (by omega)
      rw [if_pos q, q_letE (q_si τ (q_rf X a 28) x.toNatClampNeg 0), q_letE (x + 1)]
      obtain ⟨τ', i1, i2, i3⟩ := ih (x + 1) (q_si τ (q_rf X a 28) x.toNatClampNeg 0) (by omega) (by omega) (by omega) (fun j j0 j1 => by
        show (if q_rf X a 28 = q_rf X a 28 ∧ j.toNat = x.toNatClampNeg then (0 : Int32) else τ.1 (q_rf X a 28) j.toNat).toInt = 0
        by_cases e : j = x.toInt
        · rw [if_pos ⟨rfl, by rw [ar_cl, e]⟩]; rfl
        · rw [if_neg (fun z => e (by have := z.2; rw [ar_cl] at this; omega))]
          exact hz j j0 (by omega))
      have t0 : tkl (fun b _ => b = q_rf X a 28) (fun _ _ => False) τ (q_si τ (q_rf X a 28) x.toNatClampNeg 0) := tkl.rf.si _ rfl
      exact ⟨τ', i1, t0.tr i2, i3⟩
    · rw [if_neg q]
      exact ⟨τ, rfl, tkl.rf, fun j j0 j1 => hz j j0 (by omega)⟩
/-- what the reference writes in a call, beside its table -/
def mv_S (X : XW) (a : Nat) (b f : Nat) : Prop := b = q_rf X a 20 ∨ b = a ∧ (f = 0 ∨ f = 1) ∨ b = q_rf X a 28 ∨ b = q_rf X a 29
theorem lr_asked (hT : q_T X) (ha : q_kd X a = 12) (hc : m_c X τ a = c) (h0 : 2 ≤ c 0 ∧ c 0 ≤ 10) (p q r s : Int32) :
    (¬ (ly_ok (c 0) p.toInt ∧ ly_ok (c 0) q.toInt ∧ ly_ok (c 0) r.toInt ∧ ly_ok (c 0) s.toInt) ∧ ∃ τ' : ST, F_X12_lay X τ a p q r s = (-1, q_si τ' a 0 2) ∧ m_c X τ' a = c ∧ tkl (mv_S X a) (fun _ _ => False) τ τ') ∨
    ((ly_ok (c 0) p.toInt ∧ ly_ok (c 0) q.toInt ∧ ly_ok (c 0) r.toInt ∧ ly_ok (c 0) s.toInt) ∧ ∃ (n g : Int32) (τ' : ST), F_X12_lay X τ a p q r s = F_X12_lay_E217_7 X n τ' a g ∧ n.toInt = ly_n p.toInt + ly_n q.toInt + ly_n r.toInt + ly_n s.toInt ∧ (g.toInt = 0 ↔ (p.toInt = -1 → q.toInt = -1) ∧ (p.toInt = -1 ∨ q.toInt = -1 → r.toInt = -1) ∧ (p.toInt = -1 ∨ q.toInt = -1 ∨ r.toInt = -1 → s.toInt = -1)) ∧ m_c X τ' a = c ∧ (τ'.1 a 0).toInt = 0 ∧ tkl (mv_S X a) (fun _ _ => False) τ τ' ∧ ∀ j : Int, 0 ≤ j → j < 10 → (τ'.1 (q_rf X a 28) j.toNat).toInt = ly_l p.toInt q.toInt r.toInt s.toInt j) := by
  have k28 : q_kd X (q_rf X a 28) = 39 := (hT.1 a 28 (by rw [ha]; decide)).trans (by rw [ha]; rfl)
  have k29 : q_kd X (q_rf X a 29) = 40 := (hT.1 a 29 (by rw [ha]; decide)).trans (by rw [ha]; rfl)
  have k20 := (tb_k hT ha).1
  have n89 : q_rf X a 28 ≠ q_rf X a 29 := m_ne k28 k29 (by decide)
  have n80 : q_rf X a 28 ≠ q_rf X a 20 := m_ne k28 k20 (by decide)
  have n90 : q_rf X a 29 ≠ q_rf X a 20 := m_ne k29 k20 (by decide)
  have na0 : a ≠ q_rf X a 20 := Ne.symm (m_ne k20 ha (by decide))
  have na8 : a ≠ q_rf X a 28 := Ne.symm (m_ne k28 ha (by decide))
  have na9 : a ≠ q_rf X a 29 := Ne.symm (m_ne k29 ha (by decide))
  have z0 : (0 : Int32).toInt = 0 := rfl
  unfold F_X12_lay
  rw [q_letE (q_si τ a 1 0), q_letE (q_si (q_si τ a 1 0) a 0 0), q_letE (q_si (q_si (q_si τ a 1 0) a 0 0) (q_rf X a 29) (0 : Int32).toNatClampNeg p), q_letE (q_si (q_si (q_si (q_si τ a 1 0) a 0 0) (q_rf X a 29) (0 : Int32).toNatClampNeg p) (q_rf X a 29) (1 : Int32).toNatClampNeg q), q_letE (q_si (q_si (q_si (q_si (q_si τ a 1 0) a 0 0) (q_rf X a 29) (0 : Int32).toNatClampNeg p) (q_rf X a 29) (1 : Int32).toNatClampNeg q) (q_rf X a 29) (2 : Int32).toNatClampNeg r), q_letE (q_si (q_si (q_si (q_si (q_si (q_si τ a 1 0) a 0 0) (q_rf X a 29) (0 : Int32).toNatClampNeg p) (q_rf X a 29) (1 : Int32).toNatClampNeg q) (q_rf X a 29) (2 : Int32).toNatClampNeg r) (q_rf X a 29) (3 : Int32).toNatClampNeg s)]
  obtain ⟨τ1, e1⟩ : ∃ t, t = q_si (q_si (q_si (q_si (q_si (q_si τ a 1 0) a 0 0) (q_rf X a 29) (0 : Int32).toNatClampNeg p) (q_rf X a 29) (1 : Int32).toNatClampNeg q) (q_rf X a 29) (2 : Int32).toNatClampNeg r) (q_rf X a 29) (3 : Int32).toNatClampNeg s := ⟨_, rfl⟩
  have t1 : tkl (fun b f => b = a ∧ (f = 0 ∨ f = 1) ∨ b = q_rf X a 29) (fun _ _ => False) τ τ1 := by
    rw [e1]
    exact (((((tkl.rf.si _ (Or.inl ⟨rfl, Or.inr rfl⟩)).si _ (Or.inl ⟨rfl, Or.inl rfl⟩)).si _ (Or.inr rfl)).si _ (Or.inr rfl)).si _ (Or.inr rfl)).si _ (Or.inr rfl)
  have s1 : τ1.1 a 0 = 0 := by
    rw [e1, q_si_ne na9, q_si_ne na9, q_si_ne na9, q_si_ne na9, si_eq]
  have a3 : τ1.1 (q_rf X a 29) (3 : Int32).toNatClampNeg = s := by rw [e1, si_eq]
  have a2 : τ1.1 (q_rf X a 29) (2 : Int32).toNatClampNeg = r := by rw [e1, si_f (by decide), si_eq]
  have a1 : τ1.1 (q_rf X a 29) (1 : Int32).toNatClampNeg = q := by rw [e1, si_f (by decide), si_f (by decide), si_eq]
  have a0 : τ1.1 (q_rf X a 29) (0 : Int32).toNatClampNeg = p := by rw [e1, si_f (by decide), si_f (by decide), si_f (by decide), si_eq]
  rw [← e1]
  have cT : ∀ τ' : ST, tkl (mv_S X a) (fun _ _ => False) τ τ' → True := fun _ _ => trivial
  obtain ⟨τ2, c1, c2, c3⟩ := lr_clear (X := X) (a := a) ((2147483647 - (0 : Int32).toInt).toNat + 1) 0 τ1 (by decide) (by decide) (by decide) (fun j j0 j1 => absurd j1 (by rw [z0]; omega))
  rw [c1]
  obtain ⟨fu, hfu⟩ : ∃ fu : Nat, (2147483647 - (0 : Int32).toInt).toNat + 1 = fu + 5 := ⟨2147483643, by decide⟩
  rw [hfu]
  -- what stays through the steps
  have kc : ∀ τ' : ST, tkl (fun b _ => b = q_rf X a 28) (fun _ _ => False) τ2 τ' → m_c X τ' a = c ∧ (∀ f, τ'.1 (q_rf X a 29) f = τ1.1 (q_rf X a 29) f) ∧ τ'.1 a 0 = 0 ∧ tkl (mv_S X a) (fun _ _ => False) τ τ' := by
    intro τ' h
    have hh := c2.tr h
    refine ⟨?_, fun f => hh.1 _ f (fun z => n89 z.symm), ?_, ?_⟩
    · rw [← hc]
      funext j
      refine congrArg Int32.toInt ?_
      rw [hh.1 _ _ (fun z => n80 z.symm), t1.1 _ _ (fun z => by
        rcases z with z | z
        · exact na0 z.1.symm
        · exact n90 z.symm)]
    · rw [hh.1 a 0 na8]; exact s1
    · refine (t1.mono (fun b f z => ?_) (fun _ _ z => z)).tr (hh.mono (fun b f z => Or.inr (Or.inr (Or.inl z))) (fun _ _ z => z))
      rcases z with z | z
      · exact Or.inr (Or.inl z)
      · exact Or.inr (Or.inr (Or.inr z))
  have e00 : (0 : Int32) + 1 = 1 := by decide
  have e01 : (1 : Int32) + 1 = 2 := by decide
  have e02 : (2 : Int32) + 1 = 3 := by decide
  have e03 : (3 : Int32) + 1 = 4 := by decide
  have k2 := kc τ2 tkl.rf
  rw [F_X12_lay_L75_3_s]
  by_cases op : ¬ ly_ok (c 0) p.toInt
  · exact Or.inl ⟨fun h => op h.1, τ2, lr_bad _ k2.1 h0 (by decide) ((k2.2.1 _).trans a0) op, k2.1, k2.2.2.2⟩
  replace op := Classical.not_not.mp op
  obtain ⟨n3, g3, d3, τ3, x1, x2, x3, x4, x5, x6⟩ := lr_step (F_X12_lay_L75_3 X a (fu + 4)) n89 k2.1 h0 (n := 0) (g := 0) (e := 0) (i := 0) (by decide) ((k2.2.1 _).trans a0) op ⟨by decide, by decide⟩ (fun j j0 j1 => by rw [c3 j j0 j1]; omega)
  rw [x1, e00, F_X12_lay_L75_3_s]
  have k3 := kc τ3 x5
  have np := ly_nb p.toInt
  by_cases oq : ¬ ly_ok (c 0) q.toInt
  · exact Or.inl ⟨fun h => oq h.2.1, τ3, lr_bad _ k3.1 h0 (by decide) ((k3.2.1 _).trans a1) oq, k3.1, k3.2.2.2⟩
  replace oq := Classical.not_not.mp oq
  have v3 : ∀ j : Int, 0 ≤ j → j < 10 → (τ3.1 (q_rf X a 28) j.toNat).toInt = ly_1 p.toInt j := fun j j0 j1 => by rw [x6 j j0 j1, c3 j j0 j1]; omega
  obtain ⟨n4, g4, d4, τ4, y1, y2, y3, y4, y5, y6⟩ := lr_step (F_X12_lay_L75_3 X a (fu + 3)) n89 k3.1 h0 (n := n3) (g := g3) (e := d3) (i := 1) (by decide) ((k3.2.1 _).trans a1) oq (by omega) (fun j j0 j1 => by rw [v3 j j0 j1]; have := ly_1b p.toInt j; omega)
  rw [y1, e01, F_X12_lay_L75_3_s]
  have k4 := kc τ4 (x5.tr y5)
  have nq := ly_nb q.toInt
  by_cases or_ : ¬ ly_ok (c 0) r.toInt
  · exact Or.inl ⟨fun h => or_ h.2.2.1, τ4, lr_bad _ k4.1 h0 (by decide) ((k4.2.1 _).trans a2) or_, k4.1, k4.2.2.2⟩
  replace or_ := Classical.not_not.mp or_
  have v4 : ∀ j : Int, 0 ≤ j → j < 10 → (τ4.1 (q_rf X a 28) j.toNat).toInt = ly_1 p.toInt j + ly_1 q.toInt j := fun j j0 j1 => by rw [y6 j j0 j1, v3 j j0 j1]
  obtain ⟨n5, g5, d5, τ5, w1, w2, w3, w4, w5, w6⟩ := lr_step (F_X12_lay_L75_3 X a (fu + 2)) n89 k4.1 h0 (n := n4) (g := g4) (e := d4) (i := 2) (by decide) ((k4.2.1 _).trans a2) or_ (by omega) (fun j j0 j1 => by rw [v4 j j0 j1]; have := ly_1b p.toInt j; have := ly_1b q.toInt j; omega)
  rw [w1, e02, F_X12_lay_L75_3_s]
  have k5 := kc τ5 ((x5.tr y5).tr w5)
  have nr := ly_nb r.toInt
  by_cases os : ¬ ly_ok (c 0) s.toInt
  · exact Or.inl ⟨fun h => os h.2.2.2, τ5, lr_bad _ k5.1 h0 (by decide) ((k5.2.1 _).trans a3) os, k5.1, k5.2.2.2⟩
  replace os := Classical.not_not.mp os
  have v5 : ∀ j : Int, 0 ≤ j → j < 10 → (τ5.1 (q_rf X a 28) j.toNat).toInt = ly_1 p.toInt j + ly_1 q.toInt j + ly_1 r.toInt j := fun j j0 j1 => by rw [w6 j j0 j1, v4 j j0 j1]
  obtain ⟨n6, g6, d6, τ6, u1, u2, u3, u4, u5, u6⟩ := lr_step (F_X12_lay_L75_3 X a (fu + 1)) n89 k5.1 h0 (n := n5) (g := g5) (e := d5) (i := 3) (by decide) ((k5.2.1 _).trans a3) os (by omega) (fun j j0 j1 => by rw [v5 j j0 j1]; have := ly_1b p.toInt j; have := ly_1b q.toInt j; have := ly_1b r.toInt j; omega)
  rw [u1, e03, F_X12_lay_L75_3_s]
  have k6 := kc τ6 (((x5.tr y5).tr w5).tr u5)
  refine Or.inr ⟨⟨op, oq, or_, os⟩, n6, g6, τ6, ?_, ?_, ?_, k6.1, by rw [k6.2.2.1]; rfl, k6.2.2.2, fun j j0 j1 => ?_⟩
  · unfold F_X12_lay_B75_3
    rw [if_neg (by decide : ¬ (4 : Int32).toInt < 4)]
  · rw [u2, w2, y2, x2, z0]; omega
  · rw [u4, w4, y4, x4, w3, y3, x3]
    have t0 : (0 : Int32).toInt = 0 := rfl
    constructor
    · rintro ⟨⟨⟨⟨-, h1⟩, h2⟩, h3⟩, h4⟩
      refine ⟨fun h => ?_, fun h => ?_, fun h => ?_⟩
      · rcases h2 with h2 | h2
        · exact absurd h h2.2
        · exact h2
      · rcases h3 with h3 | h3
        · rcases h with h | h
          · exact absurd h h3.1.2
          · exact absurd h h3.2
        · exact h3
      · rcases h4 with h4 | h4
        · rcases h with h | h | h
          · exact absurd h h4.1.1.2
          · exact absurd h h4.1.2
          · exact absurd h h4.2
        · exact h4
    · rintro ⟨h1, h2, h3⟩
      refine ⟨⟨⟨⟨t0, Or.inl t0⟩, ?_⟩, ?_⟩, ?_⟩
      · by_cases e : p.toInt = -1
        · exact Or.inr (h1 e)
        · exact Or.inl ⟨t0, e⟩
      · by_cases e : p.toInt = -1 ∨ q.toInt = -1
        · exact Or.inr (h2 e)
        · exact Or.inl ⟨⟨t0, fun z => e (Or.inl z)⟩, fun z => e (Or.inr z)⟩
      · by_cases e : p.toInt = -1 ∨ q.toInt = -1 ∨ r.toInt = -1
        · exact Or.inr (h3 e)
        · exact Or.inl ⟨⟨⟨t0, fun z => e (Or.inl z)⟩, fun z => e (Or.inr (Or.inl z))⟩, fun z => e (Or.inr (Or.inr z))⟩
  · rw [u6 j j0 j1, v5 j j0 j1]
    rfl
end GL

/-! FROM 49m.mvlay.lean.txt -/
/-! A LAYING CALLED: both -/
/-- behind a call both games are the same, and what else stands as it was -/
def mv_R (X : XW) (lb : Nat → Nat) (C a : Nat) (σ σ' τ τ' : ST) (V : Nat → Int → Int) (c : Int → Int) : Prop :=
  ∃ (V' : Nat → Int → Int) (c' : Int → Int), y_v X (q_rf X C 8) σ' = V' ∧ m_c X τ' a = c' ∧ rg V' c' ∧ (∀ (id : Nat) (i : Int), id = 1 ∨ id = 3 ∨ id = 5 ∨ id = 6 ∨ 18 ≤ id ∧ id < 23 → V' id i = V id i) ∧ (∀ j : Int, 0 ≤ j → j ≤ 4 ∨ 654 ≤ j → c' j = c j) ∧ (∀ b, lb b / 8192 ≠ 1 → b ≠ C → ∀ f, σ'.1 b f = σ.1 b f) ∧ (∀ f, f ≠ 0 → σ'.1 C f = σ.1 C f) ∧ σ'.2 = σ.2 ∧ tkl (mv_S X a) (fun _ _ => False) τ τ'
section GM
variable {X : XW} {lb : Nat → Nat} {C a : Nat} {σ τ σ1 τ1 : ST} {V V1 : Nat → Int → Int} {c c1 l : Int → Int}
theorem mv_mk (Y : y_S X lb) (G : y_G X lb (q_rf X C 8) 1) (hC : lb C / 8192 = 0) (w : y_W X lb (q_rf X C 8) 1 σ σ1 V1) (R1 : rg V1 c1) (hV : ∀ (id : Nat) (i : Int), id = 1 ∨ id = 3 ∨ id = 5 ∨ id = 6 ∨ 18 ≤ id ∧ id < 23 → V1 id i = V id i) (hc : ∀ j : Int, 0 ≤ j → j ≤ 4 ∨ 654 ≤ j → c1 j = c j) (k : Int32) (hm : m_c X τ1 a = c1) (ht : tkl (mv_S X a) (fun _ _ => False) τ τ1) : mv_R X lb C a σ (q_si σ1 C 0 k) τ τ1 V c := by
  have hC1 : lb C / 8192 ≠ 1 := by omega
  refine ⟨V1, c1, ?_, hm, R1, hV, hc, fun b b1 b2 f => ?_, fun f f0 => ?_, w.2.1, ht⟩
  · rw [← w.2.2]
    funext id i
    unfold y_v
    by_cases q : id < 25 ∧ 0 ≤ i
    · rw [if_pos q, if_pos q, q_si_ne (Ne.symm (y_gA_ne Y G q.1 hC1))]
    · rw [if_neg q, if_neg q]
  · rw [q_si_ne b2]; exact w.1 b b1 f
  · rw [si_f f0]; exact w.1 C hC1 f
theorem mv_cell (hT : q_T X) (ha : q_kd X a = 12) (f : Nat) (v : Int32) : m_c X (q_si τ a f v) a = m_c X τ a := by
  have k := (tb_k hT ha).1
  funext j
  exact congrArg Int32.toInt (q_si_ne (m_ne k ha (by decide)) _)
theorem mv_none (σ : ST) (k : Int32) : F_X11_none X σ C k = (-1, q_si σ C 0 k) := by
  unfold F_X11_none
  rw [q_letE]
theorem mv_refuse (τ : ST) (k : Int32) : F_X12_refuse X τ a k = (-1, q_si τ a 0 k) := by
  unfold F_X12_refuse
  rw [q_letE]
theorem mv_good (σ : ST) (v : Int32) : F_X11_good X σ C v = (v, q_si σ C 0 0) := by
  unfold F_X11_good
  rw [q_letE]
theorem mv_yes (σ : ST) : F_X11_yes X σ C = (1, q_si σ C 0 0) := by
  unfold F_X11_yes
  rw [q_letE]
theorem mv_no (σ : ST) (k : Int32) : F_X11_no X σ C k = (0, q_si σ C 0 k) := by
  unfold F_X11_no
  rw [q_letE]
theorem mv_noM (τ : ST) (k : Int32) : F_X12_no X τ a k = (0, q_si τ a 0 k) := by
  unfold F_X12_no
  rw [q_letE]
/-- the reference looks whether it is all in the hand -/
theorem lr_holdL (hc : m_c X τ a = c) (hl : ∀ j : Int, 0 ≤ j → j < 10 → (τ.1 (q_rf X a 28) j.toNat).toInt = l j) {P : Int} (hP : c 6 = P) (bP : 0 ≤ P ∧ P < 6) (fu : Nat) : ∀ x : Int32, (2147483647 - x.toInt).toNat < fu → 0 ≤ x.toInt → x.toInt ≤ 10 → ((∀ k : Int, x.toInt ≤ k → k < 10 → l k ≤ c (34 + 10 * P + k)) ∧ F_X12_lay_L292_5 X τ a fu x = F_X12_lay_E335_6 X τ a) ∨ ((∃ k : Int, x.toInt ≤ k ∧ k < 10 ∧ c (34 + 10 * P + k) < l k) ∧ F_X12_lay_L292_5 X τ a fu x = (-1, q_si τ a 0 9)) := by
  have f6 : (τ.1 (q_rf X a 20) (6 : Int32).toNatClampNeg).toInt = P := (gm_cell (A := 6) hc rfl).trans hP
  induction fu with
  | zero => intro x h; exact absurd h (Nat.not_lt_zero _)
  | succ fu ih =>
    intro x hf x0 x1
    rw [F_X12_lay_L292_5_s]
    unfold F_X12_lay_B292_5
    by_cases q : x.toInt < 10
    · have hh := gm_handOf hc f6 (y := x) rfl bP ⟨x0, q⟩
      have hx : (τ.1 (q_rf X a 28) x.toNatClampNeg).toInt = l x.toInt := hl x.toInt x0 q
      have ex : (x + 1).toInt = x.toInt + 1 := y_inc (by omega)
      rw [if_pos q, q_letE (τ.1 (q_rf X a 28) x.toNatClampNeg), q_letE (τ.1 (q_rf X a 20) (6 : Int32).toNatClampNeg), q_letE (F_X12_handOf X τ a (τ.1 (q_rf X a 20) (6 : Int32).toNatClampNeg) x), hh, hx]
      by_cases q2 : c (34 + 10 * P + x.toInt) < l x.toInt
      · rw [if_pos q2]
        unfold F_X12_lay_E322_7
        rw [mv_refuse]
        exact Or.inr ⟨⟨x.toInt, Int.le_refl _, q, q2⟩, rfl⟩
      · rw [if_neg q2, q_letE (x + 1)]
        rcases ih (x + 1) (by omega) (by omega) (by omega) with ⟨i1, i2⟩ | ⟨⟨k, i1, i2, i3⟩, i4⟩
        · refine Or.inl ⟨fun k k0 k1 => ?_, i2⟩
          by_cases e : k = x.toInt
          · rw [e]; omega
          · exact i1 k (by omega) k1
        · exact Or.inr ⟨⟨k, by omega, i2, i3⟩, i4⟩
    · rw [if_neg q]
      exact Or.inl ⟨fun k k0 k1 => by omega, rfl⟩
theorem mv_lay (Y : y_S X lb) (G : y_G X lb (q_rf X C 8) 1) (hC : lb C / 8192 = 0) (ha : q_kd X a = 12) (R : rg (y_v X (q_rf X C 8) σ) c) (hG : m_G c) (hc : m_c X τ a = c) (p q r s : Int32) :
    ∃ (z : Int32) (σ' : ST) (z' : Int32) (τ' : ST), F_X11_lay X σ C p q r s = (z, σ') ∧ F_X12_lay X τ a p q r s = (z', τ') ∧ z.toInt = z'.toInt ∧ (σ'.1 C 0).toInt = (τ'.1 a 0).toInt ∧ mv_R X lb C a σ σ' τ τ' (y_v X (q_rf X C 8) σ) c := by
  obtain ⟨V, hV⟩ : ∃ V, V = y_v X (q_rf X C 8) σ := ⟨_, rfl⟩
  have w : y_W X lb (q_rf X C 8) 1 σ σ V := by
    rw [hV]; exact y_W.rf
  rw [← hV] at R ⊢
  obtain ⟨b0, b2, b4, b5, b6, b7, b9, b79⟩ := hG.1
  have hT := Y.1
  have t1 := R.1.1
  have t4 := R.1.2.2.2.1
  have t5 := R.1.2.2.2.2.1
  have s2 := R.2.1.2.1
  have s3 := R.2.1.2.2.1
  have s4 := R.2.1.2.2.2
  have kn : ∀ v : Int32, (F_X11_isKindOrNone X σ C v).toInt = if ly_ok (c 0) v.toInt then 1 else 0 := fun v => by
    rw [lk_kindNone w v, t1]
  have hV0 : ∀ (id : Nat) (i : Int), id = 1 ∨ id = 3 ∨ id = 5 ∨ id = 6 ∨ 18 ≤ id ∧ id < 23 → V id i = V id i := fun _ _ _ => rfl
  have hc0 : ∀ j : Int, 0 ≤ j → j ≤ 4 ∨ 654 ≤ j → c j = c j := fun _ _ _ => rfl
  rcases lr_asked (X := X) (τ := τ) hT ha hc b0 p q r s with ⟨nok, τ1, e1, m1, k1⟩ | ⟨⟨op, oq, or_, os⟩, n, g, τ1, e1, hn, hg, m1, st1, k1, hl⟩
  · refine ⟨-1, q_si σ C 0 2, -1, q_si τ1 a 0 2, ?_, e1, rfl, by rw [si_eq, si_eq], mv_mk Y G hC w R hV0 hc0 2 ((mv_cell hT ha 0 2).trans m1) (k1.si _ (Or.inr (Or.inl ⟨rfl, Or.inl rfl⟩)))⟩
    unfold F_X11_lay
    rw [q_letE (F_X11_isKindOrNone X σ C p), kn p]
    by_cases op : ly_ok (c 0) p.toInt
    · rw [if_pos op, if_neg (by decide : ¬ (1 : Int) = 0), q_letE (F_X11_isKindOrNone X σ C q), kn q]
      by_cases oq : ly_ok (c 0) q.toInt
      · rw [if_pos oq, if_neg (by decide : ¬ (1 : Int) = 0), q_letE (F_X11_isKindOrNone X σ C r), kn r]
        by_cases or_ : ly_ok (c 0) r.toInt
        · rw [if_pos or_, if_neg (by decide : ¬ (1 : Int) = 0), q_letE (F_X11_isKindOrNone X σ C s), kn s, if_neg (fun os => nok ⟨op, oq, or_, os⟩), if_pos rfl, mv_none]
          rfl
        · rw [if_neg or_, if_pos rfl, mv_none]
          rfl
      · rw [if_neg oq, if_pos rfl, mv_none]
        rfl
    · rw [if_neg op, if_pos rfl, mv_none]
      rfl
  -- all of them kinds or none
  have m10 : ∀ v : Int, ly_ok (c 0) v → ly_ok 10 v := fun v h => by
    unfold ly_ok at h ⊢
    omega
  have np : p.toInt = -1 ∧ ly_n p.toInt = 0 ∨ p.toInt ≠ -1 ∧ ly_n p.toInt = 1 := by
    unfold ly_n
    split
    · exact Or.inl ⟨by assumption, rfl⟩
    · exact Or.inr ⟨by assumption, rfl⟩
  have nq : q.toInt = -1 ∧ ly_n q.toInt = 0 ∨ q.toInt ≠ -1 ∧ ly_n q.toInt = 1 := by
    unfold ly_n
    split
    · exact Or.inl ⟨by assumption, rfl⟩
    · exact Or.inr ⟨by assumption, rfl⟩
  have nr : r.toInt = -1 ∧ ly_n r.toInt = 0 ∨ r.toInt ≠ -1 ∧ ly_n r.toInt = 1 := by
    unfold ly_n
    split
    · exact Or.inl ⟨by assumption, rfl⟩
    · exact Or.inr ⟨by assumption, rfl⟩
  have ns : s.toInt = -1 ∧ ly_n s.toInt = 0 ∨ s.toInt ≠ -1 ∧ ly_n s.toInt = 1 := by
    unfold ly_n
    split
    · exact Or.inl ⟨by assumption, rfl⟩
    · exact Or.inr ⟨by assumption, rfl⟩
  have cls : F_X11_lay X σ C p q r s = if p.toInt ≠ -1 ∧ (q.toInt = -1 → r.toInt = -1) ∧ (r.toInt = -1 → s.toInt = -1) then F_X11_lay_J71_2 X σ C p q r s else (-1, q_si σ C 0 5) := by
    unfold F_X11_lay
    rw [q_letE (F_X11_isKindOrNone X σ C p), kn p, if_pos op, if_neg (by decide : ¬ (1 : Int) = 0), q_letE (F_X11_isKindOrNone X σ C q), kn q, if_pos oq, if_neg (by decide : ¬ (1 : Int) = 0), q_letE (F_X11_isKindOrNone X σ C r), kn r, if_pos or_, if_neg (by decide : ¬ (1 : Int) = 0), q_letE (F_X11_isKindOrNone X σ C s), kn s, if_pos os, if_neg (by decide : ¬ (1 : Int) = 0)]
    by_cases qp : p.toInt = -1
    · rw [if_pos qp, if_neg (fun z => z.1 qp), mv_none]
      rfl
    · rw [if_neg qp]
      have j54 : F_X11_lay_J54_1 X r s σ C p q = if r.toInt = -1 → s.toInt = -1 then F_X11_lay_J71_2 X σ C p q r s else (-1, q_si σ C 0 5) := by
        unfold F_X11_lay_J54_1
        by_cases qr : r.toInt = -1
        · rw [if_pos qr]
          by_cases qs : s.toInt = -1
          · rw [if_pos qs, if_pos (fun _ => qs)]
          · rw [if_neg qs, if_neg (fun z => qs (z qr)), mv_none]
            rfl
        · rw [if_neg qr, if_pos (fun z => absurd z qr)]
      by_cases qq : q.toInt = -1
      · rw [if_pos qq]
        by_cases qr : r.toInt = -1
        · rw [if_pos qr, j54]
          by_cases e : r.toInt = -1 → s.toInt = -1
          · rw [if_pos e, if_pos ⟨qp, fun _ => qr, e⟩]
          · rw [if_neg e, if_neg (fun z => e z.2.2)]
        · rw [if_neg qr, if_neg (fun z => qr (z.2.1 qq)), mv_none]
          rfl
      · rw [if_neg qq, j54]
        by_cases e : r.toInt = -1 → s.toInt = -1
        · rw [if_pos e, if_pos ⟨qp, fun z => absurd z qq, e⟩]
        · rw [if_neg e, if_neg (fun z => e z.2.2)]
  have mref : ∀ k : Int32, m_c X (q_si τ1 a 0 k) a = c := fun k => (mv_cell hT ha 0 k).trans m1
  have tref : ∀ k : Int32, tkl (mv_S X a) (fun _ _ => False) τ (q_si τ1 a 0 k) := fun k => k1.si _ (Or.inr (Or.inl ⟨rfl, Or.inl rfl⟩))
  rw [e1, cls]
  by_cases ord : ¬ (p.toInt ≠ -1 ∧ (q.toInt = -1 → r.toInt = -1) ∧ (r.toInt = -1 → s.toInt = -1))
  · rw [if_neg ord]
    refine ⟨-1, q_si σ C 0 5, -1, q_si τ1 a 0 5, rfl, ?_, rfl, by rw [si_eq, si_eq], mv_mk Y G hC w R hV0 hc0 5 (mref 5) (tref 5)⟩
    unfold F_X12_lay_E217_7
    by_cases n0 : n.toInt = 0
    · rw [if_pos n0, mv_refuse]
      rfl
    · rw [if_neg n0]
      by_cases g0 : g.toInt = 0
      · exfalso
        have h := hg.mp g0
        clear hg hl cls kn hV0 hc0 mref tref m10 e1
        omega
      · rw [if_neg g0, mv_refuse]
        rfl
  have ord' := Classical.not_not.mp ord
  rw [if_pos ord']
  have n1 : 1 ≤ n.toInt ∧ n.toInt ≤ 4 := by
    clear hg hl cls kn hV0 hc0 mref tref m10 e1
    omega
  have g0 : g.toInt = 0 := hg.mpr (by
    clear hg hl cls kn hV0 hc0 mref tref m10 e1
    omega)
  -- what is wanted
  have gn23 : ((y_gn 23 : Nat) : Int) = 10 := rfl
  obtain ⟨σ4, e4, V4, w4, v4, v23, v9⟩ : ∃ σ4 : ST, σ4 = F_X0_want X (F_X0_want X (F_X0_want X (F_X0_want X (F_X0_clearWanted X σ (q_rf X C 8)) (q_rf X C 8) p 1) (q_rf X C 8) q 1) (q_rf X C 8) r 1) (q_rf X C 8) s 1 ∧ ∃ V4 : Nat → Int → Int, y_W X lb (q_rf X C 8) 1 σ σ4 V4 ∧ (∀ (id : Nat) (i : Int), id ≠ 23 → (id ≠ 0 ∨ i ≠ 9) → V4 id i = V id i) ∧ (∀ j : Int, 0 ≤ j → j < 10 → V4 23 j = ly_l p.toInt q.toInt r.toInt s.toInt j) ∧ V4 0 9 = n.toInt := by
    refine ⟨_, rfl, ?_⟩
    have z0 : (0 : Int32).toInt = 0 := rfl
    have dc : F_X0_clearWanted X σ (q_rf X C 8) = q_si (F_X5_clear X σ (q_rf X (q_rf X C 8) 8)) (q_rf X C 8) 9 0 := by
      unfold F_X0_clearWanted
      rw [q_letE, q_letE]
    have wa := w.clear Y G (id := 23) (r := q_rf X (q_rf X C 8) 8) ⟨by decide, by decide⟩ rfl
    have wb : y_W X lb (q_rf X C 8) 1 σ (q_si (F_X5_clear X σ (q_rf X (q_rf X C 8) 8)) (q_rf X C 8) 9 0) (y_up (y_bl V 23 ((y_gn 23 : Nat) : Int) (fun _ => 0)) 0 9 0) := wa.si Y G (id := 0) (by decide) 9 0
    rw [← dc] at wb
    have x23 : ∀ j : Int, 0 ≤ j → j < 10 → y_up (y_bl V 23 ((y_gn 23 : Nat) : Int) (fun _ => 0)) 0 9 0 23 j = 0 := fun j j0 j1 => (y_up_ne (Or.inl (by decide))).trans (if_pos ⟨rfl, j0, by rw [gn23]; exact j1⟩)
    have x9 : y_up (y_bl V 23 ((y_gn 23 : Nat) : Int) (fun _ => 0)) 0 9 0 0 9 = 0 := y_up_eq _ _ _ _
    have xs : ∀ (id : Nat) (i : Int), id ≠ 23 → (id ≠ 0 ∨ i ≠ 9) → y_up (y_bl V 23 ((y_gn 23 : Nat) : Int) (fun _ => 0)) 0 9 0 id i = V id i := fun id i i23 i0 => (y_up_ne i0).trans (if_neg (fun z => i23 z.1))
    obtain ⟨Vb, hVb⟩ : ∃ v, v = y_up (y_bl V 23 ((y_gn 23 : Nat) : Int) (fun _ => 0)) 0 9 0 := ⟨_, rfl⟩
    rw [← hVb] at wb x23 x9 xs
    obtain ⟨Vp, wp, sp, p23, p9⟩ := ly_want Y G wb (m10 _ op) (fun j j0 j1 => by rw [x23 j j0 j1]; omega) (by rw [x9]; omega)
    obtain ⟨Vq, wq, sq, q23, q9⟩ := ly_want Y G wp (m10 _ oq) (fun j j0 j1 => by rw [p23 j j0 j1, x23 j j0 j1]; have := ly_1b p.toInt j; omega) (by rw [p9, x9]; omega)
    obtain ⟨Vr, wr, sr, r23, r9⟩ := ly_want Y G wq (m10 _ or_) (fun j j0 j1 => by rw [q23 j j0 j1, p23 j j0 j1, x23 j j0 j1]; have := ly_1b p.toInt j; have := ly_1b q.toInt j; omega) (by rw [q9, p9, x9]; omega)
    obtain ⟨Vs, ws, ss, s23, s9⟩ := ly_want Y G wr (m10 _ os) (fun j j0 j1 => by rw [r23 j j0 j1, q23 j j0 j1, p23 j j0 j1, x23 j j0 j1]; have := ly_1b p.toInt j; have := ly_1b q.toInt j; have := ly_1b r.toInt j; omega) (by rw [r9, q9, p9, x9]; omega)
    refine ⟨Vs, ws, fun id i i23 i0 => ?_, fun j j0 j1 => ?_, ?_⟩
    · rw [ss id i i23 i0, sr id i i23 i0, sq id i i23 i0, sp id i i23 i0, xs id i i23 i0]
    · rw [s23 j j0 j1, r23 j j0 j1, q23 j j0 j1, p23 j j0 j1, x23 j j0 j1]
      unfold ly_l
      omega
    · rw [s9, r9, q9, p9, x9, hn]; omega
  have R4 : rg V4 c := R.w hG (fun id i i23 i24 i0 => v4 id i i23 (by omega))
  have hV4 : ∀ (id : Nat) (i : Int), id = 1 ∨ id = 3 ∨ id = 5 ∨ id = 6 ∨ 18 ≤ id ∧ id < 23 → V4 id i = V id i := fun id i h => v4 id i (by omega) (by omega)
  have cref : ∀ k : Int32, mv_R X lb C a σ (q_si σ4 C 0 k) τ (q_si τ1 a 0 k) V c := fun k => mv_mk Y G hC w4 R4 hV4 hc0 k (mref k) (tref k)
  have f40 : (σ4.1 (q_rf X C 8) 9).toInt = n.toInt := (w4.rd (id := 0) (by decide) 9 rfl).trans v9
  have f41 : (σ4.1 (q_rf X (q_rf X C 8) 0) 3).toInt = c 4 := (w4.rd (id := 1) (by decide) 3 rfl).trans R4.1.2.2.2.1
  have f43 : (σ4.1 (q_rf X C 8) 7).toInt = c 7 := (w4.rd (id := 0) (by decide) 7 rfl).trans R4.2.1.2.2.2
  have f48 : (σ4.1 (q_rf X C 8) 6).toInt = c 8 := (w4.rd (id := 0) (by decide) 6 rfl).trans R4.2.1.2.2.1.1
  have f53 : (σ4.1 (q_rf X (q_rf X C 8) 0) 4).toInt = c 2 := (w4.rd (id := 1) (by decide) 4 rfl).trans R4.1.2.2.2.2.1
  have g4 : (τ1.1 (q_rf X a 20) (4 : Int32).toNatClampNeg).toInt = c 4 := gm_cell (A := 4) m1 rfl
  have g7 : (τ1.1 (q_rf X a 20) (7 : Int32).toNatClampNeg).toInt = c 7 := gm_cell (A := 7) m1 rfl
  have g8 : (τ1.1 (q_rf X a 20) (8 : Int32).toNatClampNeg).toInt = c 8 := gm_cell (A := 8) m1 rfl
  have g6 : (τ1.1 (q_rf X a 20) (6 : Int32).toNatClampNeg).toInt = c 6 := gm_cell (A := 6) m1 rfl
  unfold F_X11_lay_J71_2 F_X12_lay_E217_7
  rw [q_letE (F_X0_clearWanted X σ (q_rf X C 8)), q_letE (F_X0_want X (F_X0_clearWanted X σ (q_rf X C 8)) (q_rf X C 8) p 1), q_letE (F_X0_want X (F_X0_want X (F_X0_clearWanted X σ (q_rf X C 8)) (q_rf X C 8) p 1) (q_rf X C 8) q 1), q_letE (F_X0_want X (F_X0_want X (F_X0_want X (F_X0_clearWanted X σ (q_rf X C 8)) (q_rf X C 8) p 1) (q_rf X C 8) q 1) (q_rf X C 8) r 1), q_letE (F_X0_want X (F_X0_want X (F_X0_want X (F_X0_want X (F_X0_clearWanted X σ (q_rf X C 8)) (q_rf X C 8) p 1) (q_rf X C 8) q 1) (q_rf X C 8) r 1) (q_rf X C 8) s 1), ← e4]
  rw [q_letE (σ4.1 (q_rf X C 8) 9), q_letE (σ4.1 (q_rf X (q_rf X C 8) 0) 3), f40, f41, if_neg (by omega : ¬ n.toInt = 0), if_pos g0, q_letE (τ1.1 (q_rf X a 20) (4 : Int32).toNatClampNeg), g4]
  by_cases qm : c 4 < n.toInt
  · rw [if_pos qm, if_pos qm, mv_none, mv_refuse]
    exact ⟨-1, _, -1, _, rfl, rfl, rfl, by rw [si_eq, si_eq], cref 7⟩
  rw [if_neg qm, if_neg qm, q_letE (σ4.1 (q_rf X C 8) 7), f43, q_letE (τ1.1 (q_rf X a 20) (7 : Int32).toNatClampNeg), g7]
  by_cases q7 : c 7 = 1
  · rw [if_neg (by omega : ¬ c 7 = 0), if_pos q7, mv_none, mv_refuse]
    exact ⟨-1, _, -1, _, rfl, rfl, rfl, by rw [si_eq, si_eq], cref 9⟩
  rw [if_pos (by omega : c 7 = 0), if_neg q7, q_letE (σ4.1 (q_rf X C 8) 6), f48, q_letE (τ1.1 (q_rf X a 20) (8 : Int32).toNatClampNeg), g8]
  by_cases q8 : ¬ c 8 = -1
  · rw [if_neg q8, if_neg (by have := s3.2; omega : ¬ c 8 < 0), mv_none, mv_refuse]
    exact ⟨-1, _, -1, _, rfl, rfl, rfl, by rw [si_eq, si_eq], cref 9⟩
  have q8' := Classical.not_not.mp q8
  rw [if_pos q8', if_pos (by omega : c 8 < 0), q_letE (σ4.1 (q_rf X (q_rf X C 8) 0) 4), f53, q_letE (τ1.1 (q_rf X a 20) (6 : Int32).toNatClampNeg), g6]
  by_cases q2 : c 2 = 0
  · rw [if_pos q2, if_pos (by omega : c 6 < 0), mv_none, mv_refuse]
    exact ⟨-1, _, -1, _, rfl, rfl, rfl, by rw [si_eq, si_eq], cref 9⟩
  rw [if_neg q2, if_neg (by omega : ¬ c 6 < 0)]
  have hP : 0 ≤ c 6 ∧ c 6 < c 2 := by omega
  have p5 : V4 0 5 = c 6 := by
    have z := R4.2.1.2.1
    rw [if_neg q2] at z
    exact z
  have zero : (0 : Int32).toInt = 0 := rfl
  have ho := ly_holdL Y G w4 (N := c 0) R4.1.1 ⟨by omega, by omega⟩ p5 ⟨hP.1, by omega⟩ ((2147483647 - (0 : Int32).toInt).toNat + 1) 0 (by decide) (by decide) (by rw [zero]; omega)
  have hm := lr_holdL (X := X) (τ := τ1) (l := ly_l p.toInt q.toInt r.toInt s.toInt) m1 hl rfl ⟨hP.1, by omega⟩ ((2147483647 - (0 : Int32).toInt).toNat + 1) 0 (by decide) (by decide) (by decide)
  obtain ⟨FU, hFU⟩ : ∃ f, f = (2147483647 - (0 : Int32).toInt).toNat + 1 := ⟨_, rfl⟩
  rw [← hFU, zero] at ho hm
  -- cards of kinds that are not there are not wanted
  have lz : ∀ k : Int, c 0 ≤ k → k < 10 → ly_l p.toInt q.toInt r.toInt s.toInt k = 0 := fun k k0 k1 => by
    have h1 : ∀ v : Int, ly_ok (c 0) v → ly_1 v k = 0 := fun v h => by
      unfold ly_ok at h
      unfold ly_1
      rw [if_neg (by omega)]
    unfold ly_l
    rw [h1 _ op, h1 _ oq, h1 _ or_, h1 _ os]
    rfl
  have lnn : ∀ k : Int, 0 ≤ ly_l p.toInt q.toInt r.toInt s.toInt k := fun k => by
    have h1 := ly_1b p.toInt k
    have h2 := ly_1b q.toInt k
    have h3 := ly_1b r.toInt k
    have h4 := ly_1b s.toInt k
    unfold ly_l
    omega
  have v7 : ∀ k : Int, 0 ≤ k → k < 10 → V4 7 (10 * c 6 + k) = c (34 + 10 * c 6 + k) := fun k k0 k1 => by
    have z := R4.2.2.2.1.1 (10 * c 6 + k) (by omega) (by omega)
    have e : (34 : Int) + (10 * c 6 + k) = 34 + 10 * c 6 + k := by omega
    rw [e] at z
    exact z
  have hw : F_X0_holdsWanted X σ4 (q_rf X C 8) = F_X0_holdsWanted_L2_1 X σ4 (q_rf X C 8) ((2147483647 - (0 : Int32).toInt).toNat + 1) 0 := rfl
  rw [q_letE (F_X0_holdsWanted X σ4 (q_rf X C 8)), hw, ← hFU]
  rcases hm with ⟨hall, em⟩ | ⟨⟨k, k0, k1, kl⟩, em⟩
  · have h1 := ho.2.mpr (fun k k0 k1 => by rw [v23 k k0 (by omega), v7 k k0 (by omega)]; exact hall k k0 (by omega))
    rw [h1, if_neg (by decide : ¬ (1 : Int) = 0), em]
    have sl : m_S (ly_l p.toInt q.toInt r.toInt s.toInt) 0 10 = n.toInt := by
      rw [ly_S (m10 _ op) (m10 _ oq) (m10 _ or_) (m10 _ os), hn]
    have lo : m_lo c (ly_l p.toInt q.toInt r.toInt s.toInt) (c 6) := ⟨hG, ⟨hP.1, by omega⟩, fun k k0 k1 => ⟨lnn k, hall k k0 k1⟩, by rw [sl]; exact n1⟩
    have b79' := lo.c9
    have s80 := hG.S80 (p := c 6) (k := 10) hP.1 (by omega) (by decide) (by decide)
    have z10 : m_S c (34 + 10 * c 6) (10 : Int).toNat = m_S c (34 + 10 * c 6) 10 := rfl
    have l80 := hG.L80 b9.1 (Int.le_refl (c 9))
    have gp : gl_p V4 (ly_l p.toInt q.toInt r.toInt s.toInt) (c 6) (c 9) (c 0) := by
      refine ⟨p5, R4.1.1, ⟨hP.1, by omega⟩, ⟨by omega, by omega⟩, ⟨by omega, by omega⟩, fun t t0 t1 => ⟨v23 t t0 t1, lnn t⟩, by rw [sl]; exact n1.2, ?_, fun t t0 t1 => ⟨?_, ?_⟩, ?_⟩
      · rw [R4.2.2.2.2.1.2.1]; omega
      · rw [v7 t t0 t1]
        have := hG.h80 (p := c 6) (k := t) hP.1 (by omega) t0 t1
        omega
      · rw [R4.2.2.2.2.2.1 (c 6) t hP.1 (by omega) t0 t1]
        have := hG.A_bd (c 6) t (c 9).toNat (by omega)
        omega
      · rw [R4.2.2.2.1.2 (c 6) hP.1 (by omega)]; omega
    obtain ⟨V5, w5, gv⟩ := gm_layWanted Y G w4 gp R4.2.2.2.2.1.1
    unfold F_X12_lay_E335_6
    rw [q_letE (F_X0_layWanted X σ4 (q_rf X C 8)), q_letE (τ1.1 (q_rf X a 20) (6 : Int32).toNatClampNeg)]
    obtain ⟨c', mc, tc, gr, gG⟩ := gm_laysDown (X := X) (τ := τ1) hT ha m1 lo rfl (v1 := τ1.1 (q_rf X a 20) (6 : Int32).toNatClampNeg) g6 hl
    rw [q_letE (F_X12_laysDown X τ1 a (τ1.1 (q_rf X a 20) (6 : Int32).toNatClampNeg) (q_rf X a 28))]
    obtain ⟨σ5, e5⟩ : ∃ t, t = F_X0_layWanted X σ4 (q_rf X C 8) := ⟨_, rfl⟩
    obtain ⟨τ5, u5⟩ : ∃ t, t = F_X12_laysDown X τ1 a (τ1.1 (q_rf X a 20) (6 : Int32).toNatClampNeg) (q_rf X a 28) := ⟨_, rfl⟩
    rw [← e5] at w5 ⊢
    rw [← u5] at mc tc ⊢
    have R5 := rg.lay R4 lo rfl gv gr
    rw [q_letE (σ5.1 (q_rf X (q_rf X C 8) 2) 1), mv_good, q_letE (F_X12_heapMany X τ5 a)]
    have na0 : a ≠ q_rf X a 20 := Ne.symm (m_ne (tb_k hT ha).1 ha (by decide))
    refine ⟨_, _, _, τ5, rfl, rfl, ?_, ?_, mv_mk Y G hC w5 R5 (fun id i h => ?_) (fun j j0 h => ?_) 0 mc (k1.tr (tc.mono (fun b f z => Or.inl z) (fun _ _ z => z)))⟩
    · rw [lk_heap mc gG]
      exact (w5.rd (id := 2) (by decide) 1 rfl).trans R5.2.2.2.2.1.2.1
    · rw [si_eq, tc.1 a 0 na0, st1]
      rfl
    · rw [y_up_ne (by omega), gv.1 id i (by omega) (by omega) (by omega) (by omega) (by omega) (by omega) (by omega) (by omega)]
      exact hV4 id i h
    · exact gr.1 j j0 (by omega) (by omega) (by omega) (by omega)
  · have h1 : (F_X0_holdsWanted_L2_1 X σ4 (q_rf X C 8) FU 0).toInt = 0 := by
      rcases ho.1 with h | h
      · have z := ho.2.mp h k k0 (by
          by_cases e : c 0 ≤ k
          · have y := lz k e k1
            have x := hG.h80 (p := c 6) (k := k) hP.1 (by omega) k0 k1
            omega
          · omega)
        rw [v23 k k0 k1, v7 k k0 k1] at z
        omega
      · exact h
    rw [h1, if_pos rfl, em, mv_none]
    exact ⟨-1, _, -1, _, rfl, rfl, rfl, by rw [si_eq, si_eq], cref 9⟩
end GM

/-! FROM 49n.movers.lean.txt -/
/-! LEAVE, DOUBT, BEND CALLED -/
theorem rg.bend {V V' : Nat → Int → Int} {c c' : Int → Int} (R : rg V c) (hV : ∀ (id : Nat) (i : Int), id ≠ 10 → id ≠ 11 → V' id i = V id i) (hc : ∀ j : Int, j < 10 ∨ 22 ≤ j → c' j = c j) (hp : ∀ p : Int, 0 ≤ p → p < 6 → V' 10 p = c' (10 + p) ∧ V' 11 p = c' (16 + p)) : rg V' c' := by
  obtain ⟨⟨t1, t2, t3, t4, t5, t6⟩, ⟨s1, s2, s3, s4⟩, hpp, ⟨h1, h2⟩, ⟨l1, l2, l3⟩, ⟨a1, a2⟩⟩ := R
  obtain ⟨lS, lL, lK, lA, lP⟩ := gm_low (c := c) (c' := c') (fun j hj => hc j (by omega))
  have e9 : c' 9 = c 9 := hc 9 (by decide)
  have e2 : c' 2 = c 2 := hc 2 (by decide)
  have u : ∀ (id : Nat) (i : Int), (id < 10 ∨ 11 < id) → V' id i = V id i := fun id i h => hV id i (by omega) (by omega)
  refine ⟨⟨?_, ?_, ?_, ?_, ?_, ?_⟩, ⟨?_, ?_, ?_, ?_⟩, fun p p0 p1 => ⟨(hp p p0 p1).1, (hp p p0 p1).2, ?_, ?_⟩, ⟨fun j j0 j1 => ?_, fun p p0 p1 => ?_⟩, ⟨?_, ?_, fun k k0 k1 => ?_⟩, ⟨fun p k p0 p1 k0 k1 => ?_, fun k k0 k1 => ?_⟩⟩
  · rw [u 1 0 (by decide), hc 0 (by decide)]; exact t1
  · rw [u 1 1 (by decide), hc 1 (by decide)]; exact t2
  · rw [u 1 2 (by decide), hc 3 (by decide)]; exact t3
  · rw [u 1 3 (by decide), hc 4 (by decide)]; exact t4
  · rw [u 1 4 (by decide), e2]; exact t5
  · rw [hc 3 (by decide)]; exact t6
  · rw [u 0 4 (by decide), hc 5 (by decide)]; exact s1
  · rw [u 0 5 (by decide), e2, hc 6 (by decide)]; exact s2
  · rw [u 0 6 (by decide), hc 8 (by decide)]; exact s3
  · rw [u 0 7 (by decide), hc 7 (by decide)]; exact s4
  · rw [u 12 p (by decide), hc _ (by omega)]; exact (hpp p p0 p1).2.2.1
  · rw [u 13 p (by decide), hc _ (by omega)]; exact (hpp p p0 p1).2.2.2
  · rw [u 7 j (by decide), hc _ (by omega)]; exact h1 j j0 j1
  · rw [u 9 p (by decide), lS _ _ (by omega)]; exact h2 p p0 p1
  · rw [u 2 0 (by decide), e9]; exact l1
  · rw [u 2 1 (by decide), e9, lL]; exact l2
  · rw [e9] at k1
    obtain ⟨y1, y2, y3, y5, y4⟩ := l3 k k0 k1
    rw [u 14 k (by decide), u 15 k (by decide), u 16 k (by decide), hc (94 + 7 * k) (by omega), hc (94 + 7 * k + 1) (by omega), hc (94 + 7 * k + 2) (by omega)]
    refine ⟨y1, y2, y3, y5, fun i i0 i1 => ?_⟩
    rw [u 17 _ (by decide), hc _ (by omega)]
    exact y4 i i0 i1
  · rw [u 8 _ (by decide), e9, lA]; exact a1 p k p0 p1 k0 k1
  · rw [u 4 k (by decide)]
    unfold m_I
    rw [e9, e2, lA, lP _ _ k0]
    exact a2 k k0 k1
section GN
variable {X : XW} {lb : Nat → Nat} {C a : Nat} {σ τ σ1 τ1 : ST} {V V1 : Nat → Int → Int} {c c1 l : Int → Int}
/-- the reference's call begins -/
theorem mv_beg (hT : q_T X) (ha : q_kd X a = 12) (hc : m_c X τ a = c) : m_c X (q_si (q_si τ a 1 0) a 0 0) a = c ∧ (q_si (q_si τ a 1 0) a 0 0).1 a 0 = 0 ∧ tkl (mv_S X a) (fun _ _ => False) τ (q_si (q_si τ a 1 0) a 0 0) := by
  refine ⟨?_, si_eq _ _ _ _, (tkl.rf.si _ (Or.inr (Or.inl ⟨rfl, Or.inr rfl⟩))).si _ (Or.inr (Or.inl ⟨rfl, Or.inl rfl⟩))⟩
  rw [mv_cell hT ha 0 0, mv_cell hT ha 1 0, hc]
theorem mv_leave (Y : y_S X lb) (G : y_G X lb (q_rf X C 8) 1) (hC : lb C / 8192 = 0) (ha : q_kd X a = 12) (R : rg (y_v X (q_rf X C 8) σ) c) (hG : m_G c) (hc : m_c X τ a = c) :
    ∃ (z : Int32) (σ' : ST) (z' : Int32) (τ' : ST), F_X11_leave X σ C = (z, σ') ∧ F_X12_leave X τ a = (z', τ') ∧ z.toInt = z'.toInt ∧ (σ'.1 C 0).toInt = (τ'.1 a 0).toInt ∧ mv_R X lb C a σ σ' τ τ' (y_v X (q_rf X C 8) σ) c := by
  obtain ⟨V, hV⟩ : ∃ V, V = y_v X (q_rf X C 8) σ := ⟨_, rfl⟩
  have w : y_W X lb (q_rf X C 8) 1 σ σ V := by
    rw [hV]; exact y_W.rf
  rw [← hV] at R ⊢
  obtain ⟨b0, b2, b4, b5, b6, b7, b9, b79⟩ := hG.1
  obtain ⟨m2, s2, k2⟩ := mv_beg Y.1 ha hc
  have f1 : (σ.1 (q_rf X C 8) 7).toInt = c 7 := (w.rd (id := 0) (by decide) 7 rfl).trans R.2.1.2.2.2
  unfold F_X11_leave F_X12_leave
  rw [q_letE (σ.1 (q_rf X C 8) 7), f1, q_letE (q_si τ a 1 0), q_letE (q_si (q_si τ a 1 0) a 0 0)]
  obtain ⟨τ2, e2⟩ : ∃ t, t = q_si (q_si τ a 1 0) a 0 0 := ⟨_, rfl⟩
  rw [← e2] at m2 s2 k2 ⊢
  have g7 : (τ2.1 (q_rf X a 20) (7 : Int32).toNatClampNeg).toInt = c 7 := gm_cell (A := 7) m2 rfl
  rw [q_letE (τ2.1 (q_rf X a 20) (7 : Int32).toNatClampNeg), g7]
  by_cases q : c 7 = 0
  · rw [if_pos q, if_pos q, mv_none, mv_refuse]
    exact ⟨-1, _, -1, _, rfl, rfl, rfl, by rw [si_eq, si_eq], mv_mk Y G hC w R (fun _ _ _ => rfl) (fun _ _ _ => rfl) 8 ((mv_cell Y.1 ha 0 8).trans m2) (k2.si _ (Or.inr (Or.inl ⟨rfl, Or.inl rfl⟩)))⟩
  · rw [if_neg q, if_neg q]
    obtain ⟨V', c', w3, m3, t3, R3, hV', hc', -⟩ := gm_letLie Y G ha w R hG m2 (by omega)
    rw [q_letE (F_X0_letLie X σ (q_rf X C 8)), q_letE (F_X12_leaves X τ2 a)]
    obtain ⟨σ3, e3⟩ : ∃ t, t = F_X0_letLie X σ (q_rf X C 8) := ⟨_, rfl⟩
    obtain ⟨τ3, u3⟩ : ∃ t, t = F_X12_leaves X τ2 a := ⟨_, rfl⟩
    rw [← e3] at w3 ⊢
    rw [← u3] at m3 t3 ⊢
    rw [q_letE (σ3.1 (q_rf X C 8) 5), q_letE (τ3.1 (q_rf X a 20) (6 : Int32).toNatClampNeg), mv_good]
    have na0 : a ≠ q_rf X a 20 := Ne.symm (m_ne (tb_k Y.1 ha).1 ha (by decide))
    refine ⟨_, _, _, τ3, rfl, rfl, ?_, ?_, mv_mk Y G hC w3 R3 (fun id i h => hV' id i (by omega)) (fun j j0 h => hc' j (by omega) (by omega) (by omega) (by omega)) 0 m3 (k2.tr (t3.mono (fun b f z => Or.inl z) (fun _ _ z => z)))⟩
    · have z5 := R3.2.1.2.1
      rw [if_neg (by rw [hc' 2 (by decide) (by decide) (by decide) (by decide)]; omega)] at z5
      have f5 : (σ3.1 (q_rf X C 8) 5).toInt = V' 0 5 := w3.rd (id := 0) (by decide) 5 rfl
      exact f5.trans (z5.trans (gm_cell (A := 6) m3 rfl).symm)
    · rw [si_eq, t3.1 a 0 na0, s2]
theorem mv_doubt (Y : y_S X lb) (G : y_G X lb (q_rf X C 8) 1) (hC : lb C / 8192 = 0) (ha : q_kd X a = 12) (R : rg (y_v X (q_rf X C 8) σ) c) (hG : m_G c) (hW : ∀ q : Int, 0 ≤ q → q < 6 → (0 ≤ c (22 + q) ∧ c (22 + q) ≤ 1000000) ∧ 0 ≤ c (28 + q) ∧ c (28 + q) ≤ 1000000) (hc : m_c X τ a = c) (v : Int32) :
    ∃ (z : Int32) (σ' : ST) (z' : Int32) (τ' : ST), F_X11_doubt X σ C v = (z, σ') ∧ F_X12_doubt X τ a v = (z', τ') ∧ z.toInt = z'.toInt ∧ (σ'.1 C 0).toInt = (τ'.1 a 0).toInt ∧ mv_R X lb C a σ σ' τ τ' (y_v X (q_rf X C 8) σ) c := by
  obtain ⟨V, hV⟩ : ∃ V, V = y_v X (q_rf X C 8) σ := ⟨_, rfl⟩
  have w : y_W X lb (q_rf X C 8) 1 σ σ V := by
    rw [hV]; exact y_W.rf
  rw [← hV] at R ⊢
  obtain ⟨b0, b2, b4, b5, b6, b7, b9, b79⟩ := hG.1
  obtain ⟨m2, s2, k2⟩ := mv_beg Y.1 ha hc
  have f7 : (σ.1 (q_rf X C 8) 7).toInt = c 7 := (w.rd (id := 0) (by decide) 7 rfl).trans R.2.1.2.2.2
  have f5 : (σ.1 (q_rf X C 8) 5).toInt = V 0 5 := w.rd (id := 0) (by decide) 5 rfl
  have pc := lk_player w v
  rw [R.1.2.2.2.2.1] at pc
  unfold F_X11_doubt F_X11_doubterStatus F_X12_doubt
  rw [q_letE (F_X11_isPlayer X σ C v), pc, q_letE (q_si τ a 1 0), q_letE (q_si (q_si τ a 1 0) a 0 0)]
  obtain ⟨τ2, e2⟩ : ∃ t, t = q_si (q_si τ a 1 0) a 0 0 := ⟨_, rfl⟩
  rw [← e2] at m2 s2 k2 ⊢
  have pm := lk_playerAt m2 b2 v
  have g7 : (τ2.1 (q_rf X a 20) (7 : Int32).toNatClampNeg).toInt = c 7 := gm_cell (A := 7) m2 rfl
  have g6 : (τ2.1 (q_rf X a 20) (6 : Int32).toNatClampNeg).toInt = c 6 := gm_cell (A := 6) m2 rfl
  rw [q_letE (F_X12_isPlayerAt X τ2 a v), pm]
  have ref : ∀ k : Int32, mv_R X lb C a σ (q_si σ C 0 k) τ (q_si τ2 a 0 k) V c := fun k => mv_mk Y G hC w R (fun _ _ _ => rfl) (fun _ _ _ => rfl) k ((mv_cell Y.1 ha 0 k).trans m2) (k2.si _ (Or.inr (Or.inl ⟨rfl, Or.inl rfl⟩)))
  by_cases q : ¬ (0 ≤ v.toInt ∧ v.toInt < c 2)
  · rw [if_neg q, if_pos rfl, if_pos rfl, q_letE (2 : Int32), if_neg (by decide : ¬ (2 : Int32).toInt = 0), mv_none, mv_refuse]
    exact ⟨-1, _, -1, _, rfl, rfl, rfl, by rw [si_eq, si_eq], ref 2⟩
  have q' := Classical.not_not.mp q
  rw [if_pos q', if_neg (by decide : ¬ (1 : Int) = 0), if_neg (by decide : ¬ (1 : Int) = 0), q_letE (σ.1 (q_rf X C 8) 7), f7, q_letE (τ2.1 (q_rf X a 20) (7 : Int32).toNatClampNeg), g7]
  by_cases q7 : c 7 = 0
  · rw [if_pos q7, if_pos q7, q_letE (8 : Int32), if_neg (by decide : ¬ (8 : Int32).toInt = 0), mv_none, mv_refuse]
    exact ⟨-1, _, -1, _, rfl, rfl, rfl, by rw [si_eq, si_eq], ref 8⟩
  have v5 : V 0 5 = c 6 := by
    have z := R.2.1.2.1
    rw [if_neg (by omega)] at z
    exact z
  rw [if_neg q7, if_neg q7, q_letE (σ.1 (q_rf X C 8) 5), f5, v5, q_letE (τ2.1 (q_rf X a 20) (6 : Int32).toNatClampNeg), g6]
  by_cases q6 : v.toInt = c 6
  · rw [if_pos q6, if_pos q6.symm, q_letE (5 : Int32), if_neg (by decide : ¬ (5 : Int32).toInt = 0), mv_none, mv_refuse]
    exact ⟨-1, _, -1, _, rfl, rfl, rfl, by rw [si_eq, si_eq], ref 5⟩
  rw [if_neg q6, if_neg (fun z => q6 z.symm), q_letE (0 : Int32), if_pos (by decide : (0 : Int32).toInt = 0)]
  obtain ⟨z, z', σ', τ', V', c', t, P, kd, tn, W, u, x1, x2, x3, x4, x5, x6, x7, x8, x9, x10, x11, x12, x13, x14⟩ := gm_doubt2 Y G w R m2 hG (by omega) hW (v := v) (v' := v) rfl rfl q'
  rw [x1, q_biP z σ', mv_good, q_biP z, x2, q_biP z' τ']
  have na0 : a ≠ q_rf X a 20 := Ne.symm (m_ne (tb_k Y.1 ha).1 ha (by decide))
  refine ⟨z, _, z', τ', rfl, rfl, by rw [x3, x4], ?_, mv_mk Y G hC x6 x9 (fun id i h => x11.1 id i (by omega) (by omega) (by omega) (by omega) (by omega) (by omega) (by omega)) (fun j j0 h => x12.1 j j0 (by omega) (by omega) (by omega) (by omega) (by omega) (by omega) (by omega) (by omega)) 0 x7 (k2.tr (x8.mono (fun b f z => Or.inl z) (fun _ _ z => z)))⟩
  rw [si_eq, x8.1 a 0 na0, s2]
theorem mv_bend (Y : y_S X lb) (G : y_G X lb (q_rf X C 8) 1) (hC : lb C / 8192 = 0) (ha : q_kd X a = 12) (R : rg (y_v X (q_rf X C 8) σ) c) (hG : m_G c) (hc : m_c X τ a = c) (v x y : Int32) :
    ∃ (z : Int32) (σ' : ST) (z' : Int32) (τ' : ST), F_X11_bend X σ C v x y = (z, σ') ∧ F_X12_bend X τ a v x y = (z', τ') ∧ z.toInt = z'.toInt ∧ (σ'.1 C 0).toInt = (τ'.1 a 0).toInt ∧ mv_R X lb C a σ σ' τ τ' (y_v X (q_rf X C 8) σ) c := by
  obtain ⟨V, hV⟩ : ∃ V, V = y_v X (q_rf X C 8) σ := ⟨_, rfl⟩
  have w : y_W X lb (q_rf X C 8) 1 σ σ V := by
    rw [hV]; exact y_W.rf
  rw [← hV] at R ⊢
  obtain ⟨b0, b2, b4, b5, b6, b7, b9, b79⟩ := hG.1
  obtain ⟨m2, s2, k2⟩ := mv_beg Y.1 ha hc
  have pc := lk_player w v
  rw [R.1.2.2.2.2.1] at pc
  unfold F_X11_bend F_X12_bend
  rw [q_letE (F_X11_isPlayer X σ C v), pc, q_letE (q_si τ a 1 0), q_letE (q_si (q_si τ a 1 0) a 0 0)]
  obtain ⟨τ2, e2⟩ : ∃ t, t = q_si (q_si τ a 1 0) a 0 0 := ⟨_, rfl⟩
  rw [← e2] at m2 s2 k2 ⊢
  have pm := lk_playerAt m2 b2 v
  rw [q_letE (F_X12_isPlayerAt X τ2 a v), pm]
  have ref : ∀ k : Int32, mv_R X lb C a σ (q_si σ C 0 k) τ (q_si τ2 a 0 k) V c := fun k => mv_mk Y G hC w R (fun _ _ _ => rfl) (fun _ _ _ => rfl) k ((mv_cell Y.1 ha 0 k).trans m2) (k2.si _ (Or.inr (Or.inl ⟨rfl, Or.inl rfl⟩)))
  by_cases q : ¬ (0 ≤ v.toInt ∧ v.toInt < c 2)
  · rw [if_neg q, if_pos rfl, if_pos rfl, mv_no, mv_noM]
    exact ⟨0, _, 0, _, rfl, rfl, rfl, by rw [si_eq, si_eq], ref 2⟩
  have q' := Classical.not_not.mp q
  rw [if_pos q', if_neg (by decide : ¬ (1 : Int) = 0), if_neg (by decide : ¬ (1 : Int) = 0), q_letE (F_X11_isSixteenths X σ x), lk_six, q_letE x.toInt64, q_letE (F_X12_isIn X τ2 x.toInt64 (0 : Int64) (16 : Int64)), lk_sixAt]
  by_cases qx : ¬ (0 ≤ x.toInt ∧ x.toInt ≤ 16)
  · rw [if_neg qx, if_pos rfl, if_pos rfl, mv_no, mv_noM]
    exact ⟨0, _, 0, _, rfl, rfl, rfl, by rw [si_eq, si_eq], ref 5⟩
  have qx' := Classical.not_not.mp qx
  rw [if_pos qx', if_neg (by decide : ¬ (1 : Int) = 0), if_neg (by decide : ¬ (1 : Int) = 0), q_letE (F_X11_isSixteenths X σ y), lk_six, q_letE y.toInt64, q_letE (F_X12_isIn X τ2 y.toInt64 (0 : Int64) (16 : Int64)), lk_sixAt]
  by_cases qy : ¬ (0 ≤ y.toInt ∧ y.toInt ≤ 16)
  · rw [if_neg qy, if_pos rfl, if_pos rfl, mv_no, mv_noM]
    exact ⟨0, _, 0, _, rfl, rfl, rfl, by rw [si_eq, si_eq], ref 5⟩
  have qy' := Classical.not_not.mp qy
  have gn10 : ((y_gn 10 : Nat) : Int) = 6 := rfl
  have gn11 : ((y_gn 11 : Nat) : Int) = 6 := rfl
  have e10 : (10 : Int32).toInt = 10 := rfl
  have e16 : (16 : Int32).toInt = 16 := rfl
  have i10 : ((10 : Int32) + v).toInt = 10 + v.toInt := by rw [ar_add, e10, ar_wr (by omega) (by omega)]
  have i16 : ((16 : Int32) + v).toInt = 16 + v.toInt := by rw [ar_add, e16, ar_wr (by omega) (by omega)]
  have w3 := w.set Y G (id := 10) (r := q_rf X (q_rf X (q_rf X C 8) 1) 3) ⟨by decide, by decide⟩ rfl v x q'.1 (by rw [gn10]; omega)
  have w4 := w3.set Y G (id := 11) (r := q_rf X (q_rf X (q_rf X C 8) 1) 4) ⟨by decide, by decide⟩ rfl v y q'.1 (by rw [gn11]; omega)
  rw [if_pos qy', if_neg (by decide : ¬ (1 : Int) = 0), if_neg (by decide : ¬ (1 : Int) = 0), q_letE (F_X5_set X σ (q_rf X (q_rf X (q_rf X C 8) 1) 3) v x), q_letE (F_X5_set X (F_X5_set X σ (q_rf X (q_rf X (q_rf X C 8) 1) 3) v x) (q_rf X (q_rf X (q_rf X C 8) 1) 4) v y), mv_yes, q_letE ((10 : Int32) + v), q_letE (q_si τ2 (q_rf X a 20) ((10 : Int32) + v).toNatClampNeg x), q_letE ((16 : Int32) + v), q_letE (q_si (q_si τ2 (q_rf X a 20) ((10 : Int32) + v).toNatClampNeg x) (q_rf X a 20) ((16 : Int32) + v).toNatClampNeg y)]
  have m4 : m_c X (q_si (q_si τ2 (q_rf X a 20) ((10 : Int32) + v).toNatClampNeg x) (q_rf X a 20) ((16 : Int32) + v).toNatClampNeg y) a = m_up (m_up c (10 + v.toInt) x.toInt) (16 + v.toInt) y.toInt := by
    rw [m_c_up _ (by omega) i16, m_c_up _ (by omega) i10, m2]
  have na0 : a ≠ q_rf X a 20 := Ne.symm (m_ne (tb_k Y.1 ha).1 ha (by decide))
  have R4 : rg (y_up (y_up V 10 v.toInt x.toInt) 11 v.toInt y.toInt) (m_up (m_up c (10 + v.toInt) x.toInt) (16 + v.toInt) y.toInt) := by
    refine R.bend (fun id i h1 h2 => by rw [y_up_ne (Or.inl h2), y_up_ne (Or.inl h1)]) (fun j h => by rw [m_up_ne (by omega), m_up_ne (by omega)]) (fun p p0 p1 => ⟨?_, ?_⟩)
    · rw [y_up_ne (Or.inl (by decide)), m_up_ne (by omega)]
      by_cases e : p = v.toInt
      · rw [e, y_up_eq, m_up_eq]
      · rw [y_up_ne (Or.inr e), m_up_ne (by omega)]; exact (R.2.2.1 p p0 p1).1
    · by_cases e : p = v.toInt
      · rw [e, y_up_eq, m_up_eq]
      · rw [y_up_ne (Or.inr e), y_up_ne (Or.inl (by decide)), m_up_ne (by omega), m_up_ne (by omega)]; exact (R.2.2.1 p p0 p1).2.1
  refine ⟨1, _, 1, _, rfl, rfl, rfl, ?_, mv_mk Y G hC w4 R4 (fun id i h => by rw [y_up_ne (by omega), y_up_ne (by omega)]) (fun j j0 h => by rw [m_up_ne (by omega), m_up_ne (by omega)]) 0 m4 ((k2.si _ (Or.inl rfl)).si _ (Or.inl rfl))⟩
  rw [si_eq, q_si_ne na0, q_si_ne na0, s2]
end GN
end
