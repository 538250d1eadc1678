/-! FROM 49zt.tries.lean.txt -/
/-! ROUNDS TRIED: wins and left -/
section PI
variable {X : XW} {lb : Nat → Nat} {g o a R C : Nat} {σ σ' σ1 τ τ' τ1 : ST} {V0 V V' : Nat → Int → Int} {c0 c c' : Int → Int} {n : Int}
/-- the class's fraction told: the answer, what is written -/
theorem fr_tell (σ : ST) (x y : Int64) : ∃ σ' : ST, F_X11_tell X σ C x y = (1, σ') ∧ σ'.1 = (q_si σ C 0 0).1 ∧ σ'.2.2 = σ.2.2 ∧ ∀ b f, b ≠ C → σ'.2.1 b f = σ.2.1 b f := by
  have one : ∀ u v : Int64, ∃ σ' : ST, q_bi (F_X11_yes X (q_sl (q_sl σ C 1 u) C 2 v) C) (fun r s => (r, s)) = (1, σ') ∧ σ'.1 = (q_si σ C 0 0).1 ∧ σ'.2.2 = σ.2.2 ∧ ∀ b f, b ≠ C → σ'.2.1 b f = σ.2.1 b f := by
    intro u v
    rw [ob_pe, mv_yes]
    exact ⟨_, rfl, rfl, rfl, fun b f h => (q_sl_ne h f).trans (q_sl_ne h f)⟩
  unfold F_X11_tell
  rw [q_letE (F_J9_abs_067f4 X σ x), q_letE (F_X11_commonDivisor X σ (F_J9_abs_067f4 X σ x) y), q_letE (lg_cmp x 0)]
  obtain ⟨d, hd⟩ : ∃ d, d = F_X11_commonDivisor X σ (F_J9_abs_067f4 X σ x) y := ⟨_, rfl⟩
  rw [← hd]
  by_cases q : (lg_cmp x 0).toInt = 0
  · rw [if_pos q, q_letE (q_sl σ C 1 0), q_letE (q_sl (q_sl σ C 1 0) C 2 1)]
    exact one 0 1
  · rw [if_neg q, q_letE (lg_cmp y 0)]
    by_cases q2 : 0 < (lg_cmp y 0).toInt
    · rw [if_pos q2, q_letE (lg_cmp d 0)]
      by_cases q3 : 0 < (lg_cmp d 0).toInt
      · rw [if_pos q3, q_letE (x / d), q_letE (q_sl σ C 1 (x / d)), q_letE (y / d), q_letE (q_sl (q_sl σ C 1 (x / d)) C 2 (y / d))]
        exact one _ _
      · rw [if_neg q3, q_letE (q_sl σ C 1 0), q_letE (q_sl (q_sl σ C 1 0) C 2 1)]
        exact one 0 1
    · rw [if_neg q2, q_letE (q_sl σ C 1 0), q_letE (q_sl (q_sl σ C 1 0) C 2 1)]
      exact one 0 1
/-- the reference's -/
theorem fr_fracL {x y : Int64} (k : Nat) : ∀ u v : Int64, v.toInt.natAbs < k → ∃ τ' : ST, F_X12_fraction_L9_1 X x τ a y k u v = (1, τ') ∧ τ'.1 = τ.1 ∧ τ'.2.2 = τ.2.2 ∧ ∀ b f, b ≠ a → τ'.2.1 b f = τ.2.1 b f := by
  induction k with
  | zero => intro u v h; exact absurd h (Nat.not_lt_zero _)
  | succ k ih =>
    intro u v h
    rw [F_X12_fraction_L9_1_s]
    unfold F_X12_fraction_B9_1
    have z0 : (0 : Int64).toInt = 0 := rfl
    have e0 : (lg_cmp v 0).toInt = 0 ↔ v.toInt = 0 := by
      have h1 := lg_cmp_lt v 0
      have h2 := lg_cmp_gt v 0
      rw [Int32.lt_iff_toInt_lt, q_z0, Int64.lt_iff_toInt_lt, z0] at h1
      rw [Int32.lt_iff_toInt_lt, q_z0, Int64.lt_iff_toInt_lt, z0] at h2
      constructor
      · intro e
        by_cases p : v.toInt < 0
        · have := h1.mpr p; omega
        · by_cases p2 : 0 < v.toInt
          · have := h2.mpr p2; omega
          · omega
      · intro e
        by_cases p : (lg_cmp v 0).toInt < 0
        · have := h1.mp p; omega
        · by_cases p2 : 0 < (lg_cmp v 0).toInt
          · have := h2.mp p2; omega
          · omega
    rw [q_letE (lg_cmp v 0)]
    by_cases q : v.toInt = 0
    · rw [if_pos (e0.mpr q)]
      unfold F_X12_fraction_E34_2
      rw [q_letE (x / u), q_letE (q_sl τ a 2 (x / u)), q_letE (y / u), q_letE (q_sl (q_sl τ a 2 (x / u)) a 3 (y / u))]
      exact ⟨_, rfl, rfl, rfl, fun b f h => (q_sl_ne h f).trans (q_sl_ne h f)⟩
    · rw [if_neg (fun z => q (e0.mp z)), q_letE (u % v)]
      have m := m_remabs (x := u) (y := v) (z := u % v) (q_remJ u v).symm q
      exact ih v (u % v) (by omega)
theorem fr_frac (τ : ST) (x y : Int64) : ∃ τ' : ST, F_X12_fraction X τ a x y = (1, τ') ∧ τ'.1 = τ.1 ∧ τ'.2.2 = τ.2.2 ∧ ∀ b f, b ≠ a → τ'.2.1 b f = τ.2.1 b f := by
  unfold F_X12_fraction
  rw [q_letE (F_J9_abs_m X τ x)]
  exact fr_fracL _ _ _ (Nat.lt_succ_self _)
/-- both tell a fraction -/
theorem al_told (K : al_C X lb C a) (A : al_R X C a σ τ) (h0 : (τ.1 a 0).toInt = 0) (x y x' y' : Int64) : ob_O X C a (F_X11_tell X σ C x y) (F_X12_fraction X τ a x' y') := by
  obtain ⟨kC, ka, S, lC, G8, G9, GM⟩ := id K
  obtain ⟨A1, A2, A3, A4⟩ := A
  obtain ⟨σ', e1, e2, e3, e4⟩ := fr_tell (X := X) (C := C) σ x y
  obtain ⟨τ', u1, u2, u3, u4⟩ := fr_frac (X := X) (a := a) τ x' y'
  rw [e1, u1]
  have k23 := (tb_k S.1 ka).2.2.1
  have n23 : q_rf X a 23 ≠ a := m_ne k23 ka (by decide)
  have c11 : σ'.1 C 11 = σ.1 C 11 := by rw [e2, si_f (by decide)]
  have oth : ∀ b, b ≠ C → ∀ f, σ'.1 b f = σ.1 b f := fun b hb f => by rw [e2, q_si_ne hb]
  have vv : ∀ (g o : Nat), y_G X lb g o → y_v X g σ' = y_v X g σ := fun g o Gg => y_v.k S Gg (fun b hb f => oth b (fun e => by rw [e, lC] at hb; have := Gg.2.2; omega) f)
  have mm : m_c X τ' a = m_c X τ a := pl_mc (fun f => by rw [u2])
  have ww : m_wd X τ' a = m_wd X τ a := by
    funext j
    exact congrArg Int64.toInt (u4 _ _ n23)
  refine ⟨rfl, ?_, ?_, ?_, ?_, fun b b1 b2 => ?_⟩
  · show (σ'.1 C 0).toInt = (τ'.1 a 0).toInt
    rw [e2, si_eq, u2, h0]
    rfl
  · rw [vv _ _ G8, mm, ww]; exact A1
  · rw [c11, u2]; exact A2
  · rw [c11]; exact A3
  · rw [c11] at b2
    rw [vv _ _ (GM (b - 1) (by omega)), mm, ww]
    exact A4 b b1 b2
/-- all kept in a try: the game is the same as before in both -/
def tr_K (X : XW) (lb : Nat → Nat) (C a : Nat) (σ0 σ τ0 τ : ST) (c : Int → Int) : Prop :=
  (∀ b, lb b / 8192 ≠ 2 → b ≠ q_rf X C 15 → b ≠ pl_T X (q_rf X C 15) → ∀ f, σ.1 b f = σ0.1 b f) ∧ σ.2 = σ0.2 ∧ m_c X τ a = c ∧ tkl (fun b f => pl_Sq X a b f ∨ b = q_rf X a 21) (fun _ _ => False) τ0 τ ∧ ∀ j : Int, 0 ≤ j → j < 654 → (τ.1 (q_rf X a 21) j.toNat).toInt = c j
theorem al_T15 (K : al_C X lb C a) : lb (q_rf X C 15) = 31 ∧ lb (pl_T X (q_rf X C 15)) = 8048 := by
  obtain ⟨kC, ka, S, lC, G8, G9, GM⟩ := K
  obtain ⟨T, L, N⟩ := id S
  have k14 : q_kd X (q_rf X C 15) = 7 := (T.1 C 15 (by rw [kC]; decide)).trans (by rw [kC]; rfl)
  have l14 : lb (q_rf X C 15) = 31 := (L C 15 (by rw [kC]; decide)).trans (by rw [lC]; decide)
  have k7 : q_kd X (q_rf X (q_rf X C 15) 7) = 5 := (T.1 _ 7 (by rw [k14]; decide)).trans (by rw [k14]; rfl)
  have l7 : lb (q_rf X (q_rf X C 15) 7) = 503 := (L _ 7 (by rw [k14]; decide)).trans (by rw [l14]; decide)
  exact ⟨l14, (L _ 0 (by rw [k7]; decide)).trans (by rw [l7]; decide)⟩
/-- the game as it was kept, copied back -/
theorem tr_back (hT : q_T X) (ha : q_kd X a = 12) (hk : ∀ j : Int, 0 ≤ j → j < 654 → (τ.1 (q_rf X a 21) j.toNat).toInt = c j) (hc : ∀ j : Int, 654 ≤ j → m_c X τ a j = c j) (c_neg : ∀ j : Int, j < 0 → c j = c 0) (L : Nat → Int32 → ST → Int32 × ST) (E : ST → Int32 × ST) (hS : ∀ k x s, L (k + 1) x s = if x.toInt < 654 then q_let (s.1 (q_rf X a 21) x.toNatClampNeg) (fun f => q_let (q_si s (q_rf X a 20) x.toNatClampNeg f) (fun s' => q_let (x + 1) (fun z => L k z s'))) else E s) (fu : Nat) :
    ∀ (x : Int32) (τ2 : ST), (2147483647 - x.toInt).toNat < fu → 0 ≤ x.toInt → x.toInt ≤ 654 → tkl (fun b _ => b = q_rf X a 20) (fun _ _ => False) τ τ2 → (∀ j : Int, 0 ≤ j → m_c X τ2 a j = if j < x.toInt then c j else m_c X τ a j) → ∃ τ3 : ST, L fu x τ2 = E τ3 ∧ tkl (fun b _ => b = q_rf X a 20) (fun _ _ => False) τ τ3 ∧ m_c X τ3 a = c := by
  have k21 : q_kd X (q_rf X a 21) = 35 := (hT.1 a 21 (by rw [ha]; decide)).trans (by rw [ha]; rfl)
  have n10 : q_rf X a 21 ≠ q_rf X a 20 := m_ne k21 (tb_k hT ha).1 (by decide)
  induction fu with
  | zero => intro x τ2 h; exact absurd h (Nat.not_lt_zero _)
  | succ fu ih =>
    intro x τ2 hf x0 x1 ht hm
    rw [hS]
    by_cases q : x.toInt < 654
    · have e1 : (x + 1).toInt = x.toInt + 1 := y_inc (by omega)
      have ek : (τ2.1 (q_rf X a 21) x.toNatClampNeg).toInt = c x.toInt := by
        rw [ht.1 _ _ n10]
        exact hk x.toInt x0 q
      rw [if_pos q, q_letE (τ2.1 (q_rf X a 21) x.toNatClampNeg), q_letE (q_si τ2 (q_rf X a 20) x.toNatClampNeg (τ2.1 (q_rf X a 21) x.toNatClampNeg)), q_letE (x + 1)]
      refine ih (x + 1) _ (by omega) (by omega) (by omega) (ht.si _ rfl) (fun j j0 => ?_)
      show ((q_si τ2 (q_rf X a 20) x.toNatClampNeg (τ2.1 (q_rf X a 21) x.toNatClampNeg)).1 (q_rf X a 20) j.toNat).toInt = _
      show (if q_rf X a 20 = q_rf X a 20 ∧ j.toNat = x.toNatClampNeg then τ2.1 (q_rf X a 21) x.toNatClampNeg else τ2.1 (q_rf X a 20) j.toNat).toInt = _
      rw [e1]
      by_cases e : j = x.toInt
      · rw [if_pos ⟨rfl, by rw [ar_cl, e]⟩, if_pos (by omega), ek, e]
      · rw [if_neg (fun z => e (by have := z.2; rw [ar_cl] at this; omega))]
        have z := hm j j0
        rw [show (τ2.1 (q_rf X a 20) j.toNat).toInt = m_c X τ2 a j from rfl, z]
        by_cases p : j < x.toInt
        · rw [if_pos p, if_pos (by omega)]
        · rw [if_neg p, if_neg (by omega)]
    · rw [if_neg q]
      refine ⟨τ2, rfl, ht, ?_⟩
      have ex : x.toInt = 654 := by omega
      have all : ∀ j : Int, 0 ≤ j → m_c X τ2 a j = c j := fun j j0 => by
        rw [hm j j0, ex]
        by_cases p : j < 654
        · rw [if_pos p]
        · rw [if_neg p]; exact hc j (by omega)
      funext j
      by_cases j0 : 0 ≤ j
      · exact all j j0
      · rw [m_c_neg X τ2 a (by omega), all 0 (by decide), c_neg j (by omega)]
/-- the game kept before the tries -/
theorem tr_keep (hT : q_T X) (ha : q_kd X a = 12) (hc : m_c X τ a = c) {v1 v2 v3 v4 : Int32} (fu : Nat) :
    ∀ (x : Int32) (τ2 : ST), (2147483647 - x.toInt).toNat < fu → 0 ≤ x.toInt → x.toInt ≤ 654 → tkl (fun b _ => b = q_rf X a 21) (fun _ _ => False) τ τ2 → (∀ j : Int, 0 ≤ j → j < x.toInt → (τ2.1 (q_rf X a 21) j.toNat).toInt = c j) → ∃ τ3 : ST, F_X12_tries_L78_1 X a v3 v2 v4 v1 fu x τ2 = F_X12_tries_L112_3 X v3 v2 a v4 v1 ((2147483647 - (0 : Int32).toInt).toNat + 1) 0 0 τ3 ∧ tkl (fun b _ => b = q_rf X a 21) (fun _ _ => False) τ τ3 ∧ ∀ j : Int, 0 ≤ j → j < 654 → (τ3.1 (q_rf X a 21) j.toNat).toInt = c j := by
  have k21 : q_kd X (q_rf X a 21) = 35 := (hT.1 a 21 (by rw [ha]; decide)).trans (by rw [ha]; rfl)
  have n10 : q_rf X a 20 ≠ q_rf X a 21 := m_ne (tb_k hT ha).1 k21 (by decide)
  induction fu with
  | zero => intro x τ2 h; exact absurd h (Nat.not_lt_zero _)
  | succ fu ih =>
    intro x τ2 hf x0 x1 ht hm
    rw [F_X12_tries_L78_1_s]
    unfold F_X12_tries_B78_1
    by_cases q : x.toInt < 654
    · have e1 : (x + 1).toInt = x.toInt + 1 := y_inc (by omega)
      have ek : (τ2.1 (q_rf X a 20) x.toNatClampNeg).toInt = c x.toInt := by
        rw [ht.1 _ _ n10]
        exact gm_cell hc rfl
      rw [if_pos q, q_letE (τ2.1 (q_rf X a 20) x.toNatClampNeg), q_letE (q_si τ2 (q_rf X a 21) x.toNatClampNeg (τ2.1 (q_rf X a 20) x.toNatClampNeg)), q_letE (x + 1)]
      refine ih (x + 1) _ (by omega) (by omega) (by omega) (ht.si _ rfl) (fun j j0 j1 => ?_)
      show (if q_rf X a 21 = q_rf X a 21 ∧ j.toNat = x.toNatClampNeg then τ2.1 (q_rf X a 20) x.toNatClampNeg else τ2.1 (q_rf X a 21) j.toNat).toInt = _
      by_cases e : j = x.toInt
      · rw [if_pos ⟨rfl, by rw [ar_cl, e]⟩, ek, e]
      · rw [if_neg (fun z => e (by have := z.2; rw [ar_cl] at this; omega))]
        exact hm j j0 (by omega)
    · rw [if_neg q]
      exact ⟨τ2, rfl, ht, fun j j0 j1 => hm j j0 (by omega)⟩
end PI
