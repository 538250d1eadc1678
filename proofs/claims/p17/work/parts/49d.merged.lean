/-! FROM 49d.laydown.lean.txt -/
/-! CARDS LAID DOWN: the reference -/
theorem gl_mono {l : Int → Int} (h : ∀ t : Int, 0 ≤ t → t < 10 → 0 ≤ l t) {t k : Int} (h0 : 0 ≤ t) (h1 : t ≤ k) (h2 : k ≤ 10) : m_S l 0 t.toNat ≤ m_S l 0 k.toNat := by
  have z := m_S_add l 0 t.toNat (k.toNat - t.toNat)
  have e : t.toNat + (k.toNat - t.toNat) = k.toNat := by omega
  rw [e] at z
  have y : 0 ≤ m_S l (0 + (t.toNat : Int)) (k.toNat - t.toNat) := m_S_nn (fun j a b => h j (by omega) (by omega))
  omega
theorem gl_succ (l : Int → Int) {k : Int} (h : 0 ≤ k) : m_S l 0 (k + 1).toNat = m_S l 0 k.toNat + l k := by
  have z := m_S_succ l 0 k h
  rw [Int.zero_add] at z
  exact z
/-- which kind the q-th card laid is of -/
theorem gl_at {l : Int → Int} (n : Nat) (q : Int) (h0 : 0 ≤ q) (h1 : q < m_S l 0 n) : ∃ t : Int, 0 ≤ t ∧ t < (n : Int) ∧ m_S l 0 t.toNat ≤ q ∧ q < m_S l 0 t.toNat + l t := by
  induction n with
  | zero =>
    have e : m_S l 0 0 = 0 := rfl
    omega
  | succ n ih =>
    have e : m_S l 0 (n + 1) = m_S l 0 n + l (0 + (n : Int)) := rfl
    rw [Int.zero_add] at e
    by_cases c : q < m_S l 0 n
    · obtain ⟨t, t0, t1, t2, t3⟩ := ih c
      exact ⟨t, t0, by omega, t2, t3⟩
    · refine ⟨(n : Int), by omega, by omega, ?_, ?_⟩
      · have en : ((n : Int)).toNat = n := by omega
        rw [en]; omega
      · have en : ((n : Int)).toNat = n := by omega
        rw [en]; omega
/-- how far the reference is, laying l of p's cards: the kinds below k, i cards of k -/
def gl_c (c0 c l : Int → Int) (p k i : Int) : Prop :=
  (∀ j : Int, 0 ≤ j → ¬ (34 + 10 * p ≤ j ∧ j < 34 + 10 * p + k) → ¬ (94 + 7 * c0 9 ≤ j ∧ j < 101 + 7 * c0 9) → c j = c0 j) ∧ (∀ t : Int, 0 ≤ t → t < k → c (34 + 10 * p + t) = c0 (34 + 10 * p + t) - l t) ∧ c (94 + 7 * c0 9) = p ∧ c (94 + 7 * c0 9 + 1) = c0 5 ∧ (∀ t q : Int, 0 ≤ t → t < k → m_S l 0 t.toNat ≤ q → q < m_S l 0 t.toNat + l t → c (94 + 7 * c0 9 + 3 + q) = t) ∧ ∀ q : Int, m_S l 0 k.toNat ≤ q → q < m_S l 0 k.toNat + i → c (94 + 7 * c0 9 + 3 + q) = k
/-- what the reference has behind it -/
def gl_r (c0 c l : Int → Int) (p : Int) : Prop :=
  (∀ j : Int, 0 ≤ j → ¬ (34 + 10 * p ≤ j ∧ j < 44 + 10 * p) → ¬ (94 + 7 * c0 9 ≤ j ∧ j < 101 + 7 * c0 9) → j ≠ 9 → j ≠ 7 → c j = c0 j) ∧ (∀ t : Int, 0 ≤ t → t < 10 → c (34 + 10 * p + t) = c0 (34 + 10 * p + t) - l t) ∧ c (94 + 7 * c0 9) = p ∧ c (94 + 7 * c0 9 + 1) = c0 5 ∧ c (94 + 7 * c0 9 + 2) = m_S l 0 10 ∧ c 9 = c0 9 + 1 ∧ c 7 = 1 ∧ ∀ t q : Int, 0 ≤ t → t < 10 → m_S l 0 t.toNat ≤ q → q < m_S l 0 t.toNat + l t → c (94 + 7 * c0 9 + 3 + q) = t
theorem gl_c.card {c0 c l : Int → Int} {p k i n : Int} (h : gl_c c0 c l p k i) (hl : m_lo c0 l p) (hk : 0 ≤ k ∧ k < 10) (hi : 0 ≤ i ∧ i < l k) (hn : n = m_S l 0 k.toNat + i) : gl_c c0 (m_up c (94 + 7 * c0 9 + 3 + n) k) l p k (i + 1) := by
  obtain ⟨h1, h2, h3, h4, h5, h6⟩ := h
  have b := hl.c9
  have hp := hl.2.1
  have nn : ∀ t : Int, 0 ≤ t → t < 10 → 0 ≤ l t := fun t a b => (hl.2.2.1 t a b).1
  have s4 := hl.2.2.2
  have mk := gl_mono nn hk.1 (by omega : k ≤ k + 1) (by omega)
  have mk2 := gl_mono nn (t := k + 1) (k := 10) (by omega) (by omega) (by omega)
  have ms := gl_succ l hk.1
  have m0 := gl_mono nn (t := 0) (k := k) (by omega) (by omega) (by omega)
  have z0 : m_S l 0 (0 : Int).toNat = 0 := rfl
  have z10 : m_S l 0 (10 : Int).toNat = m_S l 0 10 := rfl
  refine ⟨fun j j0 j1 j2 => ?_, fun t t0 t1 => ?_, ?_, ?_, fun t q t0 t1 q0 q1 => ?_, fun q q0 q1 => ?_⟩
  · rw [m_up_ne (by omega)]; exact h1 j j0 j1 j2
  · rw [m_up_ne (by omega)]; exact h2 t t0 t1
  · rw [m_up_ne (by omega)]; exact h3
  · rw [m_up_ne (by omega)]; exact h4
  · have mt := gl_mono nn (t := t + 1) (k := k) (by omega) (by omega) (by omega)
    have ts := gl_succ l t0
    rw [m_up_ne (by omega)]; exact h5 t q t0 t1 q0 q1
  · by_cases e : q = n
    · rw [e, m_up_eq]
    · rw [m_up_ne (by omega)]; exact h6 q q0 (by omega)
theorem gl_c.hand {c0 c l : Int → Int} {p k v : Int} (h : gl_c c0 c l p k (l k)) (hl : m_lo c0 l p) (hk : 0 ≤ k ∧ k < 10) (hv : v = c (34 + 10 * p + k) - l k) : gl_c c0 (m_up c (34 + 10 * p + k) v) l p (k + 1) 0 := by
  obtain ⟨h1, h2, h3, h4, h5, h6⟩ := h
  have b := hl.c9
  have hp := hl.2.1
  have nn : ∀ t : Int, 0 ≤ t → t < 10 → 0 ≤ l t := fun t a b => (hl.2.2.1 t a b).1
  have z0 : m_S l 0 (0 : Int).toNat = 0 := rfl
  refine ⟨fun j j0 j1 j2 => ?_, fun t t0 t1 => ?_, ?_, ?_, fun t q t0 t1 q0 q1 => ?_, fun q q0 q1 => by omega⟩
  · rw [m_up_ne (by omega)]; exact h1 j j0 (by omega) j2
  · by_cases e : t = k
    · rw [e, m_up_eq, hv, h1 _ (by omega) (by omega) (by omega)]
    · rw [m_up_ne (by omega)]; exact h2 t t0 (by omega)
  · rw [m_up_ne (by omega)]; exact h3
  · rw [m_up_ne (by omega)]; exact h4
  · have mt := gl_mono nn (t := 0) (k := t) (by omega) t0 (by omega)
    rw [m_up_ne (by omega)]
    by_cases e : t = k
    · subst e
      exact h6 q q0 q1
    · exact h5 t q t0 (by omega) q0 q1
section GD
variable {X : XW} {lb : Nat → Nat} {g o a r2 : Nat} {σ τ σ0 τ0 : ST} {V : Nat → Int → Int} {c c0 l : Int → Int}
theorem gl_in (hne : r2 ≠ q_rf X a 20) {p k : Int} (hl : m_lo c0 l p) (hk : 0 ≤ k ∧ k < 10) {x9 v1 rr : Int32} (hx9 : x9.toInt = k) (hv1 : v1.toInt = p) (hrr : rr.toInt = 94 + 7 * c0 9) (Bf : Int32 → Int32 → ST → ST) (hof : ∀ j : Int, 0 ≤ j → j < 10 → (τ0.1 r2 j.toNat).toInt = l j) (n : Nat) : ∀ (x y : Int32) (τ : ST) (c : Int → Int), (2147483647 - y.toInt).toNat < n → tkl (fun b _ => b = q_rf X a 20) (fun _ _ => False) τ0 τ → m_c X τ a = c → gl_c c0 c l p k y.toInt → m_ld c0 c l p k y.toInt → 0 ≤ y.toInt → y.toInt ≤ l k → x.toInt = m_S l 0 k.toNat + y.toInt →
    ∃ (x' : Int32) (τ' : ST) (c' : Int → Int), F_X12_laysDown_L48_3 X r2 x9 rr a v1 Bf n x y τ = Bf x' (x9 + 1) τ' ∧ x'.toInt = m_S l 0 (k + 1).toNat ∧ tkl (fun b _ => b = q_rf X a 20) (fun _ _ => False) τ0 τ' ∧ m_c X τ' a = c' ∧ gl_c c0 c' l p (k + 1) 0 ∧ m_ld c0 c' l p (k + 1) 0 := by
  have b9 := hl.c9
  have hp := hl.2.1
  have nn : ∀ t : Int, 0 ≤ t → t < 10 → 0 ≤ l t := fun t a b => (hl.2.2.1 t a b).1
  have s4 := hl.2.2.2
  have mk2 := gl_mono nn (t := k + 1) (k := 10) (by omega) (by omega) (by omega)
  have ms := gl_succ l hk.1
  have m0 := gl_mono nn (t := 0) (k := k) (by omega) (by omega) (by omega)
  have z0 : m_S l 0 (0 : Int).toNat = 0 := rfl
  have z10 : m_S l 0 (10 : Int).toNat = m_S l 0 10 := rfl
  have e3 : (3 : Int32).toInt = 3 := rfl
  have e10 : (10 : Int32).toInt = 10 := rfl
  have e34 : (34 : Int32).toInt = 34 := rfl
  induction n with
  | zero => intro x y τ c hm; exact absurd hm (Nat.not_lt_zero _)
  | succ n ih =>
    intro x y τ c hm t hc G D y0 y1 hx
    have fo : (τ.1 r2 x9.toNatClampNeg).toInt = l k := by
      rw [t.1 r2 _ hne, ar_cl, hx9]
      exact hof k hk.1 hk.2
    rw [F_X12_laysDown_L48_3_s]
    unfold F_X12_laysDown_B48_3
    rw [q_letE (τ.1 r2 x9.toNatClampNeg), fo]
    by_cases q : y.toInt < l k
    · have ei : (rr + 3 + x).toInt = 94 + 7 * c0 9 + 3 + (m_S l 0 k.toNat + y.toInt) := by
        rw [ar_add, ar_add, hrr, e3, hx, ar_wr (n := 94 + 7 * c0 9 + 3) (by omega) (by omega), ar_wr (by omega) (by omega)]
      have c1 : m_c X (q_si τ (q_rf X a 20) (rr + 3 + x).toNatClampNeg x9) a = m_up c (94 + 7 * c0 9 + 3 + (m_S l 0 k.toNat + y.toInt)) k := by
        rw [m_c_up _ (by omega) ei, hc, hx9]
      rw [if_pos q, q_letE (rr + 3), q_letE (rr + 3 + x), q_letE (q_si τ (q_rf X a 20) (rr + 3 + x).toNatClampNeg x9), q_letE (x + 1), q_letE (y + 1)]
      have ey : (y + 1).toInt = y.toInt + 1 := y_inc (by omega)
      have ex : (x + 1).toInt = x.toInt + 1 := y_inc (by omega)
      refine ih (x + 1) (y + 1) _ _ (by omega) (t.si _ rfl) c1 ?_ ?_ (by omega) (by omega) (by rw [ex, ey, hx]; omega)
      · rw [ey]
        exact G.card hl hk ⟨y0, q⟩ rfl
      · rw [ey]
        exact D.card hl hk ⟨y0, q⟩ m_up_e rfl rfl
    · have ey : y.toInt = l k := by omega
      rw [ey] at G D
      have ei : ((34 : Int32) + 10 * v1 + x9).toInt = 34 + 10 * p + k := by
        rw [ar_add, ar_add, ar_mul, hx9, hv1, e10, e34, ar_wr (n := 10 * p) (by omega) (by omega), ar_wr (n := 34 + 10 * p) (by omega) (by omega), ar_wr (by omega) (by omega)]
      have fh : (τ.1 (q_rf X a 20) ((34 : Int32) + 10 * v1 + x9).toNatClampNeg).toInt = c (34 + 10 * p + k) := gm_cell hc ei
      have hb := hl.1.h80 (p := p) (k := k) hp.1 hp.2 hk.1 hk.2
      have hc0 := G.1 (34 + 10 * p + k) (by omega) (by omega) (by omega)
      have lk := hl.2.2.1 k hk.1 hk.2
      rw [if_neg q]
      unfold F_X12_laysDown_E79_4
      rw [q_letE ((10 : Int32) * v1), q_letE ((34 : Int32) + 10 * v1), q_letE ((34 : Int32) + 10 * v1 + x9), q_letE (τ.1 (q_rf X a 20) ((34 : Int32) + 10 * v1 + x9).toNatClampNeg), q_letE (τ.1 r2 x9.toNatClampNeg)]
      obtain ⟨u, hu⟩ : ∃ u, u = τ.1 (q_rf X a 20) ((34 : Int32) + 10 * v1 + x9).toNatClampNeg - τ.1 r2 x9.toNatClampNeg := ⟨_, rfl⟩
      have uv : u.toInt = c (34 + 10 * p + k) - l k := by
        rw [hu, ar_sub, fh, fo, ar_wr (by omega) (by omega)]
      rw [← hu, q_letE u, q_letE (q_si τ (q_rf X a 20) ((34 : Int32) + 10 * v1 + x9).toNatClampNeg u), q_letE (x9 + 1)]
      refine ⟨x, _, _, rfl, by omega, t.si _ rfl, m_c_up _ (by omega) ei, ?_, ?_⟩
      · rw [hc, uv]
        exact G.hand hl hk rfl
      · rw [hc, uv]
        exact D.hand hl hk rfl m_up_e rfl
theorem gl_out (hne : r2 ≠ q_rf X a 20) {p : Int} (hl : m_lo c0 l p) (h06 : c0 6 = p) {v1 rr : Int32} (hv1 : v1.toInt = p) (hrr : rr.toInt = 94 + 7 * c0 9) (hof : ∀ j : Int, 0 ≤ j → j < 10 → (τ0.1 r2 j.toNat).toInt = l j) (n : Nat) : ∀ (x y : Int32) (τ : ST) (c : Int → Int), (2147483647 - y.toInt).toNat < n → tkl (fun b _ => b = q_rf X a 20) (fun _ _ => False) τ0 τ → m_c X τ a = c → gl_c c0 c l p y.toInt 0 → m_ld c0 c l p y.toInt 0 → 0 ≤ y.toInt → y.toInt ≤ 10 → x.toInt = m_S l 0 y.toInt.toNat →
    ∃ (c' : Int → Int), m_c X (F_X12_laysDown_L38_1 X r2 rr a v1 n x y τ) a = c' ∧ tkl (fun b _ => b = q_rf X a 20) (fun _ _ => False) τ0 (F_X12_laysDown_L38_1 X r2 rr a v1 n x y τ) ∧ gl_r c0 c' l p ∧ m_G c' := by
  have b9 := hl.c9
  have hp := hl.2.1
  have nn : ∀ t : Int, 0 ≤ t → t < 10 → 0 ≤ l t := fun t a b => (hl.2.2.1 t a b).1
  have s4 := hl.2.2.2
  have e2 : (2 : Int32).toInt = 2 := rfl
  have e1 : (1 : Int32).toInt = 1 := rfl
  induction n with
  | zero => intro x y τ c hm; exact absurd hm (Nat.not_lt_zero _)
  | succ n ih =>
    intro x y τ c hm t hc G D y0 y1 hx
    rw [F_X12_laysDown_L38_1_s]
    unfold F_X12_laysDown_B38_1
    by_cases q : y.toInt < 10
    · rw [if_pos q]
      have lk := hl.2.2.1 y.toInt y0 q
      have z0 : (0 : Int32).toInt = 0 := rfl
      obtain ⟨x', τ', c', i1, i2, i3, i4, i5, i6⟩ := gl_in hne hl ⟨y0, q⟩ (x9 := y) rfl hv1 hrr (F_X12_laysDown_L38_1 X r2 rr a v1 n) hof ((2147483647 - (0 : Int32).toInt).toNat + 1) x 0 τ c (by decide) t hc (by rw [z0]; exact G) (by rw [z0]; exact D) (by decide) (by rw [z0]; exact lk.1) (by rw [z0, hx]; omega)
      rw [i1]
      have ey : (y + 1).toInt = y.toInt + 1 := y_inc (by omega)
      refine ih x' (y + 1) τ' c' (by omega) i3 i4 (by rw [ey]; exact i5) (by rw [ey]; exact i6) (by omega) (by omega) (by rw [ey]; exact i2)
    · rw [if_neg q]
      have ey : y.toInt = 10 := by omega
      rw [ey] at G D hx
      have hx10 : x.toInt = m_S l 0 10 := hx
      obtain ⟨h1, h2, h3, h4, h5, h6⟩ := G
      unfold F_X12_laysDown_E107_2
      have ei : (rr + 2).toInt = 94 + 7 * c0 9 + 2 := by rw [ar_add, hrr, e2, ar_wr (by omega) (by omega)]
      rw [q_letE (rr + 2), q_letE (q_si τ (q_rf X a 20) (rr + 2).toNatClampNeg x)]
      have c1 : m_c X (q_si τ (q_rf X a 20) (rr + 2).toNatClampNeg x) a = m_up c (94 + 7 * c0 9 + 2) (m_S l 0 10) := by
        rw [m_c_up _ (by omega) ei, hc, hx10]
      have t1 : tkl (fun b _ => b = q_rf X a 20) (fun _ _ => False) τ0 (q_si τ (q_rf X a 20) (rr + 2).toNatClampNeg x) := t.si _ rfl
      obtain ⟨τ1, g1⟩ : ∃ s, s = q_si τ (q_rf X a 20) (rr + 2).toNatClampNeg x := ⟨_, rfl⟩
      rw [← g1] at c1 t1 ⊢
      have f9 : (τ1.1 (q_rf X a 20) (9 : Int32).toNatClampNeg).toInt = c0 9 := by
        refine (gm_cell (A := 9) c1 rfl).trans ?_
        rw [m_up_ne (by omega)]
        exact h1 9 (by decide) (by omega) (by omega)
      rw [q_letE (τ1.1 (q_rf X a 20) (9 : Int32).toNatClampNeg)]
      obtain ⟨u, hu⟩ : ∃ u, u = τ1.1 (q_rf X a 20) (9 : Int32).toNatClampNeg + 1 := ⟨_, rfl⟩
      have uv : u.toInt = c0 9 + 1 := by rw [hu, ar_add, f9, e1, ar_wr (by omega) (by omega)]
      rw [← hu, q_letE u, q_letE (q_si τ1 (q_rf X a 20) (9 : Int32).toNatClampNeg u)]
      have c2 : m_c X (q_si τ1 (q_rf X a 20) (9 : Int32).toNatClampNeg u) a = m_up (m_up c (94 + 7 * c0 9 + 2) (m_S l 0 10)) 9 (c0 9 + 1) := by
        rw [m_c_up 9 (by decide) rfl, c1, uv]
      have t2 : tkl (fun b _ => b = q_rf X a 20) (fun _ _ => False) τ0 (q_si τ1 (q_rf X a 20) (9 : Int32).toNatClampNeg u) := t1.si _ rfl
      obtain ⟨τ2, g2⟩ : ∃ s, s = q_si τ1 (q_rf X a 20) (9 : Int32).toNatClampNeg u := ⟨_, rfl⟩
      rw [← g2] at c2 t2 ⊢
      rw [q_letE (q_si τ2 (q_rf X a 20) (7 : Int32).toNatClampNeg 1)]
      have dn := D.done hl h06 (T := m_S l 0 10) rfl (c1 := m_up c (94 + 7 * c0 9 + 2) (m_S l 0 10)) m_up_e (c2 := m_up (m_up c (94 + 7 * c0 9 + 2) (m_S l 0 10)) 9 (c0 9 + 1)) m_up_e rfl (c' := m_up (m_up (m_up c (94 + 7 * c0 9 + 2) (m_S l 0 10)) 9 (c0 9 + 1)) 7 1) m_up_e rfl
      refine ⟨_, m_c_up 7 (by decide) rfl, t2.si _ rfl, ?_, by rw [c2, e1]; exact dn.1⟩
      rw [c2, e1]
      have d : ∀ j : Int, j ≠ 7 → j ≠ 9 → j ≠ 94 + 7 * c0 9 + 2 → m_up (m_up (m_up c (94 + 7 * c0 9 + 2) (m_S l 0 10)) 9 (c0 9 + 1)) 7 1 j = c j := fun j a1 a2 a3 => by
        rw [m_up_ne a1, m_up_ne a2, m_up_ne a3]
      refine ⟨fun j j0 j1 j2 j3 j4 => ?_, fun t t0 t1 => ?_, ?_, ?_, ?_, ?_, ?_, fun t q t0 t1 q0 q1 => ?_⟩
      · rw [d j j4 j3 (by omega)]; exact h1 j j0 (by omega) j2
      · rw [d _ (by omega) (by omega) (by omega)]; exact h2 t t0 t1
      · rw [d _ (by omega) (by omega) (by omega)]; exact h3
      · rw [d _ (by omega) (by omega) (by omega)]; exact h4
      · rw [m_up_ne (by omega), m_up_ne (by omega), m_up_eq]
      · rw [m_up_ne (by omega), m_up_eq]
      · rw [m_up_eq]
      · have mt := gl_mono nn (t := 0) (k := t) (by omega) t0 (by omega)
        have z0 : m_S l 0 (0 : Int).toNat = 0 := rfl
        rw [d _ (by omega) (by omega) (by omega)]
        exact h5 t q t0 t1 q0 q1
/-- the reference lays cards down -/
theorem gm_laysDown (hT : q_T X) (ha : q_kd X a = 12) (hc : m_c X τ a = c) {p : Int} (hl : m_lo c l p) (h6 : c 6 = p) {v1 : Int32} (hv1 : v1.toInt = p) (hof : ∀ j : Int, 0 ≤ j → j < 10 → (τ.1 (q_rf X a 28) j.toNat).toInt = l j) :
    ∃ (c' : Int → Int), m_c X (F_X12_laysDown X τ a v1 (q_rf X a 28)) a = c' ∧ tkl (fun b _ => b = q_rf X a 20) (fun _ _ => False) τ (F_X12_laysDown X τ a v1 (q_rf X a 28)) ∧ gl_r c c' l p ∧ m_G c' := by
  have b9 := hl.c9
  have hp := hl.2.1
  have k28 : q_kd X (q_rf X a 28) = 39 := (hT.1 a 28 (by rw [ha]; decide)).trans (by rw [ha]; rfl)
  have hne : q_rf X a 28 ≠ q_rf X a 20 := m_ne k28 (tb_k hT ha).1 (by decide)
  have e7 : (7 : Int32).toInt = 7 := rfl
  have e94 : (94 : Int32).toInt = 94 := rfl
  have e1 : (1 : Int32).toInt = 1 := rfl
  have f9 : (τ.1 (q_rf X a 20) (9 : Int32).toNatClampNeg).toInt = c 9 := gm_cell hc rfl
  have hrr : (F_X12_laid X τ (τ.1 (q_rf X a 20) (9 : Int32).toNatClampNeg)).toInt = 94 + 7 * c 9 := by
    unfold F_X12_laid
    rw [q_letE, q_letE, ar_add, ar_mul, e94, e7, f9, ar_wr (n := 7 * c 9) (by omega) (by omega), ar_wr (by omega) (by omega)]
  unfold F_X12_laysDown
  rw [q_letE (τ.1 (q_rf X a 20) (9 : Int32).toNatClampNeg), q_letE (F_X12_laid X τ (τ.1 (q_rf X a 20) (9 : Int32).toNatClampNeg))]
  obtain ⟨rr, er⟩ : ∃ r, r = F_X12_laid X τ (τ.1 (q_rf X a 20) (9 : Int32).toNatClampNeg) := ⟨_, rfl⟩
  rw [← er] at hrr ⊢
  rw [q_letE (q_si τ (q_rf X a 20) rr.toNatClampNeg v1)]
  have c1 : m_c X (q_si τ (q_rf X a 20) rr.toNatClampNeg v1) a = m_up c (94 + 7 * c 9) p := by
    rw [m_c_up _ (by omega) hrr, hc, hv1]
  have t1 : tkl (fun b _ => b = q_rf X a 20) (fun _ _ => False) τ (q_si τ (q_rf X a 20) rr.toNatClampNeg v1) := tkl.rf.si _ rfl
  obtain ⟨τ1, g1⟩ : ∃ s, s = q_si τ (q_rf X a 20) rr.toNatClampNeg v1 := ⟨_, rfl⟩
  rw [← g1] at c1 t1 ⊢
  have f5 : (τ1.1 (q_rf X a 20) (5 : Int32).toNatClampNeg).toInt = c 5 := by
    refine (gm_cell (A := 5) c1 rfl).trans ?_
    rw [m_up_ne (by omega)]
  have ei : (rr + 1).toInt = 94 + 7 * c 9 + 1 := by rw [ar_add, hrr, e1, ar_wr (by omega) (by omega)]
  rw [q_letE (rr + 1), q_letE (τ1.1 (q_rf X a 20) (5 : Int32).toNatClampNeg)]
  obtain ⟨u, hu⟩ : ∃ u, u = τ1.1 (q_rf X a 20) (5 : Int32).toNatClampNeg := ⟨_, rfl⟩
  rw [← hu] at f5 ⊢
  rw [q_letE (q_si τ1 (q_rf X a 20) (rr + 1).toNatClampNeg u)]
  have c2 : m_c X (q_si τ1 (q_rf X a 20) (rr + 1).toNatClampNeg u) a = m_up (m_up c (94 + 7 * c 9) p) (94 + 7 * c 9 + 1) (c 5) := by
    rw [m_c_up _ (by omega) ei, c1, f5]
  have t2 : tkl (fun b _ => b = q_rf X a 20) (fun _ _ => False) τ (q_si τ1 (q_rf X a 20) (rr + 1).toNatClampNeg u) := t1.si _ rfl
  obtain ⟨τ2, g2⟩ : ∃ s, s = q_si τ1 (q_rf X a 20) (rr + 1).toNatClampNeg u := ⟨_, rfl⟩
  rw [← g2] at c2 t2 ⊢
  have z0 : (0 : Int32).toInt = 0 := rfl
  refine gl_out hne hl h6 hv1 hrr hof _ 0 0 τ2 _ (by decide) t2 c2 ?_ (by rw [z0]; exact m_ld.start hl (c1 := m_up c (94 + 7 * c 9) p) m_up_e rfl m_up_e) (by decide) (by decide) (by rw [z0]; rfl)
  rw [z0]
  have m0 : m_S l 0 (0 : Int).toNat = 0 := rfl
  refine ⟨fun j j0 j1 j2 => ?_, fun t t0 t1 => by omega, ?_, ?_, fun t q t0 t1 => by omega, fun q q0 q1 => by omega⟩
  · rw [m_up_ne (by omega), m_up_ne (by omega)]
  · rw [m_up_ne (by omega), m_up_eq]
  · rw [m_up_eq]
end GD
