/-! FROM 49e.laywant.lean.txt -/
/-! CARDS LAID DOWN: the class -/
/-- cards of one kind added to the topmost laying -/
def gpa (V1 V : Nat → Int → Int) (K k m C i : Int) : Prop :=
  (∀ (id : Nat) (j : Int), ¬ (id = 17 ∧ 4 * K + m ≤ j ∧ j < 4 * K + m + i) → ¬ (id = 16 ∧ j = K) → ¬ (id = 2 ∧ j = 1) → V id j = V1 id j) ∧ V 16 K = m + i ∧ V 2 1 = C + i ∧ ∀ q : Int, m ≤ q → q < m + i → V 17 (4 * K + q) = k
/-- how far the class is, laying l of p's cards: the kinds below k -/
def gl_v (V0 V : Nat → Int → Int) (l : Int → Int) (p K k : Int) : Prop :=
  (∀ (id : Nat) (j : Int), id ≠ 2 → id ≠ 7 → id ≠ 8 → id ≠ 9 → id ≠ 14 → id ≠ 15 → id ≠ 16 → id ≠ 17 → V id j = V0 id j) ∧
  (V 2 0 = K + 1 ∧ V 2 1 = V0 2 1 + m_S l 0 k.toNat) ∧
  (∀ j : Int, ¬ (10 * p ≤ j ∧ j < 10 * p + k) → V 7 j = V0 7 j ∧ V 8 j = V0 8 j) ∧
  (∀ t : Int, 0 ≤ t → t < k → V 7 (10 * p + t) = V0 7 (10 * p + t) - l t ∧ V 8 (10 * p + t) = V0 8 (10 * p + t) + l t) ∧
  (∀ j : Int, j ≠ p → V 9 j = V0 9 j) ∧ V 9 p = V0 9 p - m_S l 0 k.toNat ∧
  (∀ j : Int, j ≠ K → V 14 j = V0 14 j ∧ V 15 j = V0 15 j ∧ V 16 j = V0 16 j) ∧ (V 14 K = p ∧ V 15 K = V0 0 4 ∧ V 16 K = m_S l 0 k.toNat) ∧
  (∀ j : Int, ¬ (4 * K ≤ j ∧ j < 4 * K + 4) → V 17 j = V0 17 j) ∧
  ∀ t q : Int, 0 ≤ t → t < k → m_S l 0 t.toNat ≤ q → q < m_S l 0 t.toNat + l t → V 17 (4 * K + q) = t
section GE
variable {X : XW} {lb : Nat → Nat} {g o a : Nat} {σ τ σ0 τ0 : ST} {V V0 V1 : Nat → Int → Int} {c l : Int → Int}
theorem gp_addL (Y : y_S X lb) (G : y_G X lb g o) {K k m C n : Int} (hK : 0 ≤ K ∧ K < 80) (hm : 0 ≤ m ∧ m + n ≤ 4) (hC : 0 ≤ C ∧ C ≤ 1000) {z2 v1 v2 : Int32} (hz : z2.toInt = K) (hv1 : v1.toInt = k) (hv2 : v2.toInt = n) (fu : Nat) : ∀ (x : Int32) (τ : ST) (V : Nat → Int → Int), (2147483647 - x.toInt).toNat < fu → y_W X lb g o σ0 τ V → gpa V1 V K k m C x.toInt → 0 ≤ x.toInt → x.toInt ≤ n →
    ∃ V' : Nat → Int → Int, y_W X lb g o σ0 (F_X2_add_L10_1 X v2 z2 (q_rf X g 2) v1 fu x τ) V' ∧ gpa V1 V' K k m C n := by
  have gn16 : ((y_gn 16 : Nat) : Int) = 80 := rfl
  have gn17 : ((y_gn 17 : Nat) : Int) = 320 := rfl
  have one : (1 : Int32).toInt = 1 := rfl
  have four : (4 : Int32).toInt = 4 := rfl
  induction fu with
  | zero => intro x τ V h; exact absurd h (Nat.not_lt_zero _)
  | succ fu ih =>
    intro x τ V hf w P x0 x1
    rw [F_X2_add_L10_1_s]
    unfold F_X2_add_B10_1
    rw [hv2]
    by_cases q : x.toInt < n
    · obtain ⟨P1, P2, P3, P4⟩ := P
      have g8 : (F_X5_get X τ (q_rf X (q_rf X g 2) 4) z2).toInt = m + x.toInt := (y_getI Y G w (id := 16) ⟨by decide, by decide⟩ rfl hz hK.1 (by rw [gn16]; exact hK.2)).trans P2
      rw [if_pos q, q_letE (z2 * 4), q_letE (F_X5_get X τ (q_rf X (q_rf X g 2) 4) z2)]
      obtain ⟨r, hr⟩ : ∃ r, r = F_X5_get X τ (q_rf X (q_rf X g 2) 4) z2 := ⟨_, rfl⟩
      rw [← hr] at g8 ⊢
      have ei : (z2 * 4 + r).toInt = 4 * K + (m + x.toInt) := by
        rw [ar_add, ar_mul, hz, four, g8, ar_wr (n := K * 4) (by omega) (by omega), ar_wr (by omega) (by omega)]
        omega
      have w1 := w.set Y G (id := 17) (r := q_rf X (q_rf X g 2) 5) ⟨by decide, by decide⟩ rfl (z2 * 4 + r) v1 (by omega) (by rw [gn17]; omega)
      rw [ei, hv1] at w1
      rw [q_letE (z2 * 4 + r), q_letE (F_X5_set X τ (q_rf X (q_rf X g 2) 5) (z2 * 4 + r) v1)]
      obtain ⟨τ1, e1⟩ : ∃ s, s = F_X5_set X τ (q_rf X (q_rf X g 2) 5) (z2 * 4 + r) v1 := ⟨_, rfl⟩
      rw [← e1] at w1 ⊢
      have w2 := w1.add Y G (id := 16) (r := q_rf X (q_rf X g 2) 4) ⟨by decide, by decide⟩ rfl z2 1 (by omega) (by rw [gn16]; omega)
      rw [hz, y_up_ne (Or.inl (by decide)), P2, one, ar_wr (by omega) (by omega)] at w2
      rw [q_letE (F_X5_add X τ1 (q_rf X (q_rf X g 2) 4) z2 1)]
      obtain ⟨τ2, e2⟩ : ∃ s, s = F_X5_add X τ1 (q_rf X (q_rf X g 2) 4) z2 1 := ⟨_, rfl⟩
      rw [← e2] at w2 ⊢
      have f1 : (τ2.1 (q_rf X g 2) 1).toInt = C + x.toInt := by
        refine (w2.rd (id := 2) (by decide) 1 rfl).trans ?_
        rw [y_up_ne (Or.inl (by decide)), y_up_ne (Or.inl (by decide))]
        exact P3
      rw [q_letE (τ2.1 (q_rf X g 2) 1)]
      obtain ⟨u, hu⟩ : ∃ u, u = τ2.1 (q_rf X g 2) 1 + 1 := ⟨_, rfl⟩
      have uv : u.toInt = C + x.toInt + 1 := by rw [hu, ar_add, f1, one, ar_wr (by omega) (by omega)]
      rw [← hu, q_letE u, q_letE (q_si τ2 (q_rf X g 2) 1 u), q_letE (x + 1)]
      have w3 : y_W X lb g o σ0 (q_si τ2 (q_rf X g 2) 1 u) (y_up (y_up (y_up V 17 (4 * K + (m + x.toInt)) k) 16 K (m + x.toInt + 1)) 2 1 u.toInt) := w2.si Y G (id := 2) (by decide) 1 u
      rw [uv] at w3
      have ex : (x + 1).toInt = x.toInt + 1 := y_inc (by omega)
      refine ih (x + 1) _ _ (by omega) w3 ?_ (by omega) (by omega)
      rw [ex]
      refine ⟨fun id j a1 a2 a3 => ?_, ?_, ?_, fun q q0 q1 => ?_⟩
      · rw [y_up_ne (by omega), y_up_ne (by omega), y_up_ne (by omega)]
        exact P1 id j (by omega) a2 a3
      · rw [y_up_ne (Or.inl (by decide)), y_up_eq]; omega
      · rw [y_up_eq]; omega
      · rw [y_up_ne (Or.inl (by decide)), y_up_ne (Or.inl (by decide))]
        by_cases e : q = m + x.toInt
        · rw [e, y_up_eq]
        · rw [y_up_ne (by omega)]; exact P4 q q0 (by omega)
    · have ex : x.toInt = n := by omega
      rw [if_neg q]
      rw [ex] at P
      exact ⟨V, w, P⟩
/-- cards from the hand to the heap -/
theorem gm_move (Y : y_S X lb) (G : y_G X lb g o) (w : y_W X lb g o σ0 τ V) {v1 v2 v3 : Int32} {p k n : Int} (hv1 : v1.toInt = p) (hv2 : v2.toInt = k) (hv3 : v3.toInt = n) (hp : 0 ≤ p ∧ p < 6) (hk : 0 ≤ k ∧ k < 10) (hn : 0 ≤ n ∧ n ≤ 1000) (b7 : -1000 ≤ V 7 (10 * p + k) ∧ V 7 (10 * p + k) ≤ 1000) (b8 : -1000 ≤ V 8 (10 * p + k) ∧ V 8 (10 * p + k) ≤ 1000) (b9 : -1000 ≤ V 9 p ∧ V 9 p ≤ 1000) :
    y_W X lb g o σ0 (F_X1_moveToHeap X τ (q_rf X g 1) v1 v2 v3) (y_up (y_up (y_up V 7 (10 * p + k) (V 7 (10 * p + k) - n)) 9 p (V 9 p - n)) 8 (10 * p + k) (V 8 (10 * p + k) + n)) := by
  have gn7 : ((y_gn 7 : Nat) : Int) = 60 := rfl
  have gn8 : ((y_gn 8 : Nat) : Int) = 60 := rfl
  have gn9 : ((y_gn 9 : Nat) : Int) = 6 := rfl
  have e10 : (10 : Int32).toInt = 10 := rfl
  have ei : (v1 * 10 + v2).toInt = 10 * p + k := by
    rw [ar_add, ar_mul, hv1, hv2, e10, ar_wr (n := p * 10) (by omega) (by omega), ar_wr (by omega) (by omega)]
    omega
  unfold F_X1_moveToHeap
  rw [q_letE (-v3)]
  obtain ⟨u, hu⟩ : ∃ u, u = -v3 := ⟨_, rfl⟩
  have uv : u.toInt = -n := by rw [hu, ar_neg, hv3, ar_wr (by omega) (by omega)]
  rw [← hu]
  have w1 := w.add Y G (id := 7) (r := q_rf X (q_rf X g 1) 0) ⟨by decide, by decide⟩ rfl (v1 * 10 + v2) u (by omega) (by rw [gn7]; omega)
  rw [ei, uv, ar_wr (by omega) (by omega)] at w1
  have d1 : F_X1_deal X τ (q_rf X g 1) v1 v2 u = F_X5_add X (F_X5_add X τ (q_rf X (q_rf X g 1) 0) (v1 * 10 + v2) u) (q_rf X (q_rf X g 1) 2) v1 u := by
    unfold F_X1_deal
    rw [q_letE, q_letE, q_letE, q_letE]
  rw [d1]
  obtain ⟨τ1, e1⟩ : ∃ s, s = F_X5_add X τ (q_rf X (q_rf X g 1) 0) (v1 * 10 + v2) u := ⟨_, rfl⟩
  rw [← e1] at w1 ⊢
  have w2 := w1.add Y G (id := 9) (r := q_rf X (q_rf X g 1) 2) ⟨by decide, by decide⟩ rfl v1 u (by omega) (by rw [gn9]; omega)
  rw [hv1, uv, y_up_ne (Or.inl (by decide)), ar_wr (by omega) (by omega)] at w2
  rw [q_letE (F_X5_add X τ1 (q_rf X (q_rf X g 1) 2) v1 u), q_letE (v1 * 10), q_letE (v1 * 10 + v2)]
  obtain ⟨τ2, e2⟩ : ∃ s, s = F_X5_add X τ1 (q_rf X (q_rf X g 1) 2) v1 u := ⟨_, rfl⟩
  rw [← e2] at w2 ⊢
  have w3 := w2.add Y G (id := 8) (r := q_rf X (q_rf X g 1) 1) ⟨by decide, by decide⟩ rfl (v1 * 10 + v2) v3 (by omega) (by rw [gn8]; omega)
  rw [ei, hv3, y_up_ne (Or.inl (by decide)), y_up_ne (Or.inl (by decide)), ar_wr (by omega) (by omega)] at w3
  rw [q_letE (F_X5_add X τ2 (q_rf X (q_rf X g 1) 1) (v1 * 10 + v2) v3)]
  exact w3
/-- a laying begun -/
theorem gm_begin (Y : y_S X lb) (G : y_G X lb g o) (w : y_W X lb g o σ0 τ V) {v1 v2 : Int32} {p k K : Int} (hv1 : v1.toInt = p) (hv2 : v2.toInt = k) (hK : V 2 0 = K) (bK : 0 ≤ K ∧ K < 80) :
    y_W X lb g o σ0 (F_X2_begin X τ (q_rf X g 2) v1 v2) (y_up (y_up (y_up (y_up V 14 K p) 15 K k) 16 K 0) 2 0 (K + 1)) := by
  have gn14 : ((y_gn 14 : Nat) : Int) = 80 := rfl
  have gn15 : ((y_gn 15 : Nat) : Int) = 80 := rfl
  have gn16 : ((y_gn 16 : Nat) : Int) = 80 := rfl
  have one : (1 : Int32).toInt = 1 := rfl
  have z0 : (0 : Int32).toInt = 0 := rfl
  unfold F_X2_begin
  have f1 : (τ.1 (q_rf X g 2) 0).toInt = K := (w.rd (id := 2) (by decide) 0 rfl).trans hK
  rw [q_letE (τ.1 (q_rf X g 2) 0)]
  obtain ⟨u, hu⟩ : ∃ u, u = τ.1 (q_rf X g 2) 0 := ⟨_, rfl⟩
  rw [← hu] at f1 ⊢
  have w1 := w.set Y G (id := 14) (r := q_rf X (q_rf X g 2) 2) ⟨by decide, by decide⟩ rfl u v1 (by omega) (by rw [gn14]; omega)
  rw [f1, hv1] at w1
  rw [q_letE (F_X5_set X τ (q_rf X (q_rf X g 2) 2) u v1)]
  obtain ⟨τ1, e1⟩ : ∃ s, s = F_X5_set X τ (q_rf X (q_rf X g 2) 2) u v1 := ⟨_, rfl⟩
  rw [← e1] at w1 ⊢
  have f2 : (τ1.1 (q_rf X g 2) 0).toInt = K := (w1.rd (id := 2) (by decide) 0 rfl).trans ((y_up_ne (Or.inl (by decide))).trans hK)
  rw [q_letE (τ1.1 (q_rf X g 2) 0)]
  obtain ⟨u2, hu2⟩ : ∃ u, u = τ1.1 (q_rf X g 2) 0 := ⟨_, rfl⟩
  rw [← hu2] at f2 ⊢
  have w2 := w1.set Y G (id := 15) (r := q_rf X (q_rf X g 2) 3) ⟨by decide, by decide⟩ rfl u2 v2 (by omega) (by rw [gn15]; omega)
  rw [f2, hv2] at w2
  rw [q_letE (F_X5_set X τ1 (q_rf X (q_rf X g 2) 3) u2 v2)]
  obtain ⟨τ2, e2⟩ : ∃ s, s = F_X5_set X τ1 (q_rf X (q_rf X g 2) 3) u2 v2 := ⟨_, rfl⟩
  rw [← e2] at w2 ⊢
  have f3 : (τ2.1 (q_rf X g 2) 0).toInt = K := (w2.rd (id := 2) (by decide) 0 rfl).trans ((y_up_ne (Or.inl (by decide))).trans ((y_up_ne (Or.inl (by decide))).trans hK))
  rw [q_letE (τ2.1 (q_rf X g 2) 0)]
  obtain ⟨u3, hu3⟩ : ∃ u, u = τ2.1 (q_rf X g 2) 0 := ⟨_, rfl⟩
  rw [← hu3] at f3 ⊢
  have w3 := w2.set Y G (id := 16) (r := q_rf X (q_rf X g 2) 4) ⟨by decide, by decide⟩ rfl u3 0 (by omega) (by rw [gn16]; omega)
  rw [f3, z0] at w3
  rw [q_letE (F_X5_set X τ2 (q_rf X (q_rf X g 2) 4) u3 0)]
  obtain ⟨τ3, e3⟩ : ∃ s, s = F_X5_set X τ2 (q_rf X (q_rf X g 2) 4) u3 0 := ⟨_, rfl⟩
  rw [← e3] at w3 ⊢
  have f4 : (τ3.1 (q_rf X g 2) 0).toInt = K := (w3.rd (id := 2) (by decide) 0 rfl).trans ((y_up_ne (Or.inl (by decide))).trans ((y_up_ne (Or.inl (by decide))).trans ((y_up_ne (Or.inl (by decide))).trans hK)))
  rw [q_letE (τ3.1 (q_rf X g 2) 0)]
  obtain ⟨u4, hu4⟩ : ∃ u, u = τ3.1 (q_rf X g 2) 0 + 1 := ⟨_, rfl⟩
  have uv : u4.toInt = K + 1 := by rw [hu4, ar_add, f4, one, ar_wr (by omega) (by omega)]
  rw [← hu4, q_letE u4, q_letE (q_si τ3 (q_rf X g 2) 0 u4)]
  have w4 : y_W X lb g o σ0 (q_si τ3 (q_rf X g 2) 0 u4) (y_up (y_up (y_up (y_up V 14 K p) 15 K k) 16 K 0) 2 0 u4.toInt) := w3.si Y G (id := 2) (by decide) 0 u4
  rw [uv] at w4
  exact w4
/-- what the class wants of the game that lays -/
def gl_p (V0 : Nat → Int → Int) (l : Int → Int) (p K N : Int) : Prop :=
  V0 0 5 = p ∧ V0 1 0 = N ∧ (0 ≤ p ∧ p < 6) ∧ (0 ≤ K ∧ K < 80) ∧ (0 ≤ N ∧ N ≤ 10) ∧ (∀ t : Int, 0 ≤ t → t < 10 → V0 23 t = l t ∧ 0 ≤ l t) ∧ m_S l 0 10 ≤ 4 ∧ (0 ≤ V0 2 1 ∧ V0 2 1 ≤ 90) ∧ (∀ t : Int, 0 ≤ t → t < 10 → (0 ≤ V0 7 (10 * p + t) ∧ V0 7 (10 * p + t) ≤ 90) ∧ (0 ≤ V0 8 (10 * p + t) ∧ V0 8 (10 * p + t) ≤ 90)) ∧ (0 ≤ V0 9 p ∧ V0 9 p ≤ 90)
theorem gl_vL (Y : y_S X lb) (G : y_G X lb g o) {p K N : Int} (H : gl_p V0 l p K N) (fu : Nat) : ∀ (x : Int32) (τ : ST) (V : Nat → Int → Int), (2147483647 - x.toInt).toNat < fu → y_W X lb g o σ0 τ V → gl_v V0 V l p K x.toInt → 0 ≤ x.toInt → x.toInt ≤ N →
    ∃ V' : Nat → Int → Int, y_W X lb g o σ0 (F_X0_layWanted_L17_1 X g fu x τ) (y_up V' 0 7 1) ∧ gl_v V0 V' l p K N := by
  obtain ⟨H1, H2, Hp, HK, HN, Hw, H4, Hc, Hr, H9⟩ := H
  have gn23 : ((y_gn 23 : Nat) : Int) = 10 := rfl
  have one : (1 : Int32).toInt = 1 := rfl
  have nn : ∀ t : Int, 0 ≤ t → t < 10 → 0 ≤ l t := fun t a b => (Hw t a b).2
  have z10 : m_S l 0 (10 : Int).toNat = m_S l 0 10 := rfl
  have m00 : m_S l 0 (0 : Int).toNat = 0 := rfl
  induction fu with
  | zero => intro x τ V h; exact absurd h (Nat.not_lt_zero _)
  | succ fu ih =>
    intro x τ V hf w P x0 x1
    obtain ⟨P1, ⟨P2, P2b⟩, P3, P4, P5, P6, P7, ⟨P8, P8b, P8c⟩, P9, P10⟩ := P
    have v1 : ∀ j, V 1 j = V0 1 j := fun j => P1 1 j (by decide) (by decide) (by decide) (by decide) (by decide) (by decide) (by decide) (by decide)
    have v0 : ∀ j, V 0 j = V0 0 j := fun j => P1 0 j (by decide) (by decide) (by decide) (by decide) (by decide) (by decide) (by decide) (by decide)
    have v23 : ∀ j, V 23 j = V0 23 j := fun j => P1 23 j (by decide) (by decide) (by decide) (by decide) (by decide) (by decide) (by decide) (by decide)
    have f8 : (τ.1 (q_rf X g 0) 0).toInt = N := (w.rd (id := 1) (by decide) 0 rfl).trans ((v1 _).trans H2)
    rw [F_X0_layWanted_L17_1_s]
    unfold F_X0_layWanted_B17_1
    rw [q_letE (τ.1 (q_rf X g 0) 0), f8]
    by_cases q : x.toInt < N
    · have f11 : (τ.1 g 5).toInt = p := (w.rd (id := 0) (by decide) 5 rfl).trans ((v0 _).trans H1)
      have wx := Hw x.toInt x0 (by omega)
      have f12 : (F_X5_get X τ (q_rf X g 8) x).toInt = l x.toInt := (y_getI Y G w (id := 23) ⟨by decide, by decide⟩ rfl (x := x) rfl x0 (by rw [gn23]; omega)).trans ((v23 _).trans wx.1)
      have mx := gl_mono nn (t := 0) (k := x.toInt) (by omega) x0 (by omega)
      have mx1 := gl_mono nn (t := x.toInt + 1) (k := 10) (by omega) (by omega) (by omega)
      have ms := gl_succ l x0
      have rx := Hr x.toInt x0 (by omega)
      have o7 := P3 (10 * p + x.toInt) (by omega)
      rw [if_pos q, q_letE (τ.1 g 5), q_letE (F_X5_get X τ (q_rf X g 8) x)]
      obtain ⟨n, hn⟩ : ∃ n, n = F_X5_get X τ (q_rf X g 8) x := ⟨_, rfl⟩
      rw [← hn] at f12 ⊢
      obtain ⟨pl, hpl⟩ : ∃ n, n = τ.1 g 5 := ⟨_, rfl⟩
      rw [← hpl] at f11 ⊢
      have w1 := gm_move Y G w (v1 := pl) (v2 := x) (v3 := n) f11 rfl f12 Hp ⟨x0, by omega⟩ ⟨wx.2, by omega⟩ (by rw [o7.1]; omega) (by rw [o7.2]; omega) (by rw [P6]; omega)
      rw [q_letE (F_X1_moveToHeap X τ (q_rf X g 1) pl x n)]
      obtain ⟨τ1, e1⟩ : ∃ s, s = F_X1_moveToHeap X τ (q_rf X g 1) pl x n := ⟨_, rfl⟩
      rw [← e1] at w1 ⊢
      obtain ⟨V1, hV1⟩ : ∃ v, v = y_up (y_up (y_up V 7 (10 * p + x.toInt) (V 7 (10 * p + x.toInt) - l x.toInt)) 9 p (V 9 p - l x.toInt)) 8 (10 * p + x.toInt) (V 8 (10 * p + x.toInt) + l x.toInt) := ⟨_, rfl⟩
      rw [← hV1] at w1
      have r1 : ∀ (id : Nat) (j : Int), id ≠ 7 → id ≠ 8 → id ≠ 9 → V1 id j = V id j := fun id j a7 a8 a9 => by
        rw [hV1, y_up_ne (Or.inl a8), y_up_ne (Or.inl a9), y_up_ne (Or.inl a7)]
      have f16 : (F_X5_get X τ1 (q_rf X g 8) x).toInt = l x.toInt := (y_getI Y G w1 (id := 23) ⟨by decide, by decide⟩ rfl (x := x) rfl x0 (by rw [gn23]; omega)).trans ((r1 23 _ (by decide) (by decide) (by decide)).trans ((v23 _).trans wx.1))
      rw [q_letE (F_X5_get X τ1 (q_rf X g 8) x)]
      obtain ⟨n2, hn2⟩ : ∃ n, n = F_X5_get X τ1 (q_rf X g 8) x := ⟨_, rfl⟩
      rw [← hn2] at f16 ⊢
      -- the pile
      have f0 : (τ1.1 (q_rf X g 2) 0).toInt = K + 1 := (w1.rd (id := 2) (by decide) 0 rfl).trans ((r1 2 _ (by decide) (by decide) (by decide)).trans P2)
      have z0 : (0 : Int32).toInt = 0 := rfl
      obtain ⟨V2, w2, A1, A2, A3, A4⟩ := gp_addL (V1 := V1) Y G (K := K) (k := x.toInt) (m := m_S l 0 x.toInt.toNat) (C := V0 2 1 + m_S l 0 x.toInt.toNat) (n := l x.toInt) HK ⟨by omega, by omega⟩ ⟨by omega, by omega⟩ (z2 := τ1.1 (q_rf X g 2) 0 - 1) (v1 := x) (v2 := n2) (by rw [ar_sub, f0, one, ar_wr (by omega) (by omega)]; omega) rfl f16 ((2147483647 - (0 : Int32).toInt).toNat + 1) 0 τ1 V1 (by decide) w1 (by
        rw [z0]
        refine ⟨fun _ _ _ _ _ => rfl, ?_, ?_, fun q q0 q1 => by omega⟩
        · rw [r1 16 _ (by decide) (by decide) (by decide), P8c]; omega
        · rw [r1 2 _ (by decide) (by decide) (by decide), P2b]; omega) (by decide) (by rw [z0]; exact wx.2)
      have d2 : F_X2_add X τ1 (q_rf X g 2) x n2 = F_X2_add_L10_1 X n2 (τ1.1 (q_rf X g 2) 0 - 1) (q_rf X g 2) x ((2147483647 - (0 : Int32).toInt).toNat + 1) 0 τ1 := by
        unfold F_X2_add
        rw [q_letE, q_letE]
      rw [← d2] at w2
      rw [q_letE (F_X2_add X τ1 (q_rf X g 2) x n2), q_letE (x + 1)]
      have ex : (x + 1).toInt = x.toInt + 1 := y_inc (by omega)
      refine ih (x + 1) _ V2 (by omega) w2 ?_ (by omega) (by omega)
      rw [ex]
      have r2 : ∀ (id : Nat) (j : Int), id ≠ 17 → id ≠ 16 → id ≠ 2 → V2 id j = V1 id j := fun id j a1 a2 a3 => A1 id j (fun z => a1 z.1) (fun z => a2 z.1) (fun z => a3 z.1)
      refine ⟨fun id j b2 b7 b8 b9 b14 b15 b16 b17 => ?_, ⟨?_, ?_⟩, fun j hj => ⟨?_, ?_⟩, fun t t0 t1 => ⟨?_, ?_⟩, fun j hj => ?_, ?_, fun j hj => ⟨?_, ?_, ?_⟩, ⟨?_, ?_, ?_⟩, fun j hj => ?_, fun t q t0 t1 q0 q1 => ?_⟩
      · rw [r2 id j b17 b16 b2, r1 id j b7 b8 b9]; exact P1 id j b2 b7 b8 b9 b14 b15 b16 b17
      · rw [A1 2 0 (by omega) (by omega) (by omega), r1 2 _ (by decide) (by decide) (by decide)]; exact P2
      · rw [A3, ms]; omega
      · rw [r2 7 j (by decide) (by decide) (by decide), hV1, y_up_ne (Or.inl (by decide)), y_up_ne (Or.inl (by decide)), y_up_ne (by omega)]
        exact (P3 j (by omega)).1
      · rw [r2 8 j (by decide) (by decide) (by decide), hV1, y_up_ne (by omega), y_up_ne (Or.inl (by decide)), y_up_ne (Or.inl (by decide))]
        exact (P3 j (by omega)).2
      · rw [r2 7 _ (by decide) (by decide) (by decide), hV1, y_up_ne (Or.inl (by decide)), y_up_ne (Or.inl (by decide))]
        by_cases e : t = x.toInt
        · rw [e, y_up_eq, o7.1]
        · rw [y_up_ne (by omega)]; exact (P4 t t0 (by omega)).1
      · rw [r2 8 _ (by decide) (by decide) (by decide), hV1]
        by_cases e : t = x.toInt
        · rw [e, y_up_eq, o7.2]
        · rw [y_up_ne (by omega), y_up_ne (Or.inl (by decide)), y_up_ne (Or.inl (by decide))]; exact (P4 t t0 (by omega)).2
      · rw [r2 9 _ (by decide) (by decide) (by decide), hV1, y_up_ne (Or.inl (by decide)), y_up_ne (by omega), y_up_ne (Or.inl (by decide))]
        exact P5 j hj
      · rw [r2 9 _ (by decide) (by decide) (by decide), hV1, y_up_ne (Or.inl (by decide)), y_up_eq, P6, ms]
        omega
      · rw [r2 14 _ (by decide) (by decide) (by decide), r1 14 _ (by decide) (by decide) (by decide)]; exact (P7 j hj).1
      · rw [r2 15 _ (by decide) (by decide) (by decide), r1 15 _ (by decide) (by decide) (by decide)]; exact (P7 j hj).2.1
      · rw [A1 16 j (by omega) (by omega) (by omega), r1 16 _ (by decide) (by decide) (by decide)]; exact (P7 j hj).2.2
      · rw [r2 14 _ (by decide) (by decide) (by decide), r1 14 _ (by decide) (by decide) (by decide)]; exact P8
      · rw [r2 15 _ (by decide) (by decide) (by decide), r1 15 _ (by decide) (by decide) (by decide)]; exact P8b
      · rw [A2, ms]
      · rw [A1 17 j (by omega) (by omega) (by omega), r1 17 _ (by decide) (by decide) (by decide)]; exact P9 j hj
      · by_cases e : t = x.toInt
        · subst e
          exact A4 q q0 q1
        · have mt := gl_mono nn (t := t + 1) (k := x.toInt) (by omega) (by omega) (by omega)
          have ts := gl_succ l t0
          rw [A1 17 _ (by omega) (by omega) (by omega), r1 17 _ (by decide) (by decide) (by decide)]
          exact P10 t q t0 (by omega) q0 q1
    · have ex : x.toInt = N := by omega
      rw [if_neg q]
      rw [ex] at P2b P3 P4 P6 P8c P10
      unfold F_X0_layWanted_E70_2
      rw [q_letE (q_si τ g 7 1)]
      have w5 : y_W X lb g o σ0 (q_si τ g 7 1) (y_up V 0 7 1) := w.si Y G (id := 0) (by decide) 7 1
      exact ⟨V, w5, P1, ⟨P2, P2b⟩, P3, P4, P5, P6, P7, ⟨P8, P8b, P8c⟩, P9, P10⟩
/-- the class lays down what is wanted -/
theorem gm_layWanted (Y : y_S X lb) (G : y_G X lb g o) (w : y_W X lb g o σ0 τ V) {p K N : Int} (H : gl_p V l p K N) (h20 : V 2 0 = K) :
    ∃ V' : Nat → Int → Int, y_W X lb g o σ0 (F_X0_layWanted X τ g) (y_up V' 0 7 1) ∧ gl_v V V' l p K N := by
  have H' := H
  obtain ⟨H1, H2, Hp, HK, HN, Hw, H4, Hc, Hr, H9⟩ := H'
  have z0 : (0 : Int32).toInt = 0 := rfl
  have m00 : m_S l 0 (0 : Int).toNat = 0 := rfl
  unfold F_X0_layWanted
  rw [q_letE (τ.1 g 5), q_letE (τ.1 g 4)]
  have f5 : (τ.1 g 5).toInt = p := (w.rd (id := 0) (by decide) 5 rfl).trans H1
  have f4 : (τ.1 g 4).toInt = V 0 4 := w.rd (id := 0) (by decide) 4 rfl
  have w1 := gm_begin Y G w f5 f4 h20 HK
  rw [q_letE (F_X2_begin X τ (q_rf X g 2) (τ.1 g 5) (τ.1 g 4))]
  obtain ⟨τ1, e1⟩ : ∃ s, s = F_X2_begin X τ (q_rf X g 2) (τ.1 g 5) (τ.1 g 4) := ⟨_, rfl⟩
  rw [← e1] at w1 ⊢
  refine gl_vL Y G H _ 0 τ1 _ (by decide) w1 ?_ (by decide) (by rw [z0]; exact HN.1)
  rw [z0]
  refine ⟨fun id j b2 b7 b8 b9 b14 b15 b16 b17 => ?_, ⟨?_, ?_⟩, fun j hj => ⟨?_, ?_⟩, fun t t0 t1 => by omega, fun j hj => ?_, ?_, fun j hj => ⟨?_, ?_, ?_⟩, ⟨?_, ?_, ?_⟩, fun j hj => ?_, fun t q t0 t1 => by omega⟩
  · rw [y_up_ne (Or.inl b2), y_up_ne (Or.inl b16), y_up_ne (Or.inl b15), y_up_ne (Or.inl b14)]
  · rw [y_up_eq]
  · rw [y_up_ne (Or.inr (by decide)), y_up_ne (Or.inl (by decide)), y_up_ne (Or.inl (by decide)), y_up_ne (Or.inl (by decide)), m00]; omega
  · rw [y_up_ne (Or.inl (by decide)), y_up_ne (Or.inl (by decide)), y_up_ne (Or.inl (by decide)), y_up_ne (Or.inl (by decide))]
  · rw [y_up_ne (Or.inl (by decide)), y_up_ne (Or.inl (by decide)), y_up_ne (Or.inl (by decide)), y_up_ne (Or.inl (by decide))]
  · rw [y_up_ne (Or.inl (by decide)), y_up_ne (Or.inl (by decide)), y_up_ne (Or.inl (by decide)), y_up_ne (Or.inl (by decide))]
  · rw [y_up_ne (Or.inl (by decide)), y_up_ne (Or.inl (by decide)), y_up_ne (Or.inl (by decide)), y_up_ne (Or.inl (by decide)), m00]; omega
  · rw [y_up_ne (Or.inl (by decide)), y_up_ne (Or.inl (by decide)), y_up_ne (Or.inl (by decide)), y_up_ne (Or.inr hj)]
  · rw [y_up_ne (Or.inl (by decide)), y_up_ne (Or.inl (by decide)), y_up_ne (Or.inr hj), y_up_ne (Or.inl (by decide))]
  · rw [y_up_ne (Or.inl (by decide)), y_up_ne (Or.inr hj), y_up_ne (Or.inl (by decide)), y_up_ne (Or.inl (by decide))]
  · rw [y_up_ne (Or.inl (by decide)), y_up_ne (Or.inl (by decide)), y_up_ne (Or.inl (by decide)), y_up_eq]
  · rw [y_up_ne (Or.inl (by decide)), y_up_ne (Or.inl (by decide)), y_up_eq]
  · rw [y_up_ne (Or.inl (by decide)), y_up_eq, m00]
  · rw [y_up_ne (Or.inl (by decide)), y_up_ne (Or.inl (by decide)), y_up_ne (Or.inl (by decide)), y_up_ne (Or.inl (by decide))]
end GE
