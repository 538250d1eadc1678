/-! WHO IS NAMED -/
theorem q_biP {α β : Type} (r : α) (s : ST) (k : α → ST → β) : q_bi (r, s) k = k r s := Eq.trans (Eq.refl (q_bi (r, s) k)) (Eq.refl (k r s))
/-- the names of the first P players of a game (its view V) and their numbers w from place q on -/
def y_nm (V : Nat → Int → Int) (w : Int → Int) (q P : Int) : Prop := ∀ p : Int, 0 ≤ p → p < P → (1 ≤ V 6 p ∧ V 6 p ≤ 8) ∧ (∀ i : Int, 0 ≤ i → i < V 6 p → tx_le (V 5 (8 * p + i))) ∧ w (q + p) = tx_wv (fun i => V 5 (8 * p + i)) 0 (V 6 p).toNat
/-- the first from x on, below P, of which Q -/
def y_fst (Q : Int → Prop) (P x r : Int) : Prop := (r = -1 ∧ ∀ j, x ≤ j → j < P → ¬ Q j) ∨ (x ≤ r ∧ r < P ∧ Q r ∧ ∀ j, x ≤ j → j < r → ¬ Q j)
theorem y_fst_u {Q : Int → Prop} {P x r r' : Int} (hx : 0 ≤ x) (h : y_fst Q P x r) (h' : y_fst Q P x r') : r = r' := by
  rcases h with ⟨h1, h2⟩ | ⟨h1, h2, h3, h4⟩
  · rcases h' with ⟨k1, k2⟩ | ⟨k1, k2, k3, k4⟩
    · omega
    · exact absurd k3 (h2 r' k1 k2)
  · rcases h' with ⟨k1, k2⟩ | ⟨k1, k2, k3, k4⟩
    · exact absurd h3 (k2 r h1 h2)
    · rcases Int.lt_trichotomy r r' with q | q | q
      · exact absurd h3 (k4 r h1 q)
      · exact q
      · exact absurd k3 (h4 r' k1 q)
def m_wd (X : XW) (σ : ST) (a : Nat) (j : Int) : Int := (σ.2.1 (q_rf X a 23) j.toNat).toInt
section NT
variable {X : XW} {lb : Nat → Nat} {g o : Nat} {σ τ σ0 : ST} {V : Nat → Int → Int} {R T a : Nat} {n : Int} {B : Int → Int}
theorem tc_namedL (S : y_S X lb) (G : y_G X lb g o) (w : y_W X lb g o σ0 σ V) (E : tc_E X σ R T n B) {b e : Int} (hb : (σ.1 R 2).toInt = b) (h0 : 0 ≤ b) (hbe : b ≤ e) (hen : e ≤ n) {u : Nat} (hu : u = q_rf X g 0) {x : Int32} {p : Int} (hx : x.toInt = p) (hp : 0 ≤ p ∧ p < 6) {r1 : Int32} (hr1 : r1.toInt = e - b) (he8 : e - b ≤ 8) (k : Nat) : ∀ y : Int32, (2147483647 - y.toInt).toNat < k → 0 ≤ y.toInt → y.toInt ≤ e - b → ((F_X6_isNamed_L22_1 X r1 x σ u R k y).toInt = 1 ∨ (F_X6_isNamed_L22_1 X r1 x σ u R k y).toInt = 0) ∧ ((F_X6_isNamed_L22_1 X r1 x σ u R k y).toInt = 1 ↔ ∀ i : Int, y.toInt ≤ i → i < e - b → V 5 (8 * p + i) = B (b + i)) := by
  have E3 := E.2.2.1
  subst hu
  induction k with
  | zero => intro y hm; exact absurd hm (Nat.not_lt_zero _)
  | succ k ih =>
    intro y hm y0 y1
    have e8 : (8 : Int32).toInt = 8 := rfl
    rw [F_X6_isNamed_L22_1_s]
    simp only [F_X6_isNamed_B22_1, ↓q_letE]
    rw [hr1]
    by_cases q : y.toInt < e - b
    · have ei : (x * 8 + y).toInt = 8 * p + y.toInt := by rw [ar_add, ar_mul, hx, e8, ar_wr (n := p * 8) (by omega) (by omega), ar_wr (by omega) (by omega)]; omega
      have gn : ((y_gn 5 : Nat) : Int) = 48 := rfl
      rw [if_pos q, y_getI S G w (id := 5) ⟨by decide, by decide⟩ rfl ei (by omega) (by rw [gn]; omega), tc_sig E hb ⟨h0, by omega⟩ (v := y) rfl ⟨y0, by omega⟩, tx_D_in (by omega) (by omega)]
      by_cases q1 : V 5 (8 * p + y.toInt) = B (b + y.toInt)
      · rw [if_pos q1]
        have e1 : (y + 1).toInt = y.toInt + 1 := y_inc (by omega)
        obtain ⟨i1, i2⟩ := ih (y + 1) (by omega) (by omega) (by omega)
        refine ⟨i1, ?_⟩
        rw [i2, e1]
        constructor
        · intro h i a1 a2
          by_cases hi : i = y.toInt
          · rw [hi]; exact q1
          · exact h i (by omega) a2
        · intro h i a1 a2
          exact h i (by omega) a2
      · rw [if_neg q1]
        exact ⟨Or.inr rfl, ⟨fun h => absurd h (by decide), fun h => absurd (h y.toInt (Int.le_refl _) q) q1⟩⟩
    · rw [if_neg q]
      exact ⟨Or.inl rfl, ⟨fun _ i a1 a2 => by omega, fun _ => rfl⟩⟩
/-- the player at p has the token's name: the class by its letters, the reference by its number -/
theorem tl_isNamed (S : y_S X lb) (G : y_G X lb g o) (w : y_W X lb g o σ0 σ V) (E : tc_E X σ R T n B) (K : tl_K σ R τ a B n) (h1 : (τ.1 a 14).toInt = 1) (h8 : (τ.1 a 16).toInt - (τ.1 a 15).toInt ≤ 8) {wd : Int → Int} {bs P : Int} (N : y_nm V wd bs P) {x : Int32} {p : Int} (hx : x.toInt = p) (hp : 0 ≤ p ∧ p < P) (hP : P ≤ 6) : (F_X6_isNamed X σ (q_rf X g 0) x R).toInt = if wd (bs + p) = (τ.2.1 a 19).toInt then 1 else 0 := by
  have b := K.b
  obtain ⟨k1, k2, k3, k4, k5, k6, k7, k8⟩ := id K
  have E3 := E.2.2.1
  obtain ⟨N1, N2, N3⟩ := N p hp.1 hp.2
  have xx := k6.2 h1
  have hsz : (F_X3_size X σ R).toInt = (τ.1 a 16).toInt - (τ.1 a 15).toInt := by
    simp only [F_X3_size, ↓q_letE]
    rw [ar_sub, k2, k1, ar_wr (by omega) (by omega)]
  have gl : (F_X5_get X σ (q_rf X (q_rf X g 0) 7) x).toInt = V 6 p := y_getI S G w (id := 6) ⟨by decide, by decide⟩ rfl hx hp.1 (by show p < ((6 : Nat) : Int); omega)
  have inj : V 6 p = (τ.1 a 16).toInt - (τ.1 a 15).toInt → ((∀ i : Int, (0 : Int32).toInt ≤ i → i < (τ.1 a 16).toInt - (τ.1 a 15).toInt → V 5 (8 * p + i) = B ((τ.1 a 15).toInt + i)) ↔ wd (bs + p) = (τ.2.1 a 19).toInt) := by
    intro hl
    have z0 : (0 : Int32).toInt = 0 := rfl
    rw [N3, xx.2.1 h8, ← hl, z0]
    constructor
    · intro h
      refine tx_wv_ext (fun i hi => ?_)
      show V 5 (8 * p + (0 + (i : Int))) = _
      rw [Int.zero_add]
      exact h (i : Int) (Int.natCast_nonneg i) (by omega)
    · intro h i a1 a2
      have z := tx_wv_inj (B := fun i => V 5 (8 * p + i)) (B' := B) (b := 0) (b' := (τ.1 a 15).toInt) (k := (V 6 p).toNat) (k' := (V 6 p).toNat) (fun j c1 c2 => N2 j c1 (by omega)) (fun j c1 c2 => tl_le K h1 j c1 (by omega)) h
      have y := z.2 i.toNat (by omega)
      have ec : ((i.toNat : Nat) : Int) = i := by omega
      rw [ec] at y
      have y2 : V 5 (8 * p + (0 + i)) = B ((τ.1 a 15).toInt + i) := y
      rw [Int.zero_add] at y2
      exact y2
  simp only [F_X6_isNamed, ↓q_letE]
  rw [gl, hsz]
  by_cases q : V 6 p = (τ.1 a 16).toInt - (τ.1 a 15).toInt
  · rw [if_pos q]
    obtain ⟨z1, z2⟩ := tc_namedL S G w E k1 k7 b.1 b.2.1 (u := q_rf X g 0) rfl hx ⟨hp.1, by omega⟩ (r1 := F_X5_get X σ (q_rf X (q_rf X g 0) 7) x) (gl.trans q) h8 ((2147483647 - (0 : Int32).toInt).toNat + 1) 0 (by decide) (by decide) (by show (0 : Int) ≤ _; omega)
    rw [inj q] at z2
    by_cases q2 : wd (bs + p) = (τ.2.1 a 19).toInt
    · rw [if_pos q2]; exact z2.mpr q2
    · rw [if_neg q2]
      rcases z1 with z1 | z1
      · exact absurd (z2.mp z1) q2
      · exact z1
  · rw [if_neg q, if_neg]
    · rfl
    · intro h
      rw [N3, xx.2.1 h8] at h
      have z := tx_wv_inj (B := fun i => V 5 (8 * p + i)) (B' := B) (b := 0) (b' := (τ.1 a 15).toInt) (k := (V 6 p).toNat) (k' := ((τ.1 a 16).toInt - (τ.1 a 15).toInt).toNat) (fun j c1 c2 => N2 j c1 (by omega)) (fun j c1 c2 => tl_le K h1 j c1 (by omega)) h
      have := z.1
      exact q (by omega)
theorem tc_playerNamedL {u : Nat} {P : Int} (hP : (σ.1 u 4).toInt = P) (hP6 : P ≤ 6) {Q : Int → Prop} (hQ : ∀ (x : Int32) (p : Int), x.toInt = p → 0 ≤ p → p < P → ((F_X6_isNamed X σ u x R).toInt = 0 ↔ ¬ Q p)) (k : Nat) : ∀ x : Int32, (2147483647 - x.toInt).toNat < k → 0 ≤ x.toInt → x.toInt ≤ 6 → y_fst Q P x.toInt (F_X6_playerNamed_L2_1 X σ u R k x).toInt := by
  induction k with
  | zero => intro x hm; exact absurd hm (Nat.not_lt_zero _)
  | succ k ih =>
    intro x hm x0 x6
    rw [F_X6_playerNamed_L2_1_s]
    simp only [F_X6_playerNamed_B2_1, ↓q_letE]
    rw [hP]
    by_cases q : x.toInt < P
    · rw [if_pos q]
      by_cases q1 : (F_X6_isNamed X σ u x R).toInt = 0
      · rw [if_pos q1]
        have e1 : (x + 1).toInt = x.toInt + 1 := y_inc (by omega)
        have z := ih (x + 1) (by omega) (by omega) (by omega)
        have nq := (hQ x x.toInt rfl x0 q).mp q1
        rw [e1] at z
        rcases z with ⟨z1, z2⟩ | ⟨z1, z2, z3, z4⟩
        · refine Or.inl ⟨z1, fun j a1 a2 => ?_⟩
          by_cases hj : j = x.toInt
          · rw [hj]; exact nq
          · exact z2 j (by omega) a2
        · refine Or.inr ⟨by omega, z2, z3, fun j a1 a2 => ?_⟩
          by_cases hj : j = x.toInt
          · rw [hj]; exact nq
          · exact z4 j (by omega) a2
      · rw [if_neg q1]
        refine Or.inr ⟨Int.le_refl _, q, ?_, fun j a1 a2 => by omega⟩
        by_cases hq : Q x.toInt
        · exact hq
        · exact absurd ((hQ x x.toInt rfl x0 q).mpr hq) q1
    · rw [if_neg q]
      exact Or.inl ⟨rfl, fun j a1 a2 => by omega⟩
theorem tm_namedL {v : Int32} {bl P : Int} (hv : v.toInt = bl) (hbl : 0 ≤ bl ∧ bl ≤ 4) (hP : m_c X τ a (930 * bl + 2) = P) (hP6 : P ≤ 6) (k : Nat) : ∀ x : Int32, (2147483647 - x.toInt).toNat < k → 0 ≤ x.toInt → x.toInt ≤ 6 → y_fst (fun p => m_wd X τ a (6 * bl + p) = (τ.2.1 a 19).toInt) P x.toInt (F_X12_named_L2_1 X v τ a k x).toInt := by
  induction k with
  | zero => intro x hm; exact absurd hm (Nat.not_lt_zero _)
  | succ k ih =>
    intro x hm x0 x6
    have e930 : (930 : Int32).toInt = 930 := rfl
    have e2 : (2 : Int32).toInt = 2 := rfl
    have e6 : (6 : Int32).toInt = 6 := rfl
    have ei : ((930 : Int32) * v + 2).toInt = 930 * bl + 2 := by rw [ar_add, ar_mul, hv, e930, e2, ar_wr (n := 930 * bl) (by omega) (by omega), ar_wr (by omega) (by omega)]
    rw [F_X12_named_L2_1_s]
    simp only [F_X12_named_B2_1, ↓q_letE]
    have rc : (τ.1 (q_rf X a 20) ((930 : Int32) * v + 2).toNatClampNeg).toInt = P := (m_rd (X := X) rfl ei).trans hP
    rw [rc]
    by_cases q : x.toInt < P
    · rw [if_pos q]
      have ej : ((6 : Int32) * v + x).toInt = 6 * bl + x.toInt := by rw [ar_add, ar_mul, hv, e6, ar_wr (n := 6 * bl) (by omega) (by omega), ar_wr (by omega) (by omega)]
      have rw_ : (τ.2.1 (q_rf X a 23) ((6 : Int32) * v + x).toNatClampNeg).toInt = m_wd X τ a (6 * bl + x.toInt) := by
        unfold m_wd
        rw [ar_cl, ej]
      have hc := lg_cmp_eq (τ.2.1 (q_rf X a 23) ((6 : Int32) * v + x).toNatClampNeg) (τ.2.1 a 19)
      by_cases q1 : m_wd X τ a (6 * bl + x.toInt) = (τ.2.1 a 19).toInt
      · have e : τ.2.1 (q_rf X a 23) ((6 : Int32) * v + x).toNatClampNeg = τ.2.1 a 19 := Int64.toInt_inj.mp (rw_.trans q1)
        rw [hc.mpr e, if_pos (by decide)]
        exact Or.inr ⟨Int.le_refl _, q, q1, fun j a1 a2 => by omega⟩
      · have e : ¬ (lg_cmp (τ.2.1 (q_rf X a 23) ((6 : Int32) * v + x).toNatClampNeg) (τ.2.1 a 19)).toInt = 0 := fun h => q1 (rw_.symm.trans (congrArg Int64.toInt (hc.mp (q_eqI.mpr h))))
        rw [if_neg e]
        have e1 : (x + 1).toInt = x.toInt + 1 := y_inc (by omega)
        have z := ih (x + 1) (by omega) (by omega) (by omega)
        rw [e1] at z
        rcases z with ⟨z1, z2⟩ | ⟨z1, z2, z3, z4⟩
        · refine Or.inl ⟨z1, fun j a1 a2 => ?_⟩
          by_cases hj : j = x.toInt
          · rw [hj]; exact q1
          · exact z2 j (by omega) a2
        · refine Or.inr ⟨by omega, z2, z3, fun j a1 a2 => ?_⟩
          by_cases hj : j = x.toInt
          · rw [hj]; exact q1
          · exact z4 j (by omega) a2
    · rw [if_neg q]
      exact Or.inl ⟨rfl, fun j a1 a2 => by omega⟩
/-- both find the same player -/
theorem tl_named (S : y_S X lb) (G : y_G X lb g o) (w : y_W X lb g o σ0 σ V) (E : tc_E X σ R T n B) (K : tl_K σ R τ a B n) (h1 : (τ.1 a 14).toInt = 1) (h8 : (τ.1 a 16).toInt - (τ.1 a 15).toInt ≤ 8) {v : Int32} {bl P : Int} (hv : v.toInt = bl) (hbl : 0 ≤ bl ∧ bl ≤ 4) (hP : m_c X τ a (930 * bl + 2) = P) (hP6 : 0 ≤ P ∧ P ≤ 6) (hV : V 1 4 = P) (N : y_nm V (m_wd X τ a) (6 * bl) P) :
    (F_X6_playerNamed X σ (q_rf X g 0) R).toInt = (F_X12_named X τ a v).toInt ∧ (((F_X12_named X τ a v).toInt = -1 ∧ ∀ p, 0 ≤ p → p < P → m_wd X τ a (6 * bl + p) ≠ (τ.2.1 a 19).toInt) ∨ (0 ≤ (F_X12_named X τ a v).toInt ∧ (F_X12_named X τ a v).toInt < P)) := by
  have z0 : (0 : Int32).toInt = 0 := rfl
  have m := tm_namedL (X := X) (τ := τ) (a := a) hv hbl hP hP6.2 ((2147483647 - (0 : Int32).toInt).toNat + 1) 0 (by decide) (by decide) (by decide)
  have hp : (σ.1 (q_rf X g 0) 4).toInt = P := by
    have := y_v_rdn (X := X) (g := g) (σ := σ) (id := 1) (by decide) 4
    rw [w.2.2] at this
    exact this.trans hV
  have c := tc_playerNamedL (X := X) (σ := σ) (R := R) (u := q_rf X g 0) hp hP6.2 (Q := fun p => m_wd X τ a (6 * bl + p) = (τ.2.1 a 19).toInt) (fun x p hx p0 p1 => by
    rw [tl_isNamed S G w E K h1 h8 N hx ⟨p0, p1⟩ hP6.2]
    by_cases q : m_wd X τ a (6 * bl + p) = (τ.2.1 a 19).toInt
    · rw [if_pos q]; exact ⟨fun h => absurd h (by decide), fun h => absurd q h⟩
    · rw [if_neg q]; exact ⟨fun _ => q, fun _ => rfl⟩) ((2147483647 - (0 : Int32).toInt).toNat + 1) 0 (by decide) (by decide) (by decide)
  unfold F_X6_playerNamed F_X12_named
  rw [z0] at m c
  refine ⟨y_fst_u (Int.le_refl 0) c m, ?_⟩
  rcases m with ⟨m1, m2⟩ | ⟨m1, m2, m3, m4⟩
  · exact Or.inl ⟨m1, m2⟩
  · exact Or.inr ⟨m1, m2⟩
/-- a player told ahead that must stand there -/
theorem tl_passPlayer (S : y_S X lb) (G : y_G X lb g o) (w : y_W X lb g o σ0 σ V) (E : tc_E X σ R T n B) (M : tm_E X τ a n B) (K : tl_K σ R τ a B n) (h : (τ.1 a 12).toInt = 0) {v : Int32} {bl P : Int} (hv : v.toInt = bl) (hbl : 0 ≤ bl ∧ bl ≤ 4) (hP : m_c X τ a (930 * bl + 2) = P) (hP6 : 0 ≤ P ∧ P ≤ 6) (hV : V 1 4 = P) (N : y_nm V (m_wd X τ a) (6 * bl) P) :
    ∃ (z y : Int32) (σ' τ' : ST), F_X3_passPlayer X σ R (q_rf X g 0) = (z, σ') ∧ F_X12_readTold X τ a v = (y, τ') ∧ tl_O X σ R τ a B n (z.toInt ≠ -1) σ' τ' ∧ (z.toInt ≠ -1 → z.toInt = y.toInt ∧ 0 ≤ y.toInt ∧ y.toInt < P) ∧ (z.toInt = -1 → 0 ≤ y.toInt ∧ y.toInt ≤ 5) := by
  have z0 : (0 : Int32).toInt = 0 := rfl
  have z1 : (1 : Int32).toInt = 1 := rfl
  have zm : ((-1) : Int32).toInt = -1 := rfl
  rcases tl_mustBeName E M K h with ⟨m1, m2, m3, m4⟩ | ⟨m1, σ', m2, m3, m4, m5⟩
  · obtain ⟨nm1, nm2⟩ := tl_named S G w E K m2 m3 hv hbl hP hP6 hV N
    simp only [F_X3_passPlayer, F_X12_readTold, F_X12_readTold_J18_1, ↓q_letE, ↓q_biE]
    have nz : ¬ ((1 : Int32), σ).1.toInt = 0 := fun q => absurd (show (1 : Int32).toInt = 0 from q) (by decide)
    rw [m4, m1, h, if_neg nz, if_pos rfl, if_pos rfl, if_pos rfl, if_neg (by decide : ¬ (1 : Int) = 0)]
    show ∃ (z y : Int32) (σ' τ' : ST), (if (F_X6_playerNamed X σ (q_rf X g 0) R).toInt = -1 then ((-1 : Int32), (F_X3_fails X σ R 3).2) else (F_X6_playerNamed X σ (q_rf X g 0) R, F_X3_advance X σ R)) = (z, σ') ∧ _
    rw [nm1]
    rcases nm2 with ⟨q1, q2⟩ | ⟨q1, q2⟩
    · rw [if_pos q1, if_pos (by omega : (F_X12_named X τ a v).toInt < 0)]
      obtain ⟨σ', a1, a2, a3, a4⟩ := tl_fail (X := X) K h (by omega) (k := 3) (by decide) (w := τ.1 a 15) rfl
      rw [a1, tm_must2 a4.2.1]
      refine ⟨-1, _, σ', _, rfl, rfl, ⟨a2, a3, Or.inr ⟨fun q => q rfl, a4⟩⟩, fun q => absurd rfl q, fun _ => ?_⟩
      unfold F_J9_max_7cf53
      rw [q1, z0, if_neg (by decide)]
      decide
    · rw [if_neg (by omega : ¬ (F_X12_named X τ a v).toInt = -1), if_neg (by omega : ¬ (F_X12_named X τ a v).toInt < 0)]
      obtain ⟨c1, c2, c3, c4⟩ := tl_adv2 E M K
      have e : F_X12_must X τ a 1 = F_X12_next X τ a := by
        simp only [F_X12_must, ↓q_letE]
        rw [h, if_neg (by decide), z1, if_neg (by decide)]
      have mx : (F_J9_max_7cf53 X (F_X12_next X τ a) 0 (F_X12_named X τ a v)).toInt = (F_X12_named X τ a v).toInt := by
        unfold F_J9_max_7cf53
        rw [z0]
        by_cases q : 0 < (F_X12_named X τ a v).toInt
        · rw [if_pos q]
        · rw [if_neg q, z0]; omega
      rw [e]
      refine ⟨_, _, _, _, rfl, rfl, ⟨c1.S2, c2.S2, Or.inl ⟨by omega, c3, by rw [tn_12 c2]; exact h, c4⟩⟩, fun _ => ?_, fun q => by omega⟩
      rw [mx]
      exact ⟨nm1, q1, q2⟩
  · have p := m5.2.1
    have np : ¬ ((F_X12_wrong X τ a).1 a 12).toInt = 0 := by omega
    simp only [F_X3_passPlayer, F_X12_readTold, F_X12_readTold_J18_1, ↓q_letE, ↓q_biE]
    rw [m2, m1, h, if_pos rfl, if_pos rfl, if_neg np, if_neg np, tm_must2 p, if_pos z0]
    refine ⟨-1, _, σ', _, rfl, rfl, ⟨m3, m4, Or.inr ⟨fun q => q rfl, m5⟩⟩, fun q => absurd rfl q, fun _ => ?_⟩
    unfold F_J9_max_7cf53
    decide
end NT
