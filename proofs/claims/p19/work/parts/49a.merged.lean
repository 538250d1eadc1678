/-! FROM 49a.game.lean.txt -/
/-! THE GAME OF BOTH: the relation; a laying left, a player bent -/
def rg_t (V : Nat → Int → Int) (c : Int → Int) : Prop := V 1 0 = c 0 ∧ V 1 1 = c 1 ∧ V 1 2 = c 3 ∧ V 1 3 = c 4 ∧ V 1 4 = c 2 ∧ 0 ≤ c 3 ∧ c 3 ≤ 2
def rg_s (V : Nat → Int → Int) (c : Int → Int) : Prop := V 0 4 = c 5 ∧ V 0 5 = (if c 2 = 0 then 0 else c 6) ∧ (V 0 6 = c 8 ∧ -1 ≤ c 8) ∧ V 0 7 = c 7
def rg_p (V : Nat → Int → Int) (c : Int → Int) : Prop := ∀ p : Int, 0 ≤ p → p < 6 → V 10 p = c (10 + p) ∧ V 11 p = c (16 + p) ∧ V 12 p = c (22 + p) ∧ V 13 p = c (28 + p)
def rg_h (V : Nat → Int → Int) (c : Int → Int) : Prop := (∀ j : Int, 0 ≤ j → j < 60 → V 7 j = c (34 + j)) ∧ ∀ p : Int, 0 ≤ p → p < 6 → V 9 p = m_S c (34 + 10 * p) 10
def rg_l (V : Nat → Int → Int) (c : Int → Int) : Prop := V 2 0 = c 9 ∧ V 2 1 = m_L c (c 9).toNat ∧ ∀ k : Int, 0 ≤ k → k < c 9 → V 14 k = c (94 + 7 * k) ∧ V 15 k = c (94 + 7 * k + 1) ∧ V 16 k = c (94 + 7 * k + 2) ∧ (0 ≤ c (94 + 7 * k) ∧ c (94 + 7 * k) < 6) ∧ ∀ i : Int, 0 ≤ i → i < c (94 + 7 * k + 2) → V 17 (4 * k + i) = c (94 + 7 * k + 3 + i)
def rg_a (V : Nat → Int → Int) (c : Int → Int) : Prop := (∀ p k : Int, 0 ≤ p → p < 6 → 0 ≤ k → k < 10 → V 8 (10 * p + k) = m_A c p k (c 9).toNat) ∧ ∀ k : Int, 0 ≤ k → k < 10 → V 4 k = m_I c k
def rg (V : Nat → Int → Int) (c : Int → Int) : Prop := rg_t V c ∧ rg_s V c ∧ rg_p V c ∧ rg_h V c ∧ rg_l V c ∧ rg_a V c
theorem gm_xor (x y : Int32) : (x ^^^ y).toInt < 0 ↔ ¬ (x.toInt < 0 ↔ y.toInt < 0) := by
  have h1 : (x ^^^ y).toBitVec.msb = (x.toBitVec.msb ^^ y.toBitVec.msb) := BitVec.msb_xor
  rw [BitVec.msb_eq_toInt, BitVec.msb_eq_toInt, BitVec.msb_eq_toInt] at h1
  have a : (x ^^^ y).toBitVec.toInt = (x ^^^ y).toInt := rfl
  have b : x.toBitVec.toInt = x.toInt := rfl
  have d : y.toBitVec.toInt = y.toInt := rfl
  rw [a, b, d] at h1
  by_cases p : x.toInt < 0 <;> by_cases q : y.toInt < 0 <;> by_cases r : (x ^^^ y).toInt < 0 <;> simp [p, q, r] at h1 ⊢
/-- what floorMod answers -/
theorem gm_fm {X : XW} {σ : ST} {x y : Int32} {a k : Int} (hx : x.toInt = a) (hy : y.toInt = k) (ha : -1000 ≤ a ∧ a ≤ 1000) (hk : 0 < k ∧ k ≤ 1000) : (F_J9_floorMod_7cf53 X σ x y).toInt = a % k := by
  have hm : (x % y).toInt = a.tmod k := by rw [Int32.toInt_mod, hx, hy]
  have n1 := Int.emod_nonneg a (by omega : k ≠ 0)
  have n2 := Int.emod_lt_of_pos a hk.1
  have hxr := gm_xor x y
  rw [hx, hy] at hxr
  unfold F_J9_floorMod_7cf53
  rw [q_letE, q_letE, q_letE, hm]
  by_cases q : a < 0
  · rw [if_pos (hxr.mpr (by omega))]
    have e := Int.tmod_add_mul_tdiv a k
    have t0 : a.tmod k = a % k ∨ a.tmod k = a % k - k := by
      have z := @Int.tmod_eq_emod a k
      rw [z]
      have kk : (k.natAbs : Int) = k := by omega
      split
      · exact Or.inl (by omega)
      · exact Or.inr (by omega)
    by_cases q2 : a.tmod k = 0
    · rw [if_pos q2, hm]
      omega
    · rw [if_neg q2]
      have t1 : a.tmod k ≤ 0 := by
        have z := Int.neg_tmod (-a) k
        rw [Int.neg_neg] at z
        rw [z]
        have y2 : 0 ≤ (-a).tmod k := by rw [Int.tmod_eq_emod_of_nonneg (by omega)]; exact Int.emod_nonneg _ (by omega)
        omega
      rw [ar_add, hm, hy, ar_wr (by omega) (by omega)]
      omega
  · rw [if_neg (fun z => by have := hxr.mp z; omega), hm, Int.tmod_eq_emod_of_nonneg (by omega)]
section GA
variable {X : XW} {lb : Nat → Nat} {g o a : Nat} {σ τ σ0 τ0 : ST} {V : Nat → Int → Int} {c : Int → Int}
theorem y_W.rd (w : y_W X lb g o σ0 σ V) {id : Nat} (h : id < 25) (f : Nat) {i : Int} (hi : (f : Int) = i) : (σ.1 (y_gA X g id) f).toInt = V id i := by
  rw [y_v_rdn h, w.2.2, hi]
/-- sums read the same behind a change below 34 -/
theorem gm_low {c' : Int → Int} (h : ∀ j : Int, 34 ≤ j → c' j = c j) : (∀ b n, 34 ≤ b → m_S c' b n = m_S c b n) ∧ (∀ n, m_L c' n = m_L c n) ∧ (∀ w k n, 34 ≤ w → m_K c' w k n = m_K c w k n) ∧ (∀ p k n, m_A c' p k n = m_A c p k n) ∧ ∀ k n, 0 ≤ k → m_P c' k n = m_P c k n := by
  have hK : ∀ (w k : Int) (n : Nat), 34 ≤ w → m_K c' w k n = m_K c w k n := by
    intro w k n hw
    induction n with
    | zero => rfl
    | succ n ih =>
      show m_K c' w k n + (if k < 0 ∨ c' (w + 3 + (n : Int)) = k then 1 else 0) = m_K c w k n + (if k < 0 ∨ c (w + 3 + (n : Int)) = k then 1 else 0)
      rw [ih, h _ (by omega)]
  refine ⟨fun b n hb => m_S_ext (fun j a1 a2 => h j (by omega)), fun n => ?_, hK, fun p k n => ?_, fun k n hk => ?_⟩
  · induction n with
    | zero => rfl
    | succ n ih =>
      show m_L c' n + c' (94 + 7 * (n : Int) + 2) = m_L c n + c (94 + 7 * (n : Int) + 2)
      rw [ih, h _ (by omega)]
  · induction n with
    | zero => rfl
    | succ n ih =>
      show m_A c' p k n + (if 0 ≤ p ∧ c' (94 + 7 * (n : Int)) ≠ p then 0 else m_K c' (94 + 7 * (n : Int)) k (c' (94 + 7 * (n : Int) + 2)).toNat) = m_A c p k n + (if 0 ≤ p ∧ c (94 + 7 * (n : Int)) ≠ p then 0 else m_K c (94 + 7 * (n : Int)) k (c (94 + 7 * (n : Int) + 2)).toNat)
      rw [ih, h _ (by omega), h _ (by omega), hK _ _ _ (by omega)]
  · induction n with
    | zero => rfl
    | succ n ih =>
      show m_P c' k n + c' (34 + 10 * (n : Int) + k) = m_P c k n + c (34 + 10 * (n : Int) + k)
      rw [ih, h _ (by omega)]
/-- kind, turn, winner, open anew: the rest stands -/
theorem rg.st {V' : Nat → Int → Int} {c' : Int → Int} (h : rg V c) (hV : ∀ id i, id ≠ 0 → V' id i = V id i) (hc : ∀ j : Int, j ≠ 5 → j ≠ 6 → j ≠ 7 → j ≠ 8 → c' j = c j) (s : rg_s V' c') : rg V' c' := by
  obtain ⟨⟨t1, t2, t3, t4, t5, t6⟩, -, hp, ⟨h1, h2⟩, ⟨l1, l2, l3⟩, ⟨a1, a2⟩⟩ := h
  obtain ⟨lS, lL, lK, lA, lP⟩ := gm_low (c := c) (c' := c') (fun j hj => hc j (by omega) (by omega) (by omega) (by omega))
  have e9 : c' 9 = c 9 := hc 9 (by decide) (by decide) (by decide) (by decide)
  have e2 : c' 2 = c 2 := hc 2 (by decide) (by decide) (by decide) (by decide)
  refine ⟨⟨?_, ?_, ?_, ?_, ?_, ?_⟩, s, fun p p0 p1 => ?_, ⟨fun j j0 j1 => ?_, fun p p0 p1 => ?_⟩, ⟨?_, ?_, fun k k0 k1 => ?_⟩, ⟨fun p k p0 p1 k0 k1 => ?_, fun k k0 k1 => ?_⟩⟩
  · rw [hV 1 0 (by decide), hc 0 (by decide) (by decide) (by decide) (by decide)]; exact t1
  · rw [hV 1 1 (by decide), hc 1 (by decide) (by decide) (by decide) (by decide)]; exact t2
  · rw [hV 1 2 (by decide), hc 3 (by decide) (by decide) (by decide) (by decide)]; exact t3
  · rw [hV 1 3 (by decide), hc 4 (by decide) (by decide) (by decide) (by decide)]; exact t4
  · rw [hV 1 4 (by decide), e2]; exact t5
  · rw [hc 3 (by decide) (by decide) (by decide) (by decide)]; exact t6
  · rw [hV 10 p (by decide), hV 11 p (by decide), hV 12 p (by decide), hV 13 p (by decide), hc _ (by omega) (by omega) (by omega) (by omega), hc _ (by omega) (by omega) (by omega) (by omega), hc _ (by omega) (by omega) (by omega) (by omega), hc _ (by omega) (by omega) (by omega) (by omega)]
    exact hp p p0 p1
  · rw [hV 7 j (by decide), hc _ (by omega) (by omega) (by omega) (by omega)]; exact h1 j j0 j1
  · rw [hV 9 p (by decide), lS _ _ (by omega)]; exact h2 p p0 p1
  · rw [hV 2 0 (by decide), e9]; exact l1
  · rw [hV 2 1 (by decide), e9, lL]; exact l2
  · rw [e9] at k1
    obtain ⟨y1, y2, y3, y5, y4⟩ := l3 k k0 k1
    rw [hV 14 k (by decide), hV 15 k (by decide), hV 16 k (by decide), hc _ (by omega) (by omega) (by omega) (by omega), hc _ (by omega) (by omega) (by omega) (by omega), hc _ (by omega) (by omega) (by omega) (by omega)]
    refine ⟨y1, y2, y3, y5, fun i i0 i1 => ?_⟩
    rw [hV 17 _ (by decide), hc _ (by omega) (by omega) (by omega) (by omega)]
    exact y4 i i0 i1
  · rw [hV 8 _ (by decide), e9, lA]; exact a1 p k p0 p1 k0 k1
  · rw [hV 4 k (by decide)]
    unfold m_I
    rw [e9, e2, lA, lP _ _ k0]
    exact a2 k k0 k1
end GA

/-! FROM 49b.leave.lean.txt -/
/-! A LAYING LEFT, A PLAYER BENT -/
/-- the kind behind k, where no one doubted -/
def gm_nk (c : Int → Int) (k : Int) : Int := if c 3 = 2 then k else if c 3 = 0 then (k + 1) % c 0 else (k - 1) % c 0
section GB
variable {X : XW} {lb : Nat → Nat} {g o a : Nat} {σ τ σ0 τ0 : ST} {V : Nat → Int → Int} {c : Int → Int}
theorem gm_back {k K : Int} : (k + K - 1) % K = (k - 1) % K := by
  have e : k + K - 1 = (k - 1) + K * 1 := by omega
  rw [e, Int.add_mul_emod_self_left]
theorem gm_cell (hc : m_c X τ a = c) {i : Int32} {A : Int} (h : i.toInt = A) : (τ.1 (q_rf X a 20) i.toNatClampNeg).toInt = c A := by
  have z := m_rd (X := X) (σ := τ) (a := a) rfl h
  rw [hc] at z
  exact z
/-- the class: the kind that follows -/
theorem gm_kindAfter (w : y_W X lb g o σ0 σ V) (t : rg_t V c) (h : m_H c) {x : Int32} {k : Int} (hx : x.toInt = k) (hk : 0 ≤ k ∧ k < c 0) : (F_X6_kindAfter X σ (q_rf X g 0) x 1).toInt = gm_nk c k := by
  obtain ⟨t1, t2, t3, t4, t5, t6⟩ := t
  have one : (1 : Int32).toInt = 1 := rfl
  have e2 : (σ.1 (q_rf X g 0) 2).toInt = c 3 := (w.rd (id := 1) (by decide) 2 rfl).trans t3
  have e0 : (σ.1 (q_rf X g 0) 0).toInt = c 0 := (w.rd (id := 1) (by decide) 0 rfl).trans t1
  have h0 := h.1
  unfold F_X6_kindAfter gm_nk
  rw [q_letE (σ.1 (q_rf X g 0) 2), e2]
  by_cases q : c 3 = 2
  · rw [if_pos q, if_pos q]
    exact hx
  · rw [if_neg q, if_neg q, q_letE (σ.1 (q_rf X g 0) 0), e0, if_pos (by omega), q_letE (σ.1 (q_rf X g 0) 2), e2]
    by_cases q0 : c 3 = 0
    · rw [if_pos q0, if_pos q0, q_letE, q_letE, q_letE]
      exact gm_fm (by rw [ar_add, hx, one, ar_wr (by omega) (by omega)]) e0 ⟨by omega, by omega⟩ ⟨by omega, by omega⟩
    · rw [if_neg q0, if_neg q0, q_letE, q_letE, q_letE]
      exact gm_fm (by rw [ar_sub, hx, one, ar_wr (by omega) (by omega)]) e0 ⟨by omega, by omega⟩ ⟨by omega, by omega⟩
/-- the reference's -/
theorem gm_nextKind (hc : m_c X τ a = c) (h0 : 2 ≤ c 0 ∧ c 0 ≤ 10) (h5 : 0 ≤ c 5 ∧ c 5 < c 0) (h3 : 0 ≤ c 3 ∧ c 3 ≤ 2) : (F_X12_nextKind X τ a 1).toInt = gm_nk c (c 5) := by
  have one : (1 : Int32).toInt = 1 := rfl
  have r0 : (τ.1 (q_rf X a 20) (0 : Int32).toNatClampNeg).toInt = c 0 := gm_cell hc rfl
  have r3 : (τ.1 (q_rf X a 20) (3 : Int32).toNatClampNeg).toInt = c 3 := gm_cell hc rfl
  have r5 : (τ.1 (q_rf X a 20) (5 : Int32).toNatClampNeg).toInt = c 5 := gm_cell hc rfl
  have rm : ∀ (x : Int32) (k : Int), x.toInt = k → 0 ≤ k → (x % τ.1 (q_rf X a 20) (0 : Int32).toNatClampNeg).toInt = k % c 0 := by
    intro x k hx h0'
    rw [Int32.toInt_mod, hx, r0, Int.tmod_eq_emod_of_nonneg h0']
  unfold F_X12_nextKind gm_nk
  rw [q_letE (τ.1 (q_rf X a 20) (0 : Int32).toNatClampNeg), q_letE (τ.1 (q_rf X a 20) (3 : Int32).toNatClampNeg), r3]
  by_cases q0 : c 3 = 0
  · rw [if_pos q0, if_neg (by omega), if_pos q0, q_letE, q_letE, q_letE]
    exact rm _ _ (by rw [ar_add, r5, one, ar_wr (by omega) (by omega)]) (by omega)
  · rw [if_neg q0, q_letE (τ.1 (q_rf X a 20) (3 : Int32).toNatClampNeg), r3]
    by_cases q1 : c 3 = 1
    · rw [if_pos q1, q_letE (τ.1 (q_rf X a 20) (3 : Int32).toNatClampNeg), r3, if_pos q1, if_neg (by omega), if_neg q0, q_letE, q_letE, q_letE, q_letE]
      rw [rm _ (c 5 + c 0 - 1) (by rw [ar_sub, ar_add, r5, r0, one, ar_wr (n := c 5 + c 0) (by omega) (by omega), ar_wr (by omega) (by omega)]) (by omega)]
      exact gm_back
    · rw [if_neg q1, one, if_neg (by decide), q_letE (τ.1 (q_rf X a 20) (3 : Int32).toNatClampNeg), r3, if_neg q1, if_pos (by omega), q_letE]
      exact r5
/-- who follows -/
theorem gm_playerAfter (w : y_W X lb g o σ0 σ V) (t : rg_t V c) (h : m_H c) {x : Int32} {p : Int} (hx : x.toInt = p) (hp : 0 ≤ p ∧ p < c 2) : (F_X6_playerAfter X σ (q_rf X g 0) x 1).toInt = (p + 1) % c 2 := by
  have one : (1 : Int32).toInt = 1 := rfl
  have h2 := h.2.1
  have e4 : (σ.1 (q_rf X g 0) 4).toInt = c 2 := (w.rd (id := 1) (by decide) 4 rfl).trans t.2.2.2.2.1
  unfold F_X6_playerAfter
  rw [q_letE (σ.1 (q_rf X g 0) 4), e4, if_pos (by omega), q_letE, q_letE, q_letE]
  exact gm_fm (by rw [ar_add, hx, one, ar_wr (by omega) (by omega)]) e4 ⟨by omega, by omega⟩ ⟨by omega, by omega⟩
theorem gm_behindOf (hc : m_c X τ a = c) (h2 : 0 ≤ c 2 ∧ c 2 ≤ 6) {x : Int32} {p : Int} (hx : x.toInt = p) (hp : 0 ≤ p ∧ p < c 2) : (F_X12_behindOf X τ a x).toInt = (p + 1) % c 2 := by
  have one : (1 : Int32).toInt = 1 := rfl
  have r2 : (τ.1 (q_rf X a 20) (2 : Int32).toNatClampNeg).toInt = c 2 := gm_cell hc rfl
  unfold F_X12_behindOf
  rw [q_letE, q_letE, q_letE, Int32.toInt_mod, ar_add, hx, one, ar_wr (by omega) (by omega), r2, Int.tmod_eq_emod_of_nonneg (by omega)]
/-- the reference's cards of a player -/
theorem gm_handOf (hc : m_c X τ a = c) {x y : Int32} {p k : Int} (hx : x.toInt = p) (hy : y.toInt = k) (hp : 0 ≤ p ∧ p < 6) (hk : 0 ≤ k ∧ k < 10) : (F_X12_handOf X τ a x y).toInt = c (34 + 10 * p + k) := by
  have e10 : (10 : Int32).toInt = 10 := rfl
  have e34 : (34 : Int32).toInt = 34 := rfl
  unfold F_X12_handOf
  rw [q_letE, q_letE, q_letE, q_letE]
  exact gm_cell hc (by rw [ar_add, ar_add, ar_mul, e34, e10, hx, hy, ar_wr (n := 10 * p) (by omega) (by omega), ar_wr (n := 34 + 10 * p) (by omega) (by omega), ar_wr (by omega) (by omega)])
theorem gm_cardsL (hc : m_c X τ a = c) (hb : ∀ p k : Int, 0 ≤ p → p < 6 → 0 ≤ k → k < 10 → 0 ≤ c (34 + 10 * p + k) ∧ c (34 + 10 * p + k) ≤ 80) {v : Int32} {p : Int} (hv : v.toInt = p) (hp : 0 ≤ p ∧ p < 6) (k : Nat) : ∀ x y : Int32, (2147483647 - y.toInt).toNat < k → 0 ≤ y.toInt → y.toInt ≤ 10 → x.toInt = m_S c (34 + 10 * p) y.toInt.toNat → 0 ≤ x.toInt → x.toInt ≤ 80 * y.toInt → (F_X12_cardsOf_L4_1 X τ a v k x y).toInt = m_S c (34 + 10 * p) 10 := by
  induction k with
  | zero => intro x y hm; exact absurd hm (Nat.not_lt_zero _)
  | succ k ih =>
    intro x y hm y0 y1 hx x0 x1
    rw [F_X12_cardsOf_L4_1_s]
    unfold F_X12_cardsOf_B4_1
    by_cases q : y.toInt < 10
    · have hh := gm_handOf hc hv (y := y) rfl hp ⟨y0, q⟩
      have bb := hb p y.toInt hp.1 hp.2 y0 q
      have e1 : (y + 1).toInt = y.toInt + 1 := y_inc (by omega)
      have ex : (x + F_X12_handOf X τ a v y).toInt = x.toInt + c (34 + 10 * p + y.toInt) := by rw [ar_add, hh, ar_wr (by omega) (by omega)]
      rw [if_pos q, q_letE, q_letE, q_letE]
      refine ih _ _ (by omega) (by omega) (by omega) ?_ (by omega) (by omega)
      rw [ex, e1, hx]
      have et : (y.toInt + 1).toNat = y.toInt.toNat + 1 := by omega
      rw [et]
      show _ = m_S c (34 + 10 * p) y.toInt.toNat + c (34 + 10 * p + (y.toInt.toNat : Int))
      have ec : (y.toInt.toNat : Int) = y.toInt := by omega
      rw [ec]
    · have ey : y.toInt = 10 := by omega
      rw [if_neg q, hx, ey]
      rfl
theorem gm_cardsOf (hc : m_c X τ a = c) (hG : m_G c) {v : Int32} {p : Int} (hv : v.toInt = p) (hp : 0 ≤ p ∧ p < 6) : (F_X12_cardsOf X τ a v).toInt = m_S c (34 + 10 * p) 10 := by
  unfold F_X12_cardsOf
  have z0 : (0 : Int32).toInt = 0 := rfl
  exact gm_cardsL hc (fun p k a1 a2 a3 a4 => hG.h80 a1 a2 a3 a4) hv hp _ 0 0 (by decide) (by decide) (by decide) (by rw [z0]; rfl) (by decide) (by decide)
end GB

/-! FROM 49c.letlie.lean.txt -/
/-! A LAYING LEFT: class and reference -/
section GC
variable {X : XW} {lb : Nat → Nat} {g o a : Nat} {σ τ σ0 τ0 : ST} {V : Nat → Int → Int} {c : Int → Int}
theorem gm_winIfRid (Y : y_S X lb) (G : y_G X lb g o) (w : y_W X lb g o σ0 σ V) {p : Int} (h5 : V 0 5 = p) (hp : 0 ≤ p ∧ p < 6) : y_W X lb g o σ0 (F_X0_winIfRid X σ g) (y_up V 0 6 (if V 9 p = 0 then p else V 0 6)) := by
  have e5 : (σ.1 g 5).toInt = p := (w.rd (id := 0) (by decide) 5 rfl).trans h5
  have gn9 : ((y_gn 9 : Nat) : Int) = 6 := rfl
  have e9 : (F_X5_get X σ (q_rf X (q_rf X g 1) 2) (σ.1 g 5)).toInt = V 9 p := y_getI Y G w (id := 9) ⟨by decide, by decide⟩ rfl e5 hp.1 (by rw [gn9]; exact hp.2)
  unfold F_X0_winIfRid
  rw [q_letE (σ.1 g 5), q_letE (F_X5_get X σ (q_rf X (q_rf X g 1) 2) (σ.1 g 5)), e9]
  by_cases q : V 9 p = 0
  · rw [if_pos q, if_pos q, q_letE, q_letE]
    have w2 := w.si Y G (id := 0) (by decide) 6 (σ.1 g 5)
    rw [e5] at w2
    exact w2
  · rw [if_neg q, if_neg q, y_up_id]
    exact w
theorem gm_letLie (Y : y_S X lb) (G : y_G X lb g o) (ha : q_kd X a = 12) (w : y_W X lb g o σ0 σ V) (R : rg V c) (hG : m_G c) (hc : m_c X τ a = c) (h7 : c 7 = 1) :
    ∃ (V' : Nat → Int → Int) (c' : Int → Int), y_W X lb g o σ0 (F_X0_letLie X σ g) V' ∧ m_c X (F_X12_leaves X τ a) a = c' ∧ tkl (fun b _ => b = q_rf X a 20) (fun _ _ => False) τ (F_X12_leaves X τ a) ∧ rg V' c' ∧ (∀ id i, id ≠ 0 → V' id i = V id i) ∧ (∀ j : Int, j ≠ 5 → j ≠ 6 → j ≠ 7 → j ≠ 8 → c' j = c j) ∧ m_G c' := by
  have hH := hG.1
  obtain ⟨b0, b2, b4, b5, b6, b7, b9, b79⟩ := hG.1
  obtain ⟨P, hP⟩ : ∃ P, P = c 6 := ⟨_, rfl⟩
  have pr : 0 ≤ P ∧ P < c 2 := by omega
  have rs := R.2.1
  have rt := R.1
  have n2 : ¬ c 2 = 0 := by omega
  have v5 : V 0 5 = P := by
    have z := rs.2.1
    rw [if_neg n2] at z
    exact z.trans hP.symm
  have z0 : (0 : Int32).toInt = 0 := rfl
  obtain ⟨W, hW⟩ : ∃ W : Int, W = (if m_S c (34 + 10 * P) 10 = 0 then P else c 8) := ⟨_, rfl⟩
  obtain ⟨Kd, hKd⟩ : ∃ K, K = gm_nk c (c 5) := ⟨_, rfl⟩
  obtain ⟨Tn, hTn⟩ : ∃ T, T = (P + 1) % c 2 := ⟨_, rfl⟩
  -- the class
  have cls : y_W X lb g o σ0 (F_X0_letLie X σ g) (y_up (y_up (y_up (y_up V 0 7 0) 0 6 W) 0 4 Kd) 0 5 Tn) := by
    have w1 : y_W X lb g o σ0 (q_si σ g 7 0) (y_up V 0 7 0) := w.si Y G (id := 0) (by decide) 7 0
    unfold F_X0_letLie
    rw [q_letE (q_si σ g 7 0)]
    obtain ⟨σ1, e1⟩ : ∃ s, s = q_si σ g 7 0 := ⟨_, rfl⟩
    rw [← e1] at w1 ⊢
    have w2 := gm_winIfRid Y G w1 (p := P) ((y_up_ne (Or.inr (by decide))).trans v5) ⟨pr.1, by omega⟩
    have r9 : y_up V 0 7 0 9 P = m_S c (34 + 10 * P) 10 := (y_up_ne (Or.inl (by decide))).trans (R.2.2.2.1.2 P pr.1 (by omega))
    have r6 : y_up V 0 7 0 0 6 = c 8 := (y_up_ne (Or.inr (by decide))).trans rs.2.2.1.1
    rw [r9, r6, ← hW] at w2
    rw [q_letE (F_X0_winIfRid X σ1 g)]
    obtain ⟨σ2, e2⟩ : ∃ s, s = F_X0_winIfRid X σ1 g := ⟨_, rfl⟩
    rw [← e2] at w2 ⊢
    have k4 : (σ2.1 g 4).toInt = c 5 := by
      refine (w2.rd (id := 0) (by decide) 4 rfl).trans ?_
      rw [y_up_ne (Or.inr (by decide)), y_up_ne (Or.inr (by decide))]
      exact rs.1
    have t2 : rg_t (y_up (y_up V 0 7 0) 0 6 W) c := by
      obtain ⟨t1, t2, t3, t4, t5, t6⟩ := rt
      refine ⟨?_, ?_, ?_, ?_, ?_, t6⟩
      · rw [y_up_ne (Or.inl (by decide)), y_up_ne (Or.inl (by decide))]; exact t1
      · rw [y_up_ne (Or.inl (by decide)), y_up_ne (Or.inl (by decide))]; exact t2
      · rw [y_up_ne (Or.inl (by decide)), y_up_ne (Or.inl (by decide))]; exact t3
      · rw [y_up_ne (Or.inl (by decide)), y_up_ne (Or.inl (by decide))]; exact t4
      · rw [y_up_ne (Or.inl (by decide)), y_up_ne (Or.inl (by decide))]; exact t5
    have ka := gm_kindAfter w2 t2 hH k4 b5
    rw [← hKd] at ka
    rw [q_letE (σ2.1 g 4), q_letE (F_X6_kindAfter X σ2 (q_rf X g 0) (σ2.1 g 4) 1)]
    have w3 : y_W X lb g o σ0 (q_si σ2 g 4 (F_X6_kindAfter X σ2 (q_rf X g 0) (σ2.1 g 4) 1)) _ := w2.si Y G (id := 0) (by decide) 4 (F_X6_kindAfter X σ2 (q_rf X g 0) (σ2.1 g 4) 1)
    rw [ka] at w3
    rw [q_letE (q_si σ2 g 4 (F_X6_kindAfter X σ2 (q_rf X g 0) (σ2.1 g 4) 1))]
    obtain ⟨σ3, e3⟩ : ∃ s, s = q_si σ2 g 4 (F_X6_kindAfter X σ2 (q_rf X g 0) (σ2.1 g 4) 1) := ⟨_, rfl⟩
    rw [← e3] at w3 ⊢
    have w3' : y_W X lb g o σ0 σ3 (y_up (y_up (y_up V 0 7 0) 0 6 W) 0 4 Kd) := w3
    have k5 : (σ3.1 g 5).toInt = P := by
      refine (w3'.rd (id := 0) (by decide) 5 rfl).trans ?_
      rw [y_up_ne (Or.inr (by decide)), y_up_ne (Or.inr (by decide)), y_up_ne (Or.inr (by decide))]
      exact v5
    have t3 : rg_t (y_up (y_up (y_up V 0 7 0) 0 6 W) 0 4 Kd) c := by
      obtain ⟨s1, s2, s3, s4, s5, s6⟩ := t2
      refine ⟨?_, ?_, ?_, ?_, ?_, s6⟩
      · rw [y_up_ne (Or.inl (by decide))]; exact s1
      · rw [y_up_ne (Or.inl (by decide))]; exact s2
      · rw [y_up_ne (Or.inl (by decide))]; exact s3
      · rw [y_up_ne (Or.inl (by decide))]; exact s4
      · rw [y_up_ne (Or.inl (by decide))]; exact s5
    have pa := gm_playerAfter w3' t3 hH k5 pr
    rw [← hTn] at pa
    rw [q_letE (σ3.1 g 5), q_letE (F_X6_playerAfter X σ3 (q_rf X g 0) (σ3.1 g 5) 1), q_letE]
    have w4 : y_W X lb g o σ0 (q_si σ3 g 5 (F_X6_playerAfter X σ3 (q_rf X g 0) (σ3.1 g 5) 1)) _ := w3'.si Y G (id := 0) (by decide) 5 (F_X6_playerAfter X σ3 (q_rf X g 0) (σ3.1 g 5) 1)
    rw [pa] at w4
    exact w4
  -- the reference
  have mdl : m_c X (F_X12_leaves X τ a) a = m_up (m_up (m_up (m_up c 7 0) 8 W) 5 Kd) 6 Tn ∧ tkl (fun b _ => b = q_rf X a 20) (fun _ _ => False) τ (F_X12_leaves X τ a) := by
    have r6 : (τ.1 (q_rf X a 20) (6 : Int32).toNatClampNeg).toInt = P := (gm_cell hc rfl).trans hP.symm
    unfold F_X12_leaves
    rw [q_letE (τ.1 (q_rf X a 20) (6 : Int32).toNatClampNeg)]
    obtain ⟨f, hf⟩ : ∃ f, f = τ.1 (q_rf X a 20) (6 : Int32).toNatClampNeg := ⟨_, rfl⟩
    rw [← hf] at r6 ⊢
    have c1 : m_c X (q_si τ (q_rf X a 20) (7 : Int32).toNatClampNeg 0) a = m_up c 7 0 := by
      rw [m_c_up 7 (by decide) rfl, hc, z0]
    have k1 : tkl (fun b _ => b = q_rf X a 20) (fun _ _ => False) τ (q_si τ (q_rf X a 20) (7 : Int32).toNatClampNeg 0) := tkl.rf.si _ rfl
    rw [q_letE (q_si τ (q_rf X a 20) (7 : Int32).toNatClampNeg 0)]
    obtain ⟨τ1, e1⟩ : ∃ s, s = q_si τ (q_rf X a 20) (7 : Int32).toNatClampNeg 0 := ⟨_, rfl⟩
    rw [← e1] at c1 k1 ⊢
    have cd : (F_X12_cardsOf X τ1 a f).toInt = m_S c (34 + 10 * P) 10 := by
      have z := gm_cardsL c1 (fun p k a1 a2 a3 a4 => by rw [m_up_ne (by omega)]; exact hG.h80 a1 a2 a3 a4) r6 ⟨pr.1, by omega⟩ ((2147483647 - (0 : Int32).toInt).toNat + 1) 0 0 (by decide) (by decide) (by decide) (by rw [z0]; rfl) (by decide) (by decide)
      unfold F_X12_cardsOf
      rw [z]
      exact m_S_ext (fun j a1 a2 => m_up_ne (by omega))
    rw [q_letE (F_X12_cardsOf X τ1 a f), cd]
    -- kind and turn behind the winner
    have fin : ∀ τ2 : ST, m_c X τ2 a = m_up (m_up c 7 0) 8 W → tkl (fun b _ => b = q_rf X a 20) (fun _ _ => False) τ τ2 →
        m_c X (q_let (F_X12_nextKind X τ2 a (1 : Int32) : Int32) (fun r_8 => q_let (q_si τ2 (q_rf X a 20) (5 : Int32).toNatClampNeg r_8 : ST) (fun σ_10 => q_let (F_X12_behindOf X σ_10 a f : Int32) (fun r_11 => q_let (q_si σ_10 (q_rf X a 20) (6 : Int32).toNatClampNeg r_11 : ST) (fun σ_13 => σ_13))))) a = m_up (m_up (m_up (m_up c 7 0) 8 W) 5 Kd) 6 Tn ∧
        tkl (fun b _ => b = q_rf X a 20) (fun _ _ => False) τ (q_let (F_X12_nextKind X τ2 a (1 : Int32) : Int32) (fun r_8 => q_let (q_si τ2 (q_rf X a 20) (5 : Int32).toNatClampNeg r_8 : ST) (fun σ_10 => q_let (F_X12_behindOf X σ_10 a f : Int32) (fun r_11 => q_let (q_si σ_10 (q_rf X a 20) (6 : Int32).toNatClampNeg r_11 : ST) (fun σ_13 => σ_13))))) := by
      intro τ2 c2 k2
      have d : ∀ j : Int, j ≠ 7 → j ≠ 8 → m_up (m_up c 7 0) 8 W j = c j := fun j a1 a2 => by rw [m_up_ne a2, m_up_ne a1]
      have nk := gm_nextKind c2 (by rw [d 0 (by decide) (by decide)]; exact b0) (by rw [d 5 (by decide) (by decide), d 0 (by decide) (by decide)]; exact b5) (by rw [d 3 (by decide) (by decide)]; exact rt.2.2.2.2.2)
      have ek : gm_nk (m_up (m_up c 7 0) 8 W) (m_up (m_up c 7 0) 8 W 5) = Kd := by
        unfold gm_nk at hKd ⊢
        rw [d 3 (by decide) (by decide), d 5 (by decide) (by decide), d 0 (by decide) (by decide)]
        exact hKd.symm
      rw [ek] at nk
      rw [q_letE (F_X12_nextKind X τ2 a 1)]
      have c3 : m_c X (q_si τ2 (q_rf X a 20) (5 : Int32).toNatClampNeg (F_X12_nextKind X τ2 a 1)) a = m_up (m_up (m_up c 7 0) 8 W) 5 Kd := by
        rw [m_c_up 5 (by decide) rfl, c2, nk]
      have k3 : tkl (fun b _ => b = q_rf X a 20) (fun _ _ => False) τ (q_si τ2 (q_rf X a 20) (5 : Int32).toNatClampNeg (F_X12_nextKind X τ2 a 1)) := k2.si _ rfl
      rw [q_letE (q_si τ2 (q_rf X a 20) (5 : Int32).toNatClampNeg (F_X12_nextKind X τ2 a 1))]
      obtain ⟨τ3, e3⟩ : ∃ s, s = q_si τ2 (q_rf X a 20) (5 : Int32).toNatClampNeg (F_X12_nextKind X τ2 a 1) := ⟨_, rfl⟩
      rw [← e3] at c3 k3 ⊢
      have d2 : m_up (m_up (m_up c 7 0) 8 W) 5 Kd 2 = c 2 := by rw [m_up_ne (by decide)]; exact d 2 (by decide) (by decide)
      have bh := gm_behindOf c3 (by rw [d2]; exact b2) r6 (by rw [d2]; exact pr)
      rw [d2, ← hTn] at bh
      rw [q_letE (F_X12_behindOf X τ3 a f), q_letE]
      refine ⟨?_, k3.si _ rfl⟩
      rw [m_c_up 6 (by decide) rfl, c3, bh]
    by_cases q : m_S c (34 + 10 * P) 10 = 0
    · rw [if_pos q] at hW
      rw [if_pos q, q_letE (q_si τ1 (q_rf X a 20) (8 : Int32).toNatClampNeg f)]
      exact fin _ (by rw [m_c_up 8 (by decide) rfl, c1, r6, hW]) (k1.si _ rfl)
    · rw [if_neg q] at hW
      rw [if_neg q]
      refine fin τ1 ?_ k1
      rw [c1, hW]
      have e8 : m_up c 7 0 8 = c 8 := m_up_ne (by decide)
      have z := m_up_id (m_up c 7 0) 8
      rw [e8] at z
      exact z.symm
  have hV' : ∀ id i, id ≠ 0 → y_up (y_up (y_up (y_up V 0 7 0) 0 6 W) 0 4 Kd) 0 5 Tn id i = V id i := fun id i h => by
    rw [y_up_ne (Or.inl h), y_up_ne (Or.inl h), y_up_ne (Or.inl h), y_up_ne (Or.inl h)]
  have hc' : ∀ j : Int, j ≠ 5 → j ≠ 6 → j ≠ 7 → j ≠ 8 → m_up (m_up (m_up (m_up c 7 0) 8 W) 5 Kd) 6 Tn j = c j := fun j a1 a2 a3 a4 => by
    rw [m_up_ne a2, m_up_ne a1, m_up_ne a4, m_up_ne a3]
  have kb : 0 ≤ Kd ∧ Kd < c 0 := by
    rw [hKd]
    unfold gm_nk
    have n0 : c 0 ≠ 0 := by omega
    have m1 := Int.emod_nonneg (c 5 + 1) n0
    have m2 := Int.emod_lt_of_pos (c 5 + 1) (by omega : 0 < c 0)
    have m3 := Int.emod_nonneg (c 5 - 1) n0
    have m4 := Int.emod_lt_of_pos (c 5 - 1) (by omega : 0 < c 0)
    split
    · exact b5
    · split
      · exact ⟨m1, m2⟩
      · exact ⟨m3, m4⟩
  have tb : 0 ≤ Tn ∧ Tn < c 2 := by
    rw [hTn]
    exact ⟨Int.emod_nonneg _ (by omega), Int.emod_lt_of_pos _ (by omega)⟩
  have g1 : m_G (m_up c 7 0) := hG.wr m_up_e (Or.inl ⟨rfl, rfl⟩)
  have g2 : m_G (m_up (m_up c 7 0) 8 W) := g1.wr m_up_e (Or.inr (Or.inl rfl))
  have e20 : m_up (m_up c 7 0) 8 W 0 = c 0 := by rw [m_up_ne (by decide), m_up_ne (by decide)]
  have g3 : m_G (m_up (m_up (m_up c 7 0) 8 W) 5 Kd) := g2.wr m_up_e (Or.inr (Or.inr (Or.inr (Or.inl ⟨rfl, kb.1, by rw [e20]; exact kb.2⟩))))
  have e32 : m_up (m_up (m_up c 7 0) 8 W) 5 Kd 2 = c 2 := by rw [m_up_ne (by decide), m_up_ne (by decide), m_up_ne (by decide)]
  have e37 : m_up (m_up (m_up c 7 0) 8 W) 5 Kd 7 = 0 := by rw [m_up_ne (by decide), m_up_ne (by decide), m_up_eq]
  have g4 : m_G (m_up (m_up (m_up (m_up c 7 0) 8 W) 5 Kd) 6 Tn) := g3.wr m_up_e (Or.inr (Or.inr (Or.inr (Or.inr (Or.inl ⟨rfl, tb.1, by rw [e32]; exact tb.2, e37⟩)))))
  refine ⟨_, _, cls, mdl.1, mdl.2, R.st hV' hc' ⟨?_, ?_, ⟨?_, ?_⟩, ?_⟩, hV', hc', g4⟩
  · rw [y_up_ne (Or.inr (by decide)), y_up_eq, m_up_ne (by decide), m_up_eq]
  · rw [y_up_eq, hc' 2 (by decide) (by decide) (by decide) (by decide), if_neg n2, m_up_eq]
  · rw [y_up_ne (Or.inr (by decide)), y_up_ne (Or.inr (by decide)), y_up_eq, m_up_ne (by decide), m_up_ne (by decide), m_up_eq]
  · rw [m_up_ne (by decide), m_up_ne (by decide), m_up_eq, hW]
    have w8 := rs.2.2.1.2
    split <;> omega
  · rw [y_up_ne (Or.inr (by decide)), y_up_ne (Or.inr (by decide)), y_up_ne (Or.inr (by decide)), y_up_eq, m_up_ne (by decide), m_up_ne (by decide), m_up_ne (by decide), m_up_eq]
end GC

/-! FROM 49d.laydown.lean.txt -/
/-! CARDS LAID DOWN: the reference -/
theorem gl_mono {l : Int → Int} (h : ∀ t : Int, 0 ≤ t → t < 10 → 0 ≤ l t) {t k : Int} (h0 : 0 ≤ t) (h1 : t ≤ k) (h2 : k ≤ 10) : m_S l 0 t.toNat ≤ m_S l 0 k.toNat := by
  have z := m_S_add l 0 t.toNat (k.toNat - t.toNat)
  have e : t.toNat + (k.toNat - t.toNat) = k.toNat := by omega
  rw [e] at z
  have y : 0 ≤ m_S l (0 + (t.toNat : Int)) (k.toNat - t.toNat) := m_S_nn (fun j a b => h j (by omega) (by omega))
  omega
theorem gl_succ (l : Int → Int) {k : Int} (h : 0 ≤ k) : m_S l 0 (k + 1).toNat = m_S l 0 k.toNat + l k := by
  have z := m_S_succ l 0 k h
  rw [Int.zero_add] at z
  exact z
/-- which kind the q-th card laid is of -/
theorem gl_at {l : Int → Int} (n : Nat) (q : Int) (h0 : 0 ≤ q) (h1 : q < m_S l 0 n) : ∃ t : Int, 0 ≤ t ∧ t < (n : Int) ∧ m_S l 0 t.toNat ≤ q ∧ q < m_S l 0 t.toNat + l t := by
  induction n with
  | zero =>
    have e : m_S l 0 0 = 0 := rfl
    omega
  | succ n ih =>
    have e : m_S l 0 (n + 1) = m_S l 0 n + l (0 + (n : Int)) := rfl
    rw [Int.zero_add] at e
    by_cases c : q < m_S l 0 n
    · obtain ⟨t, t0, t1, t2, t3⟩ := ih c
      exact ⟨t, t0, by omega, t2, t3⟩
    · refine ⟨(n : Int), by omega, by omega, ?_, ?_⟩
      · have en : ((n : Int)).toNat = n := by omega
        rw [en]; omega
      · have en : ((n : Int)).toNat = n := by omega
        rw [en]; omega
/-- how far the reference is, laying l of p's cards: the kinds below k, i cards of k -/
def gl_c (c0 c l : Int → Int) (p k i : Int) : Prop :=
  (∀ j : Int, 0 ≤ j → ¬ (34 + 10 * p ≤ j ∧ j < 34 + 10 * p + k) → ¬ (94 + 7 * c0 9 ≤ j ∧ j < 101 + 7 * c0 9) → c j = c0 j) ∧ (∀ t : Int, 0 ≤ t → t < k → c (34 + 10 * p + t) = c0 (34 + 10 * p + t) - l t) ∧ c (94 + 7 * c0 9) = p ∧ c (94 + 7 * c0 9 + 1) = c0 5 ∧ (∀ t q : Int, 0 ≤ t → t < k → m_S l 0 t.toNat ≤ q → q < m_S l 0 t.toNat + l t → c (94 + 7 * c0 9 + 3 + q) = t) ∧ ∀ q : Int, m_S l 0 k.toNat ≤ q → q < m_S l 0 k.toNat + i → c (94 + 7 * c0 9 + 3 + q) = k
/-- what the reference has behind it -/
def gl_r (c0 c l : Int → Int) (p : Int) : Prop :=
  (∀ j : Int, 0 ≤ j → ¬ (34 + 10 * p ≤ j ∧ j < 44 + 10 * p) → ¬ (94 + 7 * c0 9 ≤ j ∧ j < 101 + 7 * c0 9) → j ≠ 9 → j ≠ 7 → c j = c0 j) ∧ (∀ t : Int, 0 ≤ t → t < 10 → c (34 + 10 * p + t) = c0 (34 + 10 * p + t) - l t) ∧ c (94 + 7 * c0 9) = p ∧ c (94 + 7 * c0 9 + 1) = c0 5 ∧ c (94 + 7 * c0 9 + 2) = m_S l 0 10 ∧ c 9 = c0 9 + 1 ∧ c 7 = 1 ∧ ∀ t q : Int, 0 ≤ t → t < 10 → m_S l 0 t.toNat ≤ q → q < m_S l 0 t.toNat + l t → c (94 + 7 * c0 9 + 3 + q) = t
theorem gl_c.card {c0 c l : Int → Int} {p k i n : Int} (h : gl_c c0 c l p k i) (hl : m_lo c0 l p) (hk : 0 ≤ k ∧ k < 10) (hi : 0 ≤ i ∧ i < l k) (hn : n = m_S l 0 k.toNat + i) : gl_c c0 (m_up c (94 + 7 * c0 9 + 3 + n) k) l p k (i + 1) := by
  obtain ⟨h1, h2, h3, h4, h5, h6⟩ := h
  have b := hl.c9
  have hp := hl.2.1
  have nn : ∀ t : Int, 0 ≤ t → t < 10 → 0 ≤ l t := fun t a b => (hl.2.2.1 t a b).1
  have s4 := hl.2.2.2
  have mk := gl_mono nn hk.1 (by omega : k ≤ k + 1) (by omega)
  have mk2 := gl_mono nn (t := k + 1) (k := 10) (by omega) (by omega) (by omega)
  have ms := gl_succ l hk.1
  have m0 := gl_mono nn (t := 0) (k := k) (by omega) (by omega) (by omega)
  have z0 : m_S l 0 (0 : Int).toNat = 0 := rfl
  have z10 : m_S l 0 (10 : Int).toNat = m_S l 0 10 := rfl
  refine ⟨fun j j0 j1 j2 => ?_, fun t t0 t1 => ?_, ?_, ?_, fun t q t0 t1 q0 q1 => ?_, fun q q0 q1 => ?_⟩
  · rw [m_up_ne (by omega)]; exact h1 j j0 j1 j2
  · rw [m_up_ne (by omega)]; exact h2 t t0 t1
  · rw [m_up_ne (by omega)]; exact h3
  · rw [m_up_ne (by omega)]; exact h4
  · have mt := gl_mono nn (t := t + 1) (k := k) (by omega) (by omega) (by omega)
    have ts := gl_succ l t0
    rw [m_up_ne (by omega)]; exact h5 t q t0 t1 q0 q1
  · by_cases e : q = n
    · rw [e, m_up_eq]
    · rw [m_up_ne (by omega)]; exact h6 q q0 (by omega)
theorem gl_c.hand {c0 c l : Int → Int} {p k v : Int} (h : gl_c c0 c l p k (l k)) (hl : m_lo c0 l p) (hk : 0 ≤ k ∧ k < 10) (hv : v = c (34 + 10 * p + k) - l k) : gl_c c0 (m_up c (34 + 10 * p + k) v) l p (k + 1) 0 := by
  obtain ⟨h1, h2, h3, h4, h5, h6⟩ := h
  have b := hl.c9
  have hp := hl.2.1
  have nn : ∀ t : Int, 0 ≤ t → t < 10 → 0 ≤ l t := fun t a b => (hl.2.2.1 t a b).1
  have z0 : m_S l 0 (0 : Int).toNat = 0 := rfl
  refine ⟨fun j j0 j1 j2 => ?_, fun t t0 t1 => ?_, ?_, ?_, fun t q t0 t1 q0 q1 => ?_, fun q q0 q1 => by omega⟩
  · rw [m_up_ne (by omega)]; exact h1 j j0 (by omega) j2
  · by_cases e : t = k
    · rw [e, m_up_eq, hv, h1 _ (by omega) (by omega) (by omega)]
    · rw [m_up_ne (by omega)]; exact h2 t t0 (by omega)
  · rw [m_up_ne (by omega)]; exact h3
  · rw [m_up_ne (by omega)]; exact h4
  · have mt := gl_mono nn (t := 0) (k := t) (by omega) t0 (by omega)
    rw [m_up_ne (by omega)]
    by_cases e : t = k
    · subst e
      exact h6 q q0 q1
    · exact h5 t q t0 (by omega) q0 q1
section GD
variable {X : XW} {lb : Nat → Nat} {g o a r2 : Nat} {σ τ σ0 τ0 : ST} {V : Nat → Int → Int} {c c0 l : Int → Int}
theorem gl_in (hne : r2 ≠ q_rf X a 20) {p k : Int} (hl : m_lo c0 l p) (hk : 0 ≤ k ∧ k < 10) {x9 v1 rr : Int32} (hx9 : x9.toInt = k) (hv1 : v1.toInt = p) (hrr : rr.toInt = 94 + 7 * c0 9) (Bf : Int32 → Int32 → ST → ST) (hof : ∀ j : Int, 0 ≤ j → j < 10 → (τ0.1 r2 j.toNat).toInt = l j) (n : Nat) : ∀ (x y : Int32) (τ : ST) (c : Int → Int), (2147483647 - y.toInt).toNat < n → tkl (fun b _ => b = q_rf X a 20) (fun _ _ => False) τ0 τ → m_c X τ a = c → gl_c c0 c l p k y.toInt → m_ld c0 c l p k y.toInt → 0 ≤ y.toInt → y.toInt ≤ l k → x.toInt = m_S l 0 k.toNat + y.toInt →
    ∃ (x' : Int32) (τ' : ST) (c' : Int → Int), F_X12_laysDown_L48_3 X r2 x9 rr a v1 Bf n x y τ = Bf x' (x9 + 1) τ' ∧ x'.toInt = m_S l 0 (k + 1).toNat ∧ tkl (fun b _ => b = q_rf X a 20) (fun _ _ => False) τ0 τ' ∧ m_c X τ' a = c' ∧ gl_c c0 c' l p (k + 1) 0 ∧ m_ld c0 c' l p (k + 1) 0 := by
  have b9 := hl.c9
  have hp := hl.2.1
  have nn : ∀ t : Int, 0 ≤ t → t < 10 → 0 ≤ l t := fun t a b => (hl.2.2.1 t a b).1
  have s4 := hl.2.2.2
  have mk2 := gl_mono nn (t := k + 1) (k := 10) (by omega) (by omega) (by omega)
  have ms := gl_succ l hk.1
  have m0 := gl_mono nn (t := 0) (k := k) (by omega) (by omega) (by omega)
  have z0 : m_S l 0 (0 : Int).toNat = 0 := rfl
  have z10 : m_S l 0 (10 : Int).toNat = m_S l 0 10 := rfl
  have e3 : (3 : Int32).toInt = 3 := rfl
  have e10 : (10 : Int32).toInt = 10 := rfl
  have e34 : (34 : Int32).toInt = 34 := rfl
  induction n with
  | zero => intro x y τ c hm; exact absurd hm (Nat.not_lt_zero _)
  | succ n ih =>
    intro x y τ c hm t hc G D y0 y1 hx
    have fo : (τ.1 r2 x9.toNatClampNeg).toInt = l k := by
      rw [t.1 r2 _ hne, ar_cl, hx9]
      exact hof k hk.1 hk.2
    rw [F_X12_laysDown_L48_3_s]
    unfold F_X12_laysDown_B48_3
    rw [q_letE (τ.1 r2 x9.toNatClampNeg), fo]
    by_cases q : y.toInt < l k
    · have ei : (rr + 3 + x).toInt = 94 + 7 * c0 9 + 3 + (m_S l 0 k.toNat + y.toInt) := by
        rw [ar_add, ar_add, hrr, e3, hx, ar_wr (n := 94 + 7 * c0 9 + 3) (by omega) (by omega), ar_wr (by omega) (by omega)]
      have c1 : m_c X (q_si τ (q_rf X a 20) (rr + 3 + x).toNatClampNeg x9) a = m_up c (94 + 7 * c0 9 + 3 + (m_S l 0 k.toNat + y.toInt)) k := by
        rw [m_c_up _ (by omega) ei, hc, hx9]
      rw [if_pos q, q_letE (rr + 3), q_letE (rr + 3 + x), q_letE (q_si τ (q_rf X a 20) (rr + 3 + x).toNatClampNeg x9), q_letE (x + 1), q_letE (y + 1)]
      have ey : (y + 1).toInt = y.toInt + 1 := y_inc (by omega)
      have ex : (x + 1).toInt = x.toInt + 1 := y_inc (by omega)
      refine ih (x + 1) (y + 1) _ _ (by omega) (t.si _ rfl) c1 ?_ ?_ (by omega) (by omega) (by rw [ex, ey, hx]; omega)
      · rw [ey]
        exact G.card hl hk ⟨y0, q⟩ rfl
      · rw [ey]
        exact D.card hl hk ⟨y0, q⟩ m_up_e rfl rfl
    · have ey : y.toInt = l k := by omega
      rw [ey] at G D
      have ei : ((34 : Int32) + 10 * v1 + x9).toInt = 34 + 10 * p + k := by
        rw [ar_add, ar_add, ar_mul, hx9, hv1, e10, e34, ar_wr (n := 10 * p) (by omega) (by omega), ar_wr (n := 34 + 10 * p) (by omega) (by omega), ar_wr (by omega) (by omega)]
      have fh : (τ.1 (q_rf X a 20) ((34 : Int32) + 10 * v1 + x9).toNatClampNeg).toInt = c (34 + 10 * p + k) := gm_cell hc ei
      have hb := hl.1.h80 (p := p) (k := k) hp.1 hp.2 hk.1 hk.2
      have hc0 := G.1 (34 + 10 * p + k) (by omega) (by omega) (by omega)
      have lk := hl.2.2.1 k hk.1 hk.2
      rw [if_neg q]
      unfold F_X12_laysDown_E79_4
      rw [q_letE ((10 : Int32) * v1), q_letE ((34 : Int32) + 10 * v1), q_letE ((34 : Int32) + 10 * v1 + x9), q_letE (τ.1 (q_rf X a 20) ((34 : Int32) + 10 * v1 + x9).toNatClampNeg), q_letE (τ.1 r2 x9.toNatClampNeg)]
      obtain ⟨u, hu⟩ : ∃ u, u = τ.1 (q_rf X a 20) ((34 : Int32) + 10 * v1 + x9).toNatClampNeg - τ.1 r2 x9.toNatClampNeg := ⟨_, rfl⟩
      have uv : u.toInt = c (34 + 10 * p + k) - l k := by
        rw [hu, ar_sub, fh, fo, ar_wr (by omega) (by omega)]
      rw [← hu, q_letE u, q_letE (q_si τ (q_rf X a 20) ((34 : Int32) + 10 * v1 + x9).toNatClampNeg u), q_letE (x9 + 1)]
      refine ⟨x, _, _, rfl, by omega, t.si _ rfl, m_c_up _ (by omega) ei, ?_, ?_⟩
      · rw [hc, uv]
        exact G.hand hl hk rfl
      · rw [hc, uv]
        exact D.hand hl hk rfl m_up_e rfl
theorem gl_out (hne : r2 ≠ q_rf X a 20) {p : Int} (hl : m_lo c0 l p) (h06 : c0 6 = p) {v1 rr : Int32} (hv1 : v1.toInt = p) (hrr : rr.toInt = 94 + 7 * c0 9) (hof : ∀ j : Int, 0 ≤ j → j < 10 → (τ0.1 r2 j.toNat).toInt = l j) (n : Nat) : ∀ (x y : Int32) (τ : ST) (c : Int → Int), (2147483647 - y.toInt).toNat < n → tkl (fun b _ => b = q_rf X a 20) (fun _ _ => False) τ0 τ → m_c X τ a = c → gl_c c0 c l p y.toInt 0 → m_ld c0 c l p y.toInt 0 → 0 ≤ y.toInt → y.toInt ≤ 10 → x.toInt = m_S l 0 y.toInt.toNat →
    ∃ (c' : Int → Int), m_c X (F_X12_laysDown_L38_1 X r2 rr a v1 n x y τ) a = c' ∧ tkl (fun b _ => b = q_rf X a 20) (fun _ _ => False) τ0 (F_X12_laysDown_L38_1 X r2 rr a v1 n x y τ) ∧ gl_r c0 c' l p ∧ m_G c' := by
  have b9 := hl.c9
  have hp := hl.2.1
  have nn : ∀ t : Int, 0 ≤ t → t < 10 → 0 ≤ l t := fun t a b => (hl.2.2.1 t a b).1
  have s4 := hl.2.2.2
  have e2 : (2 : Int32).toInt = 2 := rfl
  have e1 : (1 : Int32).toInt = 1 := rfl
  induction n with
  | zero => intro x y τ c hm; exact absurd hm (Nat.not_lt_zero _)
  | succ n ih =>
    intro x y τ c hm t hc G D y0 y1 hx
    rw [F_X12_laysDown_L38_1_s]
    unfold F_X12_laysDown_B38_1
    by_cases q : y.toInt < 10
    · rw [if_pos q]
      have lk := hl.2.2.1 y.toInt y0 q
      have z0 : (0 : Int32).toInt = 0 := rfl
      obtain ⟨x', τ', c', i1, i2, i3, i4, i5, i6⟩ := gl_in hne hl ⟨y0, q⟩ (x9 := y) rfl hv1 hrr (F_X12_laysDown_L38_1 X r2 rr a v1 n) hof ((2147483647 - (0 : Int32).toInt).toNat + 1) x 0 τ c (by decide) t hc (by rw [z0]; exact G) (by rw [z0]; exact D) (by decide) (by rw [z0]; exact lk.1) (by rw [z0, hx]; omega)
      rw [i1]
      have ey : (y + 1).toInt = y.toInt + 1 := y_inc (by omega)
      refine ih x' (y + 1) τ' c' (by omega) i3 i4 (by rw [ey]; exact i5) (by rw [ey]; exact i6) (by omega) (by omega) (by rw [ey]; exact i2)
    · rw [if_neg q]
      have ey : y.toInt = 10 := by omega
      rw [ey] at G D hx
      have hx10 : x.toInt = m_S l 0 10 := hx
      obtain ⟨h1, h2, h3, h4, h5, h6⟩ := G
      unfold F_X12_laysDown_E107_2
      have ei : (rr + 2).toInt = 94 + 7 * c0 9 + 2 := by rw [ar_add, hrr, e2, ar_wr (by omega) (by omega)]
      rw [q_letE (rr + 2), q_letE (q_si τ (q_rf X a 20) (rr + 2).toNatClampNeg x)]
      have c1 : m_c X (q_si τ (q_rf X a 20) (rr + 2).toNatClampNeg x) a = m_up c (94 + 7 * c0 9 + 2) (m_S l 0 10) := by
        rw [m_c_up _ (by omega) ei, hc, hx10]
      have t1 : tkl (fun b _ => b = q_rf X a 20) (fun _ _ => False) τ0 (q_si τ (q_rf X a 20) (rr + 2).toNatClampNeg x) := t.si _ rfl
      obtain ⟨τ1, g1⟩ : ∃ s, s = q_si τ (q_rf X a 20) (rr + 2).toNatClampNeg x := ⟨_, rfl⟩
      rw [← g1] at c1 t1 ⊢
      have f9 : (τ1.1 (q_rf X a 20) (9 : Int32).toNatClampNeg).toInt = c0 9 := by
        refine (gm_cell (A := 9) c1 rfl).trans ?_
        rw [m_up_ne (by omega)]
        exact h1 9 (by decide) (by omega) (by omega)
      rw [q_letE (τ1.1 (q_rf X a 20) (9 : Int32).toNatClampNeg)]
      obtain ⟨u, hu⟩ : ∃ u, u = τ1.1 (q_rf X a 20) (9 : Int32).toNatClampNeg + 1 := ⟨_, rfl⟩
      have uv : u.toInt = c0 9 + 1 := by rw [hu, ar_add, f9, e1, ar_wr (by omega) (by omega)]
      rw [← hu, q_letE u, q_letE (q_si τ1 (q_rf X a 20) (9 : Int32).toNatClampNeg u)]
      have c2 : m_c X (q_si τ1 (q_rf X a 20) (9 : Int32).toNatClampNeg u) a = m_up (m_up c (94 + 7 * c0 9 + 2) (m_S l 0 10)) 9 (c0 9 + 1) := by
        rw [m_c_up 9 (by decide) rfl, c1, uv]
      have t2 : tkl (fun b _ => b = q_rf X a 20) (fun _ _ => False) τ0 (q_si τ1 (q_rf X a 20) (9 : Int32).toNatClampNeg u) := t1.si _ rfl
      obtain ⟨τ2, g2⟩ : ∃ s, s = q_si τ1 (q_rf X a 20) (9 : Int32).toNatClampNeg u := ⟨_, rfl⟩
      rw [← g2] at c2 t2 ⊢
      rw [q_letE (q_si τ2 (q_rf X a 20) (7 : Int32).toNatClampNeg 1)]
      have dn := D.done hl h06 (T := m_S l 0 10) rfl (c1 := m_up c (94 + 7 * c0 9 + 2) (m_S l 0 10)) m_up_e (c2 := m_up (m_up c (94 + 7 * c0 9 + 2) (m_S l 0 10)) 9 (c0 9 + 1)) m_up_e rfl (c' := m_up (m_up (m_up c (94 + 7 * c0 9 + 2) (m_S l 0 10)) 9 (c0 9 + 1)) 7 1) m_up_e rfl
      refine ⟨_, m_c_up 7 (by decide) rfl, t2.si _ rfl, ?_, by rw [c2, e1]; exact dn.1⟩
      rw [c2, e1]
      have d : ∀ j : Int, j ≠ 7 → j ≠ 9 → j ≠ 94 + 7 * c0 9 + 2 → m_up (m_up (m_up c (94 + 7 * c0 9 + 2) (m_S l 0 10)) 9 (c0 9 + 1)) 7 1 j = c j := fun j a1 a2 a3 => by
        rw [m_up_ne a1, m_up_ne a2, m_up_ne a3]
      refine ⟨fun j j0 j1 j2 j3 j4 => ?_, fun t t0 t1 => ?_, ?_, ?_, ?_, ?_, ?_, fun t q t0 t1 q0 q1 => ?_⟩
      · rw [d j j4 j3 (by omega)]; exact h1 j j0 (by omega) j2
      · rw [d _ (by omega) (by omega) (by omega)]; exact h2 t t0 t1
      · rw [d _ (by omega) (by omega) (by omega)]; exact h3
      · rw [d _ (by omega) (by omega) (by omega)]; exact h4
      · rw [m_up_ne (by omega), m_up_ne (by omega), m_up_eq]
      · rw [m_up_ne (by omega), m_up_eq]
      · rw [m_up_eq]
      · have mt := gl_mono nn (t := 0) (k := t) (by omega) t0 (by omega)
        have z0 : m_S l 0 (0 : Int).toNat = 0 := rfl
        rw [d _ (by omega) (by omega) (by omega)]
        exact h5 t q t0 t1 q0 q1
/-- the reference lays cards down -/
theorem gm_laysDown (hT : q_T X) (ha : q_kd X a = 12) (hc : m_c X τ a = c) {p : Int} (hl : m_lo c l p) (h6 : c 6 = p) {v1 : Int32} (hv1 : v1.toInt = p) (hof : ∀ j : Int, 0 ≤ j → j < 10 → (τ.1 (q_rf X a 28) j.toNat).toInt = l j) :
    ∃ (c' : Int → Int), m_c X (F_X12_laysDown X τ a v1 (q_rf X a 28)) a = c' ∧ tkl (fun b _ => b = q_rf X a 20) (fun _ _ => False) τ (F_X12_laysDown X τ a v1 (q_rf X a 28)) ∧ gl_r c c' l p ∧ m_G c' := by
  have b9 := hl.c9
  have hp := hl.2.1
  have k28 : q_kd X (q_rf X a 28) = 39 := (hT.1 a 28 (by rw [ha]; decide)).trans (by rw [ha]; rfl)
  have hne : q_rf X a 28 ≠ q_rf X a 20 := m_ne k28 (tb_k hT ha).1 (by decide)
  have e7 : (7 : Int32).toInt = 7 := rfl
  have e94 : (94 : Int32).toInt = 94 := rfl
  have e1 : (1 : Int32).toInt = 1 := rfl
  have f9 : (τ.1 (q_rf X a 20) (9 : Int32).toNatClampNeg).toInt = c 9 := gm_cell hc rfl
  have hrr : (F_X12_laid X τ (τ.1 (q_rf X a 20) (9 : Int32).toNatClampNeg)).toInt = 94 + 7 * c 9 := by
    unfold F_X12_laid
    rw [q_letE, q_letE, ar_add, ar_mul, e94, e7, f9, ar_wr (n := 7 * c 9) (by omega) (by omega), ar_wr (by omega) (by omega)]
  unfold F_X12_laysDown
  rw [q_letE (τ.1 (q_rf X a 20) (9 : Int32).toNatClampNeg), q_letE (F_X12_laid X τ (τ.1 (q_rf X a 20) (9 : Int32).toNatClampNeg))]
  obtain ⟨rr, er⟩ : ∃ r, r = F_X12_laid X τ (τ.1 (q_rf X a 20) (9 : Int32).toNatClampNeg) := ⟨_, rfl⟩
  rw [← er] at hrr ⊢
  rw [q_letE (q_si τ (q_rf X a 20) rr.toNatClampNeg v1)]
  have c1 : m_c X (q_si τ (q_rf X a 20) rr.toNatClampNeg v1) a = m_up c (94 + 7 * c 9) p := by
    rw [m_c_up _ (by omega) hrr, hc, hv1]
  have t1 : tkl (fun b _ => b = q_rf X a 20) (fun _ _ => False) τ (q_si τ (q_rf X a 20) rr.toNatClampNeg v1) := tkl.rf.si _ rfl
  obtain ⟨τ1, g1⟩ : ∃ s, s = q_si τ (q_rf X a 20) rr.toNatClampNeg v1 := ⟨_, rfl⟩
  rw [← g1] at c1 t1 ⊢
  have f5 : (τ1.1 (q_rf X a 20) (5 : Int32).toNatClampNeg).toInt = c 5 := by
    refine (gm_cell (A := 5) c1 rfl).trans ?_
    rw [m_up_ne (by omega)]
  have ei : (rr + 1).toInt = 94 + 7 * c 9 + 1 := by rw [ar_add, hrr, e1, ar_wr (by omega) (by omega)]
  rw [q_letE (rr + 1), q_letE (τ1.1 (q_rf X a 20) (5 : Int32).toNatClampNeg)]
  obtain ⟨u, hu⟩ : ∃ u, u = τ1.1 (q_rf X a 20) (5 : Int32).toNatClampNeg := ⟨_, rfl⟩
  rw [← hu] at f5 ⊢
  rw [q_letE (q_si τ1 (q_rf X a 20) (rr + 1).toNatClampNeg u)]
  have c2 : m_c X (q_si τ1 (q_rf X a 20) (rr + 1).toNatClampNeg u) a = m_up (m_up c (94 + 7 * c 9) p) (94 + 7 * c 9 + 1) (c 5) := by
    rw [m_c_up _ (by omega) ei, c1, f5]
  have t2 : tkl (fun b _ => b = q_rf X a 20) (fun _ _ => False) τ (q_si τ1 (q_rf X a 20) (rr + 1).toNatClampNeg u) := t1.si _ rfl
  obtain ⟨τ2, g2⟩ : ∃ s, s = q_si τ1 (q_rf X a 20) (rr + 1).toNatClampNeg u := ⟨_, rfl⟩
  rw [← g2] at c2 t2 ⊢
  have z0 : (0 : Int32).toInt = 0 := rfl
  refine gl_out hne hl h6 hv1 hrr hof _ 0 0 τ2 _ (by decide) t2 c2 ?_ (by rw [z0]; exact m_ld.start hl (c1 := m_up c (94 + 7 * c 9) p) m_up_e rfl m_up_e) (by decide) (by decide) (by rw [z0]; rfl)
  rw [z0]
  have m0 : m_S l 0 (0 : Int).toNat = 0 := rfl
  refine ⟨fun j j0 j1 j2 => ?_, fun t t0 t1 => by omega, ?_, ?_, fun t q t0 t1 => by omega, fun q q0 q1 => by omega⟩
  · rw [m_up_ne (by omega), m_up_ne (by omega)]
  · rw [m_up_ne (by omega), m_up_eq]
  · rw [m_up_eq]
end GD

/-! FROM 49e.laywant.lean.txt -/
/-! CARDS LAID DOWN: the class -/
/-- cards of one kind added to the topmost laying -/
def gpa (V1 V : Nat → Int → Int) (K k m C i : Int) : Prop :=
  (∀ (id : Nat) (j : Int), ¬ (id = 17 ∧ 4 * K + m ≤ j ∧ j < 4 * K + m + i) → ¬ (id = 16 ∧ j = K) → ¬ (id = 2 ∧ j = 1) → V id j = V1 id j) ∧ V 16 K = m + i ∧ V 2 1 = C + i ∧ ∀ q : Int, m ≤ q → q < m + i → V 17 (4 * K + q) = k
/-- how far the class is, laying l of p's cards: the kinds below k -/
def gl_v (V0 V : Nat → Int → Int) (l : Int → Int) (p K k : Int) : Prop :=
  (∀ (id : Nat) (j : Int), id ≠ 2 → id ≠ 7 → id ≠ 8 → id ≠ 9 → id ≠ 14 → id ≠ 15 → id ≠ 16 → id ≠ 17 → V id j = V0 id j) ∧
  (V 2 0 = K + 1 ∧ V 2 1 = V0 2 1 + m_S l 0 k.toNat) ∧
  (∀ j : Int, ¬ (10 * p ≤ j ∧ j < 10 * p + k) → V 7 j = V0 7 j ∧ V 8 j = V0 8 j) ∧
  (∀ t : Int, 0 ≤ t → t < k → V 7 (10 * p + t) = V0 7 (10 * p + t) - l t ∧ V 8 (10 * p + t) = V0 8 (10 * p + t) + l t) ∧
  (∀ j : Int, j ≠ p → V 9 j = V0 9 j) ∧ V 9 p = V0 9 p - m_S l 0 k.toNat ∧
  (∀ j : Int, j ≠ K → V 14 j = V0 14 j ∧ V 15 j = V0 15 j ∧ V 16 j = V0 16 j) ∧ (V 14 K = p ∧ V 15 K = V0 0 4 ∧ V 16 K = m_S l 0 k.toNat) ∧
  (∀ j : Int, ¬ (4 * K ≤ j ∧ j < 4 * K + 4) → V 17 j = V0 17 j) ∧
  ∀ t q : Int, 0 ≤ t → t < k → m_S l 0 t.toNat ≤ q → q < m_S l 0 t.toNat + l t → V 17 (4 * K + q) = t
section GE
variable {X : XW} {lb : Nat → Nat} {g o a : Nat} {σ τ σ0 τ0 : ST} {V V0 V1 : Nat → Int → Int} {c l : Int → Int}
theorem gp_addL (Y : y_S X lb) (G : y_G X lb g o) {K k m C n : Int} (hK : 0 ≤ K ∧ K < 80) (hm : 0 ≤ m ∧ m + n ≤ 4) (hC : 0 ≤ C ∧ C ≤ 1000) {z2 v1 v2 : Int32} (hz : z2.toInt = K) (hv1 : v1.toInt = k) (hv2 : v2.toInt = n) (fu : Nat) : ∀ (x : Int32) (τ : ST) (V : Nat → Int → Int), (2147483647 - x.toInt).toNat < fu → y_W X lb g o σ0 τ V → gpa V1 V K k m C x.toInt → 0 ≤ x.toInt → x.toInt ≤ n →
    ∃ V' : Nat → Int → Int, y_W X lb g o σ0 (F_X2_add_L10_1 X v2 z2 (q_rf X g 2) v1 fu x τ) V' ∧ gpa V1 V' K k m C n := by
  have gn16 : ((y_gn 16 : Nat) : Int) = 80 := rfl
  have gn17 : ((y_gn 17 : Nat) : Int) = 320 := rfl
  have one : (1 : Int32).toInt = 1 := rfl
  have four : (4 : Int32).toInt = 4 := rfl
  induction fu with
  | zero => intro x τ V h; exact absurd h (Nat.not_lt_zero _)
  | succ fu ih =>
    intro x τ V hf w P x0 x1
    rw [F_X2_add_L10_1_s]
    unfold F_X2_add_B10_1
    rw [hv2]
    by_cases q : x.toInt < n
    · obtain ⟨P1, P2, P3, P4⟩ := P
      have g8 : (F_X5_get X τ (q_rf X (q_rf X g 2) 4) z2).toInt = m + x.toInt := (y_getI Y G w (id := 16) ⟨by decide, by decide⟩ rfl hz hK.1 (by rw [gn16]; exact hK.2)).trans P2
      rw [if_pos q, q_letE (z2 * 4), q_letE (F_X5_get X τ (q_rf X (q_rf X g 2) 4) z2)]
      obtain ⟨r, hr⟩ : ∃ r, r = F_X5_get X τ (q_rf X (q_rf X g 2) 4) z2 := ⟨_, rfl⟩
      rw [← hr] at g8 ⊢
      have ei : (z2 * 4 + r).toInt = 4 * K + (m + x.toInt) := by
        rw [ar_add, ar_mul, hz, four, g8, ar_wr (n := K * 4) (by omega) (by omega), ar_wr (by omega) (by omega)]
        omega
      have w1 := w.set Y G (id := 17) (r := q_rf X (q_rf X g 2) 5) ⟨by decide, by decide⟩ rfl (z2 * 4 + r) v1 (by omega) (by rw [gn17]; omega)
      rw [ei, hv1] at w1
      rw [q_letE (z2 * 4 + r), q_letE (F_X5_set X τ (q_rf X (q_rf X g 2) 5) (z2 * 4 + r) v1)]
      obtain ⟨τ1, e1⟩ : ∃ s, s = F_X5_set X τ (q_rf X (q_rf X g 2) 5) (z2 * 4 + r) v1 := ⟨_, rfl⟩
      rw [← e1] at w1 ⊢
      have w2 := w1.add Y G (id := 16) (r := q_rf X (q_rf X g 2) 4) ⟨by decide, by decide⟩ rfl z2 1 (by omega) (by rw [gn16]; omega)
      rw [hz, y_up_ne (Or.inl (by decide)), P2, one, ar_wr (by omega) (by omega)] at w2
      rw [q_letE (F_X5_add X τ1 (q_rf X (q_rf X g 2) 4) z2 1)]
      obtain ⟨τ2, e2⟩ : ∃ s, s = F_X5_add X τ1 (q_rf X (q_rf X g 2) 4) z2 1 := ⟨_, rfl⟩
      rw [← e2] at w2 ⊢
      have f1 : (τ2.1 (q_rf X g 2) 1).toInt = C + x.toInt := by
        refine (w2.rd (id := 2) (by decide) 1 rfl).trans ?_
        rw [y_up_ne (Or.inl (by decide)), y_up_ne (Or.inl (by decide))]
        exact P3
      rw [q_letE (τ2.1 (q_rf X g 2) 1)]
      obtain ⟨u, hu⟩ : ∃ u, u = τ2.1 (q_rf X g 2) 1 + 1 := ⟨_, rfl⟩
      have uv : u.toInt = C + x.toInt + 1 := by rw [hu, ar_add, f1, one, ar_wr (by omega) (by omega)]
      rw [← hu, q_letE u, q_letE (q_si τ2 (q_rf X g 2) 1 u), q_letE (x + 1)]
      have w3 : y_W X lb g o σ0 (q_si τ2 (q_rf X g 2) 1 u) (y_up (y_up (y_up V 17 (4 * K + (m + x.toInt)) k) 16 K (m + x.toInt + 1)) 2 1 u.toInt) := w2.si Y G (id := 2) (by decide) 1 u
      rw [uv] at w3
      have ex : (x + 1).toInt = x.toInt + 1 := y_inc (by omega)
      refine ih (x + 1) _ _ (by omega) w3 ?_ (by omega) (by omega)
      rw [ex]
      refine ⟨fun id j a1 a2 a3 => ?_, ?_, ?_, fun q q0 q1 => ?_⟩
      · rw [y_up_ne (by omega), y_up_ne (by omega), y_up_ne (by omega)]
        exact P1 id j (by omega) a2 a3
      · rw [y_up_ne (Or.inl (by decide)), y_up_eq]; omega
      · rw [y_up_eq]; omega
      · rw [y_up_ne (Or.inl (by decide)), y_up_ne (Or.inl (by decide))]
        by_cases e : q = m + x.toInt
        · rw [e, y_up_eq]
        · rw [y_up_ne (by omega)]; exact P4 q q0 (by omega)
    · have ex : x.toInt = n := by omega
      rw [if_neg q]
      rw [ex] at P
      exact ⟨V, w, P⟩
/-- cards from the hand to the heap -/
theorem gm_move (Y : y_S X lb) (G : y_G X lb g o) (w : y_W X lb g o σ0 τ V) {v1 v2 v3 : Int32} {p k n : Int} (hv1 : v1.toInt = p) (hv2 : v2.toInt = k) (hv3 : v3.toInt = n) (hp : 0 ≤ p ∧ p < 6) (hk : 0 ≤ k ∧ k < 10) (hn : 0 ≤ n ∧ n ≤ 1000) (b7 : -1000 ≤ V 7 (10 * p + k) ∧ V 7 (10 * p + k) ≤ 1000) (b8 : -1000 ≤ V 8 (10 * p + k) ∧ V 8 (10 * p + k) ≤ 1000) (b9 : -1000 ≤ V 9 p ∧ V 9 p ≤ 1000) :
    y_W X lb g o σ0 (F_X1_moveToHeap X τ (q_rf X g 1) v1 v2 v3) (y_up (y_up (y_up V 7 (10 * p + k) (V 7 (10 * p + k) - n)) 9 p (V 9 p - n)) 8 (10 * p + k) (V 8 (10 * p + k) + n)) := by
  have gn7 : ((y_gn 7 : Nat) : Int) = 60 := rfl
  have gn8 : ((y_gn 8 : Nat) : Int) = 60 := rfl
  have gn9 : ((y_gn 9 : Nat) : Int) = 6 := rfl
  have e10 : (10 : Int32).toInt = 10 := rfl
  have ei : (v1 * 10 + v2).toInt = 10 * p + k := by
    rw [ar_add, ar_mul, hv1, hv2, e10, ar_wr (n := p * 10) (by omega) (by omega), ar_wr (by omega) (by omega)]
    omega
  unfold F_X1_moveToHeap
  rw [q_letE (-v3)]
  obtain ⟨u, hu⟩ : ∃ u, u = -v3 := ⟨_, rfl⟩
  have uv : u.toInt = -n := by rw [hu, ar_neg, hv3, ar_wr (by omega) (by omega)]
  rw [← hu]
  have w1 := w.add Y G (id := 7) (r := q_rf X (q_rf X g 1) 0) ⟨by decide, by decide⟩ rfl (v1 * 10 + v2) u (by omega) (by rw [gn7]; omega)
  rw [ei, uv, ar_wr (by omega) (by omega)] at w1
  have d1 : F_X1_deal X τ (q_rf X g 1) v1 v2 u = F_X5_add X (F_X5_add X τ (q_rf X (q_rf X g 1) 0) (v1 * 10 + v2) u) (q_rf X (q_rf X g 1) 2) v1 u := by
    unfold F_X1_deal
    rw [q_letE, q_letE, q_letE, q_letE]
  rw [d1]
  obtain ⟨τ1, e1⟩ : ∃ s, s = F_X5_add X τ (q_rf X (q_rf X g 1) 0) (v1 * 10 + v2) u := ⟨_, rfl⟩
  rw [← e1] at w1 ⊢
  have w2 := w1.add Y G (id := 9) (r := q_rf X (q_rf X g 1) 2) ⟨by decide, by decide⟩ rfl v1 u (by omega) (by rw [gn9]; omega)
  rw [hv1, uv, y_up_ne (Or.inl (by decide)), ar_wr (by omega) (by omega)] at w2
  rw [q_letE (F_X5_add X τ1 (q_rf X (q_rf X g 1) 2) v1 u), q_letE (v1 * 10), q_letE (v1 * 10 + v2)]
  obtain ⟨τ2, e2⟩ : ∃ s, s = F_X5_add X τ1 (q_rf X (q_rf X g 1) 2) v1 u := ⟨_, rfl⟩
  rw [← e2] at w2 ⊢
  have w3 := w2.add Y G (id := 8) (r := q_rf X (q_rf X g 1) 1) ⟨by decide, by decide⟩ rfl (v1 * 10 + v2) v3 (by omega) (by rw [gn8]; omega)
  rw [ei, hv3, y_up_ne (Or.inl (by decide)), y_up_ne (Or.inl (by decide)), ar_wr (by omega) (by omega)] at w3
  rw [q_letE (F_X5_add X τ2 (q_rf X (q_rf X g 1) 1) (v1 * 10 + v2) v3)]
  exact w3
/-- a laying begun -/
theorem gm_begin (Y : y_S X lb) (G : y_G X lb g o) (w : y_W X lb g o σ0 τ V) {v1 v2 : Int32} {p k K : Int} (hv1 : v1.toInt = p) (hv2 : v2.toInt = k) (hK : V 2 0 = K) (bK : 0 ≤ K ∧ K < 80) :
    y_W X lb g o σ0 (F_X2_begin X τ (q_rf X g 2) v1 v2) (y_up (y_up (y_up (y_up V 14 K p) 15 K k) 16 K 0) 2 0 (K + 1)) := by
  have gn14 : ((y_gn 14 : Nat) : Int) = 80 := rfl
  have gn15 : ((y_gn 15 : Nat) : Int) = 80 := rfl
  have gn16 : ((y_gn 16 : Nat) : Int) = 80 := rfl
  have one : (1 : Int32).toInt = 1 := rfl
  have z0 : (0 : Int32).toInt = 0 := rfl
  unfold F_X2_begin
  have f1 : (τ.1 (q_rf X g 2) 0).toInt = K := (w.rd (id := 2) (by decide) 0 rfl).trans hK
  rw [q_letE (τ.1 (q_rf X g 2) 0)]
  obtain ⟨u, hu⟩ : ∃ u, u = τ.1 (q_rf X g 2) 0 := ⟨_, rfl⟩
  rw [← hu] at f1 ⊢
  have w1 := w.set Y G (id := 14) (r := q_rf X (q_rf X g 2) 2) ⟨by decide, by decide⟩ rfl u v1 (by omega) (by rw [gn14]; omega)
  rw [f1, hv1] at w1
  rw [q_letE (F_X5_set X τ (q_rf X (q_rf X g 2) 2) u v1)]
  obtain ⟨τ1, e1⟩ : ∃ s, s = F_X5_set X τ (q_rf X (q_rf X g 2) 2) u v1 := ⟨_, rfl⟩
  rw [← e1] at w1 ⊢
  have f2 : (τ1.1 (q_rf X g 2) 0).toInt = K := (w1.rd (id := 2) (by decide) 0 rfl).trans ((y_up_ne (Or.inl (by decide))).trans hK)
  rw [q_letE (τ1.1 (q_rf X g 2) 0)]
  obtain ⟨u2, hu2⟩ : ∃ u, u = τ1.1 (q_rf X g 2) 0 := ⟨_, rfl⟩
  rw [← hu2] at f2 ⊢
  have w2 := w1.set Y G (id := 15) (r := q_rf X (q_rf X g 2) 3) ⟨by decide, by decide⟩ rfl u2 v2 (by omega) (by rw [gn15]; omega)
  rw [f2, hv2] at w2
  rw [q_letE (F_X5_set X τ1 (q_rf X (q_rf X g 2) 3) u2 v2)]
  obtain ⟨τ2, e2⟩ : ∃ s, s = F_X5_set X τ1 (q_rf X (q_rf X g 2) 3) u2 v2 := ⟨_, rfl⟩
  rw [← e2] at w2 ⊢
  have f3 : (τ2.1 (q_rf X g 2) 0).toInt = K := (w2.rd (id := 2) (by decide) 0 rfl).trans ((y_up_ne (Or.inl (by decide))).trans ((y_up_ne (Or.inl (by decide))).trans hK))
  rw [q_letE (τ2.1 (q_rf X g 2) 0)]
  obtain ⟨u3, hu3⟩ : ∃ u, u = τ2.1 (q_rf X g 2) 0 := ⟨_, rfl⟩
  rw [← hu3] at f3 ⊢
  have w3 := w2.set Y G (id := 16) (r := q_rf X (q_rf X g 2) 4) ⟨by decide, by decide⟩ rfl u3 0 (by omega) (by rw [gn16]; omega)
  rw [f3, z0] at w3
  rw [q_letE (F_X5_set X τ2 (q_rf X (q_rf X g 2) 4) u3 0)]
  obtain ⟨τ3, e3⟩ : ∃ s, s = F_X5_set X τ2 (q_rf X (q_rf X g 2) 4) u3 0 := ⟨_, rfl⟩
  rw [← e3] at w3 ⊢
  have f4 : (τ3.1 (q_rf X g 2) 0).toInt = K := (w3.rd (id := 2) (by decide) 0 rfl).trans ((y_up_ne (Or.inl (by decide))).trans ((y_up_ne (Or.inl (by decide))).trans ((y_up_ne (Or.inl (by decide))).trans hK)))
  rw [q_letE (τ3.1 (q_rf X g 2) 0)]
  obtain ⟨u4, hu4⟩ : ∃ u, u = τ3.1 (q_rf X g 2) 0 + 1 := ⟨_, rfl⟩
  have uv : u4.toInt = K + 1 := by rw [hu4, ar_add, f4, one, ar_wr (by omega) (by omega)]
  rw [← hu4, q_letE u4, q_letE (q_si τ3 (q_rf X g 2) 0 u4)]
  have w4 : y_W X lb g o σ0 (q_si τ3 (q_rf X g 2) 0 u4) (y_up (y_up (y_up (y_up V 14 K p) 15 K k) 16 K 0) 2 0 u4.toInt) := w3.si Y G (id := 2) (by decide) 0 u4
  rw [uv] at w4
  exact w4
/-- what the class wants of the game that lays -/
def gl_p (V0 : Nat → Int → Int) (l : Int → Int) (p K N : Int) : Prop :=
  V0 0 5 = p ∧ V0 1 0 = N ∧ (0 ≤ p ∧ p < 6) ∧ (0 ≤ K ∧ K < 80) ∧ (0 ≤ N ∧ N ≤ 10) ∧ (∀ t : Int, 0 ≤ t → t < 10 → V0 23 t = l t ∧ 0 ≤ l t) ∧ m_S l 0 10 ≤ 4 ∧ (0 ≤ V0 2 1 ∧ V0 2 1 ≤ 90) ∧ (∀ t : Int, 0 ≤ t → t < 10 → (0 ≤ V0 7 (10 * p + t) ∧ V0 7 (10 * p + t) ≤ 90) ∧ (0 ≤ V0 8 (10 * p + t) ∧ V0 8 (10 * p + t) ≤ 90)) ∧ (0 ≤ V0 9 p ∧ V0 9 p ≤ 90)
theorem gl_vL (Y : y_S X lb) (G : y_G X lb g o) {p K N : Int} (H : gl_p V0 l p K N) (fu : Nat) : ∀ (x : Int32) (τ : ST) (V : Nat → Int → Int), (2147483647 - x.toInt).toNat < fu → y_W X lb g o σ0 τ V → gl_v V0 V l p K x.toInt → 0 ≤ x.toInt → x.toInt ≤ N →
    ∃ V' : Nat → Int → Int, y_W X lb g o σ0 (F_X0_layWanted_L17_1 X g fu x τ) (y_up V' 0 7 1) ∧ gl_v V0 V' l p K N := by
  obtain ⟨H1, H2, Hp, HK, HN, Hw, H4, Hc, Hr, H9⟩ := H
  have gn23 : ((y_gn 23 : Nat) : Int) = 10 := rfl
  have one : (1 : Int32).toInt = 1 := rfl
  have nn : ∀ t : Int, 0 ≤ t → t < 10 → 0 ≤ l t := fun t a b => (Hw t a b).2
  have z10 : m_S l 0 (10 : Int).toNat = m_S l 0 10 := rfl
  have m00 : m_S l 0 (0 : Int).toNat = 0 := rfl
  induction fu with
  | zero => intro x τ V h; exact absurd h (Nat.not_lt_zero _)
  | succ fu ih =>
    intro x τ V hf w P x0 x1
    obtain ⟨P1, ⟨P2, P2b⟩, P3, P4, P5, P6, P7, ⟨P8, P8b, P8c⟩, P9, P10⟩ := P
    have v1 : ∀ j, V 1 j = V0 1 j := fun j => P1 1 j (by decide) (by decide) (by decide) (by decide) (by decide) (by decide) (by decide) (by decide)
    have v0 : ∀ j, V 0 j = V0 0 j := fun j => P1 0 j (by decide) (by decide) (by decide) (by decide) (by decide) (by decide) (by decide) (by decide)
    have v23 : ∀ j, V 23 j = V0 23 j := fun j => P1 23 j (by decide) (by decide) (by decide) (by decide) (by decide) (by decide) (by decide) (by decide)
    have f8 : (τ.1 (q_rf X g 0) 0).toInt = N := (w.rd (id := 1) (by decide) 0 rfl).trans ((v1 _).trans H2)
    rw [F_X0_layWanted_L17_1_s]
    unfold F_X0_layWanted_B17_1
    rw [q_letE (τ.1 (q_rf X g 0) 0), f8]
    by_cases q : x.toInt < N
    · have f11 : (τ.1 g 5).toInt = p := (w.rd (id := 0) (by decide) 5 rfl).trans ((v0 _).trans H1)
      have wx := Hw x.toInt x0 (by omega)
      have f12 : (F_X5_get X τ (q_rf X g 8) x).toInt = l x.toInt := (y_getI Y G w (id := 23) ⟨by decide, by decide⟩ rfl (x := x) rfl x0 (by rw [gn23]; omega)).trans ((v23 _).trans wx.1)
      have mx := gl_mono nn (t := 0) (k := x.toInt) (by omega) x0 (by omega)
      have mx1 := gl_mono nn (t := x.toInt + 1) (k := 10) (by omega) (by omega) (by omega)
      have ms := gl_succ l x0
      have rx := Hr x.toInt x0 (by omega)
      have o7 := P3 (10 * p + x.toInt) (by omega)
      rw [if_pos q, q_letE (τ.1 g 5), q_letE (F_X5_get X τ (q_rf X g 8) x)]
      obtain ⟨n, hn⟩ : ∃ n, n = F_X5_get X τ (q_rf X g 8) x := ⟨_, rfl⟩
      rw [← hn] at f12 ⊢
      obtain ⟨pl, hpl⟩ : ∃ n, n = τ.1 g 5 := ⟨_, rfl⟩
      rw [← hpl] at f11 ⊢
      have w1 := gm_move Y G w (v1 := pl) (v2 := x) (v3 := n) f11 rfl f12 Hp ⟨x0, by omega⟩ ⟨wx.2, by omega⟩ (by rw [o7.1]; omega) (by rw [o7.2]; omega) (by rw [P6]; omega)
      rw [q_letE (F_X1_moveToHeap X τ (q_rf X g 1) pl x n)]
      obtain ⟨τ1, e1⟩ : ∃ s, s = F_X1_moveToHeap X τ (q_rf X g 1) pl x n := ⟨_, rfl⟩
      rw [← e1] at w1 ⊢
      obtain ⟨V1, hV1⟩ : ∃ v, v = y_up (y_up (y_up V 7 (10 * p + x.toInt) (V 7 (10 * p + x.toInt) - l x.toInt)) 9 p (V 9 p - l x.toInt)) 8 (10 * p + x.toInt) (V 8 (10 * p + x.toInt) + l x.toInt) := ⟨_, rfl⟩
      rw [← hV1] at w1
      have r1 : ∀ (id : Nat) (j : Int), id ≠ 7 → id ≠ 8 → id ≠ 9 → V1 id j = V id j := fun id j a7 a8 a9 => by
        rw [hV1, y_up_ne (Or.inl a8), y_up_ne (Or.inl a9), y_up_ne (Or.inl a7)]
      have f16 : (F_X5_get X τ1 (q_rf X g 8) x).toInt = l x.toInt := (y_getI Y G w1 (id := 23) ⟨by decide, by decide⟩ rfl (x := x) rfl x0 (by rw [gn23]; omega)).trans ((r1 23 _ (by decide) (by decide) (by decide)).trans ((v23 _).trans wx.1))
      rw [q_letE (F_X5_get X τ1 (q_rf X g 8) x)]
      obtain ⟨n2, hn2⟩ : ∃ n, n = F_X5_get X τ1 (q_rf X g 8) x := ⟨_, rfl⟩
      rw [← hn2] at f16 ⊢
      -- the pile
      have f0 : (τ1.1 (q_rf X g 2) 0).toInt = K + 1 := (w1.rd (id := 2) (by decide) 0 rfl).trans ((r1 2 _ (by decide) (by decide) (by decide)).trans P2)
      have z0 : (0 : Int32).toInt = 0 := rfl
      obtain ⟨V2, w2, A1, A2, A3, A4⟩ := gp_addL (V1 := V1) Y G (K := K) (k := x.toInt) (m := m_S l 0 x.toInt.toNat) (C := V0 2 1 + m_S l 0 x.toInt.toNat) (n := l x.toInt) HK ⟨by omega, by omega⟩ ⟨by omega, by omega⟩ (z2 := τ1.1 (q_rf X g 2) 0 - 1) (v1 := x) (v2 := n2) (by rw [ar_sub, f0, one, ar_wr (by omega) (by omega)]; omega) rfl f16 ((2147483647 - (0 : Int32).toInt).toNat + 1) 0 τ1 V1 (by decide) w1 (by
        rw [z0]
        refine ⟨fun _ _ _ _ _ => rfl, ?_, ?_, fun q q0 q1 => by omega⟩
        · rw [r1 16 _ (by decide) (by decide) (by decide), P8c]; omega
        · rw [r1 2 _ (by decide) (by decide) (by decide), P2b]; omega) (by decide) (by rw [z0]; exact wx.2)
      have d2 : F_X2_add X τ1 (q_rf X g 2) x n2 = F_X2_add_L10_1 X n2 (τ1.1 (q_rf X g 2) 0 - 1) (q_rf X g 2) x ((2147483647 - (0 : Int32).toInt).toNat + 1) 0 τ1 := by
        unfold F_X2_add
        rw [q_letE, q_letE]
      rw [← d2] at w2
      rw [q_letE (F_X2_add X τ1 (q_rf X g 2) x n2), q_letE (x + 1)]
      have ex : (x + 1).toInt = x.toInt + 1 := y_inc (by omega)
      refine ih (x + 1) _ V2 (by omega) w2 ?_ (by omega) (by omega)
      rw [ex]
      have r2 : ∀ (id : Nat) (j : Int), id ≠ 17 → id ≠ 16 → id ≠ 2 → V2 id j = V1 id j := fun id j a1 a2 a3 => A1 id j (fun z => a1 z.1) (fun z => a2 z.1) (fun z => a3 z.1)
      refine ⟨fun id j b2 b7 b8 b9 b14 b15 b16 b17 => ?_, ⟨?_, ?_⟩, fun j hj => ⟨?_, ?_⟩, fun t t0 t1 => ⟨?_, ?_⟩, fun j hj => ?_, ?_, fun j hj => ⟨?_, ?_, ?_⟩, ⟨?_, ?_, ?_⟩, fun j hj => ?_, fun t q t0 t1 q0 q1 => ?_⟩
      · rw [r2 id j b17 b16 b2, r1 id j b7 b8 b9]; exact P1 id j b2 b7 b8 b9 b14 b15 b16 b17
      · rw [A1 2 0 (by omega) (by omega) (by omega), r1 2 _ (by decide) (by decide) (by decide)]; exact P2
      · rw [A3, ms]; omega
      · rw [r2 7 j (by decide) (by decide) (by decide), hV1, y_up_ne (Or.inl (by decide)), y_up_ne (Or.inl (by decide)), y_up_ne (by omega)]
        exact (P3 j (by omega)).1
      · rw [r2 8 j (by decide) (by decide) (by decide), hV1, y_up_ne (by omega), y_up_ne (Or.inl (by decide)), y_up_ne (Or.inl (by decide))]
        exact (P3 j (by omega)).2
      · rw [r2 7 _ (by decide) (by decide) (by decide), hV1, y_up_ne (Or.inl (by decide)), y_up_ne (Or.inl (by decide))]
        by_cases e : t = x.toInt
        · rw [e, y_up_eq, o7.1]
        · rw [y_up_ne (by omega)]; exact (P4 t t0 (by omega)).1
      · rw [r2 8 _ (by decide) (by decide) (by decide), hV1]
        by_cases e : t = x.toInt
        · rw [e, y_up_eq, o7.2]
        · rw [y_up_ne (by omega), y_up_ne (Or.inl (by decide)), y_up_ne (Or.inl (by decide))]; exact (P4 t t0 (by omega)).2
      · rw [r2 9 _ (by decide) (by decide) (by decide), hV1, y_up_ne (Or.inl (by decide)), y_up_ne (by omega), y_up_ne (Or.inl (by decide))]
        exact P5 j hj
      · rw [r2 9 _ (by decide) (by decide) (by decide), hV1, y_up_ne (Or.inl (by decide)), y_up_eq, P6, ms]
        omega
      · rw [r2 14 _ (by decide) (by decide) (by decide), r1 14 _ (by decide) (by decide) (by decide)]; exact (P7 j hj).1
      · rw [r2 15 _ (by decide) (by decide) (by decide), r1 15 _ (by decide) (by decide) (by decide)]; exact (P7 j hj).2.1
      · rw [A1 16 j (by omega) (by omega) (by omega), r1 16 _ (by decide) (by decide) (by decide)]; exact (P7 j hj).2.2
      · rw [r2 14 _ (by decide) (by decide) (by decide), r1 14 _ (by decide) (by decide) (by decide)]; exact P8
      · rw [r2 15 _ (by decide) (by decide) (by decide), r1 15 _ (by decide) (by decide) (by decide)]; exact P8b
      · rw [A2, ms]
      · rw [A1 17 j (by omega) (by omega) (by omega), r1 17 _ (by decide) (by decide) (by decide)]; exact P9 j hj
      · by_cases e : t = x.toInt
        · subst e
          exact A4 q q0 q1
        · have mt := gl_mono nn (t := t + 1) (k := x.toInt) (by omega) (by omega) (by omega)
          have ts := gl_succ l t0
          rw [A1 17 _ (by omega) (by omega) (by omega), r1 17 _ (by decide) (by decide) (by decide)]
          exact P10 t q t0 (by omega) q0 q1
    · have ex : x.toInt = N := by omega
      rw [if_neg q]
      rw [ex] at P2b P3 P4 P6 P8c P10
      unfold F_X0_layWanted_E70_2
      rw [q_letE (q_si τ g 7 1)]
      have w5 : y_W X lb g o σ0 (q_si τ g 7 1) (y_up V 0 7 1) := w.si Y G (id := 0) (by decide) 7 1
      exact ⟨V, w5, P1, ⟨P2, P2b⟩, P3, P4, P5, P6, P7, ⟨P8, P8b, P8c⟩, P9, P10⟩
/-- the class lays down what is wanted -/
theorem gm_layWanted (Y : y_S X lb) (G : y_G X lb g o) (w : y_W X lb g o σ0 τ V) {p K N : Int} (H : gl_p V l p K N) (h20 : V 2 0 = K) :
    ∃ V' : Nat → Int → Int, y_W X lb g o σ0 (F_X0_layWanted X τ g) (y_up V' 0 7 1) ∧ gl_v V V' l p K N := by
  have H' := H
  obtain ⟨H1, H2, Hp, HK, HN, Hw, H4, Hc, Hr, H9⟩ := H'
  have z0 : (0 : Int32).toInt = 0 := rfl
  have m00 : m_S l 0 (0 : Int).toNat = 0 := rfl
  unfold F_X0_layWanted
  rw [q_letE (τ.1 g 5), q_letE (τ.1 g 4)]
  have f5 : (τ.1 g 5).toInt = p := (w.rd (id := 0) (by decide) 5 rfl).trans H1
  have f4 : (τ.1 g 4).toInt = V 0 4 := w.rd (id := 0) (by decide) 4 rfl
  have w1 := gm_begin Y G w f5 f4 h20 HK
  rw [q_letE (F_X2_begin X τ (q_rf X g 2) (τ.1 g 5) (τ.1 g 4))]
  obtain ⟨τ1, e1⟩ : ∃ s, s = F_X2_begin X τ (q_rf X g 2) (τ.1 g 5) (τ.1 g 4) := ⟨_, rfl⟩
  rw [← e1] at w1 ⊢
  refine gl_vL Y G H _ 0 τ1 _ (by decide) w1 ?_ (by decide) (by rw [z0]; exact HN.1)
  rw [z0]
  refine ⟨fun id j b2 b7 b8 b9 b14 b15 b16 b17 => ?_, ⟨?_, ?_⟩, fun j hj => ⟨?_, ?_⟩, fun t t0 t1 => by omega, fun j hj => ?_, ?_, fun j hj => ⟨?_, ?_, ?_⟩, ⟨?_, ?_, ?_⟩, fun j hj => ?_, fun t q t0 t1 => by omega⟩
  · rw [y_up_ne (Or.inl b2), y_up_ne (Or.inl b16), y_up_ne (Or.inl b15), y_up_ne (Or.inl b14)]
  · rw [y_up_eq]
  · rw [y_up_ne (Or.inr (by decide)), y_up_ne (Or.inl (by decide)), y_up_ne (Or.inl (by decide)), y_up_ne (Or.inl (by decide)), m00]; omega
  · rw [y_up_ne (Or.inl (by decide)), y_up_ne (Or.inl (by decide)), y_up_ne (Or.inl (by decide)), y_up_ne (Or.inl (by decide))]
  · rw [y_up_ne (Or.inl (by decide)), y_up_ne (Or.inl (by decide)), y_up_ne (Or.inl (by decide)), y_up_ne (Or.inl (by decide))]
  · rw [y_up_ne (Or.inl (by decide)), y_up_ne (Or.inl (by decide)), y_up_ne (Or.inl (by decide)), y_up_ne (Or.inl (by decide))]
  · rw [y_up_ne (Or.inl (by decide)), y_up_ne (Or.inl (by decide)), y_up_ne (Or.inl (by decide)), y_up_ne (Or.inl (by decide)), m00]; omega
  · rw [y_up_ne (Or.inl (by decide)), y_up_ne (Or.inl (by decide)), y_up_ne (Or.inl (by decide)), y_up_ne (Or.inr hj)]
  · rw [y_up_ne (Or.inl (by decide)), y_up_ne (Or.inl (by decide)), y_up_ne (Or.inr hj), y_up_ne (Or.inl (by decide))]
  · rw [y_up_ne (Or.inl (by decide)), y_up_ne (Or.inr hj), y_up_ne (Or.inl (by decide)), y_up_ne (Or.inl (by decide))]
  · rw [y_up_ne (Or.inl (by decide)), y_up_ne (Or.inl (by decide)), y_up_ne (Or.inl (by decide)), y_up_eq]
  · rw [y_up_ne (Or.inl (by decide)), y_up_ne (Or.inl (by decide)), y_up_eq]
  · rw [y_up_ne (Or.inl (by decide)), y_up_eq, m00]
  · rw [y_up_ne (Or.inl (by decide)), y_up_ne (Or.inl (by decide)), y_up_ne (Or.inl (by decide)), y_up_ne (Or.inl (by decide))]
end GE

/-! FROM 49f.rglay.lean.txt -/
/-! CARDS LAID DOWN: the games stay the same -/
theorem gm_Kx {c c' : Int → Int} {w k : Int} {n : Nat} (h : ∀ j : Int, w + 3 ≤ j → j < w + 3 + (n : Int) → c' j = c j) : m_K c' w k n = m_K c w k n := by
  induction n with
  | zero => rfl
  | succ n ih =>
    show m_K c' w k n + (if k < 0 ∨ c' (w + 3 + (n : Int)) = k then 1 else 0) = m_K c w k n + (if k < 0 ∨ c (w + 3 + (n : Int)) = k then 1 else 0)
    rw [ih (fun j a b => h j a (by omega)), h _ (by omega) (by omega)]
/-- the layings below n are the same -/
theorem gm_Lx {c c' : Int → Int} {n : Nat} (h4 : ∀ i : Int, 0 ≤ i → i < (n : Int) → c (94 + 7 * i + 2) ≤ 4) (h : ∀ j : Int, 94 ≤ j → j < 94 + 7 * (n : Int) → c' j = c j) : m_L c' n = m_L c n ∧ ∀ p k : Int, m_A c' p k n = m_A c p k n := by
  induction n with
  | zero => exact ⟨rfl, fun _ _ => rfl⟩
  | succ n ih =>
    obtain ⟨i1, i2⟩ := ih (fun i a b => h4 i a (by omega)) (fun j a b => h j a (by omega))
    have s4 := h4 (n : Int) (by omega) (by omega)
    refine ⟨?_, fun p k => ?_⟩
    · show m_L c' n + c' (94 + 7 * (n : Int) + 2) = m_L c n + c (94 + 7 * (n : Int) + 2)
      rw [i1, h _ (by omega) (by omega)]
    · show m_A c' p k n + (if 0 ≤ p ∧ c' (94 + 7 * (n : Int)) ≠ p then 0 else m_K c' (94 + 7 * (n : Int)) k (c' (94 + 7 * (n : Int) + 2)).toNat) = m_A c p k n + (if 0 ≤ p ∧ c (94 + 7 * (n : Int)) ≠ p then 0 else m_K c (94 + 7 * (n : Int)) k (c (94 + 7 * (n : Int) + 2)).toNat)
      rw [i2 p k, h _ (by omega) (by omega), h (94 + 7 * (n : Int) + 2) (by omega) (by omega), gm_Kx (c := c) (fun j a b => h j (by omega) (by omega))]
theorem gl_K {c l : Int → Int} {w k : Int} (nn : ∀ t : Int, 0 ≤ t → t < 10 → 0 ≤ l t) (hk : 0 ≤ k ∧ k < 10) (hq : ∀ t q : Int, 0 ≤ t → t < 10 → m_S l 0 t.toNat ≤ q → q < m_S l 0 t.toNat + l t → c (w + 3 + q) = t) (t : Nat) (ht : t ≤ 10) : m_K c w k (m_S l 0 t).toNat = if k < (t : Int) then l k else 0 := by
  induction t with
  | zero =>
    rw [if_neg (by omega)]
    rfl
  | succ t ih =>
    have i1 := ih (by omega)
    have et : ((t : Int)).toNat = t := by omega
    have lt := nn (t : Int) (by omega) (by omega)
    have s0 : 0 ≤ m_S l 0 t := m_S_nn (fun j a b => nn j a (by omega))
    have hs : m_S l 0 (t + 1) = m_S l 0 t + l (t : Int) := by
      show m_S l 0 t + l (0 + (t : Int)) = _
      rw [Int.zero_add]
    have st : ∀ i : Nat, (i : Int) ≤ l (t : Int) → m_K c w k ((m_S l 0 t).toNat + i) = m_K c w k (m_S l 0 t).toNat + (if (t : Int) = k then (i : Int) else 0) := by
      intro i
      induction i with
      | zero =>
        intro _
        show m_K c w k (m_S l 0 t).toNat = _
        split <;> omega
      | succ i ih2 =>
        intro hi
        have i2 := ih2 (by omega)
        have hc := hq (t : Int) (m_S l 0 t + (i : Int)) (by omega) (by omega) (by rw [et]; omega) (by rw [et]; omega)
        have ec : (((m_S l 0 t).toNat + i : Nat) : Int) = m_S l 0 t + (i : Int) := by omega
        show m_K c w k ((m_S l 0 t).toNat + i) + (if k < 0 ∨ c (w + 3 + (((m_S l 0 t).toNat + i : Nat) : Int)) = k then 1 else 0) = _
        rw [i2, ec, hc]
        by_cases q : (t : Int) = k
        · rw [if_pos q, if_pos q, if_pos (Or.inr q)]; omega
        · rw [if_neg q, if_neg q, if_neg (by omega)]; omega
    have hf := st (l (t : Int)).toNat (by omega)
    have es : (m_S l 0 (t + 1)).toNat = (m_S l 0 t).toNat + (l (t : Int)).toNat := by omega
    rw [es, hf, i1]
    by_cases q : (t : Int) = k
    · rw [if_pos q, if_neg (by omega), if_pos (by omega), ← q]; omega
    · rw [if_neg q]
      by_cases q2 : k < (t : Int)
      · rw [if_pos q2, if_pos (by omega)]; omega
      · rw [if_neg q2, if_neg (by omega)]; rfl
theorem gl_P {c c' l : Int → Int} {p k : Int} (hp : 0 ≤ p) (h1 : c' (34 + 10 * p + k) = c (34 + 10 * p + k) - l k) (h2 : ∀ q : Int, 0 ≤ q → q < 6 → q ≠ p → c' (34 + 10 * q + k) = c (34 + 10 * q + k)) (n : Nat) (hn : n ≤ 6) : m_P c' k n = m_P c k n - (if p < (n : Int) then l k else 0) := by
  induction n with
  | zero =>
    rw [if_neg (by omega)]
    rfl
  | succ n ih =>
    have i1 := ih (by omega)
    show m_P c' k n + c' (34 + 10 * (n : Int) + k) = m_P c k n + c (34 + 10 * (n : Int) + k) - _
    rw [i1]
    by_cases q : (n : Int) = p
    · rw [q, h1, if_neg (by omega), if_pos (by omega)]; omega
    · rw [h2 (n : Int) (by omega) (by omega) q]
      by_cases q2 : p < (n : Int)
      · rw [if_pos q2, if_pos (by omega)]; omega
      · rw [if_neg q2, if_neg (by omega)]; omega
theorem gl_cut {l : Int → Int} (n m : Nat) (h : ∀ t : Int, (n : Int) ≤ t → t < ((n + m : Nat) : Int) → l t = 0) : m_S l 0 (n + m) = m_S l 0 n := by
  induction m with
  | zero => rfl
  | succ m ih =>
    show m_S l 0 (n + m) + l (0 + ((n + m : Nat) : Int)) = _
    rw [ih (fun t a b => h t a (by omega)), h _ (by omega) (by omega)]
    omega
theorem rg.lay {V V' : Nat → Int → Int} {c c' l : Int → Int} {p : Int} (R : rg V c) (hl : m_lo c l p) (h6 : c 6 = p) (v : gl_v V V' l p (c 9) (c 0)) (r : gl_r c c' l p) : rg (y_up V' 0 7 1) c' := by
  have b9 := hl.c9
  have hp := hl.2.1
  have hG := hl.1
  obtain ⟨b0, b2, b4, b5, b6, b7, b9', b79⟩ := hG.1
  have nn : ∀ t : Int, 0 ≤ t → t < 10 → 0 ≤ l t := fun t a b => (hl.2.2.1 t a b).1
  have zl : ∀ t : Int, c 0 ≤ t → t < 10 → l t = 0 := fun t a b => by
    have z := hl.2.2.1 t (by omega) b
    have y := (hG.2.1 p t hp.1 hp.2 (by omega) b).2 a
    omega
  have hN : m_S l 0 (c 0).toNat = m_S l 0 10 := by
    have z := gl_cut (l := l) (c 0).toNat (10 - (c 0).toNat) (fun t a b => zl t (by omega) (by omega))
    have e : (c 0).toNat + (10 - (c 0).toNat) = 10 := by omega
    rw [e] at z
    exact z.symm
  obtain ⟨⟨t1, t2, t3, t4, t5, t6⟩, ⟨s1, s2, s3, s4⟩, hpp, ⟨g1, g2⟩, ⟨l1, l2, l3⟩, ⟨a1, a2⟩⟩ := R
  obtain ⟨P1, ⟨P2, P2b⟩, P3, P4, P5, P6, P7, ⟨P8, P8b, P8c⟩, P9, P10⟩ := v
  obtain ⟨r1, r2, r3, r4, r5, r6, r7, r8⟩ := r
  rw [hN] at P2b P6 P8c
  have d : ∀ j : Int, 0 ≤ j → j < 34 → j ≠ 9 → j ≠ 7 → c' j = c j := fun j j0 j1 j2 j3 => r1 j j0 (by omega) (by omega) j2 j3
  have dl : ∀ j : Int, 94 ≤ j → j < 94 + 7 * c 9 → c' j = c j := fun j j0 j1 => r1 j (by omega) (by omega) (by omega) (by omega) (by omega)
  have u : ∀ (id : Nat) (j : Int), id ≠ 0 → y_up V' 0 7 1 id j = V' id j := fun id j h => y_up_ne (Or.inl h)
  have w : ∀ (id : Nat) (j : Int), id ≠ 0 → id ≠ 2 → id ≠ 7 → id ≠ 8 → id ≠ 9 → id ≠ 14 → id ≠ 15 → id ≠ 16 → id ≠ 17 → y_up V' 0 7 1 id j = V id j := fun id j q0 q2 q7 q8 q9 q14 q15 q16 q17 => (u id j q0).trans (P1 id j q2 q7 q8 q9 q14 q15 q16 q17)
  have w0 : ∀ j : Int, j ≠ 7 → y_up V' 0 7 1 0 j = V 0 j := fun j h => (y_up_ne (Or.inr h)).trans (P1 0 j (by decide) (by decide) (by decide) (by decide) (by decide) (by decide) (by decide) (by decide))
  have Lx := gm_Lx (c := c) (c' := c') (n := (c 9).toNat) (fun i i0 i1 => ((hG.2.2.1 i i0 (by omega)).1).2) (fun j j0 j1 => dl j j0 (by omega))
  have e9 : (c' 9).toNat = (c 9 + 1).toNat := by rw [r6]
  have kk : ∀ k : Int, 0 ≤ k → k < 10 → m_K c' (94 + 7 * c 9) k (c' (94 + 7 * c 9 + 2)).toNat = l k := by
    intro k k0 k1
    have z := gl_K (c := c') (w := 94 + 7 * c 9) nn ⟨k0, k1⟩ r8 10 (Nat.le_refl 10)
    rw [if_pos (by omega)] at z
    rw [r5]
    exact z
  refine ⟨⟨?_, ?_, ?_, ?_, ?_, ?_⟩, ⟨?_, ?_, ?_, ?_⟩, fun q q0 q1 => ⟨?_, ?_, ?_, ?_⟩, ⟨fun j j0 j1 => ?_, fun q q0 q1 => ?_⟩, ⟨?_, ?_, fun k k0 k1 => ?_⟩, ⟨fun q k q0 q1 k0 k1 => ?_, fun k k0 k1 => ?_⟩⟩
  · rw [w 1 0 (by decide) (by decide) (by decide) (by decide) (by decide) (by decide) (by decide) (by decide) (by decide), d 0 (by decide) (by decide) (by decide) (by decide)]; exact t1
  · rw [w 1 1 (by decide) (by decide) (by decide) (by decide) (by decide) (by decide) (by decide) (by decide) (by decide), d 1 (by decide) (by decide) (by decide) (by decide)]; exact t2
  · rw [w 1 2 (by decide) (by decide) (by decide) (by decide) (by decide) (by decide) (by decide) (by decide) (by decide), d 3 (by decide) (by decide) (by decide) (by decide)]; exact t3
  · rw [w 1 3 (by decide) (by decide) (by decide) (by decide) (by decide) (by decide) (by decide) (by decide) (by decide), d 4 (by decide) (by decide) (by decide) (by decide)]; exact t4
  · rw [w 1 4 (by decide) (by decide) (by decide) (by decide) (by decide) (by decide) (by decide) (by decide) (by decide), d 2 (by decide) (by decide) (by decide) (by decide)]; exact t5
  · rw [d 3 (by decide) (by decide) (by decide) (by decide)]; exact t6
  · rw [w0 4 (by decide), d 5 (by decide) (by decide) (by decide) (by decide)]; exact s1
  · rw [w0 5 (by decide), d 2 (by decide) (by decide) (by decide) (by decide), d 6 (by decide) (by decide) (by decide) (by decide)]; exact s2
  · rw [w0 6 (by decide), d 8 (by decide) (by decide) (by decide) (by decide)]; exact s3
  · rw [y_up_eq, r7]
  · rw [w 10 q (by decide) (by decide) (by decide) (by decide) (by decide) (by decide) (by decide) (by decide) (by decide), d _ (by omega) (by omega) (by omega) (by omega)]; exact (hpp q q0 q1).1
  · rw [w 11 q (by decide) (by decide) (by decide) (by decide) (by decide) (by decide) (by decide) (by decide) (by decide), d _ (by omega) (by omega) (by omega) (by omega)]; exact (hpp q q0 q1).2.1
  · rw [w 12 q (by decide) (by decide) (by decide) (by decide) (by decide) (by decide) (by decide) (by decide) (by decide), d _ (by omega) (by omega) (by omega) (by omega)]; exact (hpp q q0 q1).2.2.1
  · rw [w 13 q (by decide) (by decide) (by decide) (by decide) (by decide) (by decide) (by decide) (by decide) (by decide), d _ (by omega) (by omega) (by omega) (by omega)]; exact (hpp q q0 q1).2.2.2
  · rw [u 7 j (by decide)]
    by_cases e : 10 * p ≤ j ∧ j < 10 * p + 10
    · obtain ⟨t, ht⟩ : ∃ t, t = j - 10 * p := ⟨_, rfl⟩
      have ej : j = 10 * p + t := by omega
      subst ej
      have ec : (34 : Int) + (10 * p + t) = 34 + 10 * p + t := by omega
      have gg := g1 (10 * p + t) j0 j1
      rw [ec] at gg
      rw [ec, r2 t (by omega) (by omega)]
      by_cases e2 : t < c 0
      · rw [(P4 t (by omega) e2).1, gg]
      · rw [(P3 _ (by omega)).1, gg, zl t (by omega) (by omega)]; omega
    · rw [(P3 _ (by omega)).1, r1 _ (by omega) (by omega) (by omega) (by omega) (by omega)]
      exact g1 j j0 j1
  · rw [u 9 q (by decide)]
    by_cases e : q = p
    · rw [e, P6, g2 p hp.1 hp.2, m_S_sub (c' := c') (c := c) (f := l) (b := 34 + 10 * p) (n := 10) (fun t a b => r2 t a (by omega))]
    · rw [P5 q e, g2 q q0 q1]
      exact (m_S_ext (fun j x y => r1 j (by omega) (by omega) (by omega) (by omega) (by omega))).symm
  · rw [u 2 0 (by decide), P2, r6]
  · rw [u 2 1 (by decide), P2b, l2, e9, m_L_succ c' (c 9) b9.1, Lx.1, r5]
  · rw [u 14 k (by decide), u 15 k (by decide), u 16 k (by decide)]
    rw [r6] at k1
    by_cases e : k = c 9
    · subst e
      rw [P8, P8b, P8c, r3, r4, r5]
      refine ⟨rfl, s1, rfl, hp, fun i i0 i1 => ?_⟩
      obtain ⟨t, x0, x1, x2, x3⟩ := gl_at 10 i i0 i1
      have tk := hl.kind x0 (by omega) (by omega)
      rw [u 17 _ (by decide), P10 t i x0 tk x2 x3, r8 t i x0 (by omega) x2 x3]
    · have z := P7 k e
      obtain ⟨y1, y2, y3, y5, y4⟩ := l3 k k0 (by omega)
      have z4 := ((hG.2.2.1 k k0 (by omega)).1).2
      rw [z.1, z.2.1, z.2.2, dl _ (by omega) (by omega), dl _ (by omega) (by omega), dl _ (by omega) (by omega)]
      refine ⟨y1, y2, y3, y5, fun i i0 i1 => ?_⟩
      rw [u 17 _ (by decide), P9 _ (by omega), dl _ (by omega) (by omega)]
      exact y4 i i0 i1
  · rw [u 8 _ (by decide), e9, m_A_succ c' q k (c 9) b9.1, Lx.2, r3]
    by_cases e : q = p
    · subst e
      rw [if_neg (fun z => z.2 rfl), kk k k0 k1]
      by_cases e2 : k < c 0
      · rw [(P4 k k0 e2).2, a1 q k q0 q1 k0 k1]
      · rw [(P3 _ (by omega)).2, a1 q k q0 q1 k0 k1, zl k (by omega) k1]; omega
    · rw [if_pos ⟨q0, fun z => e z.symm⟩, (P3 _ (by omega)).2, a1 q k q0 q1 k0 k1]; omega
  · rw [w 4 k (by decide) (by decide) (by decide) (by decide) (by decide) (by decide) (by decide) (by decide) (by decide), a2 k k0 k1]
    unfold m_I
    rw [e9, d 2 (by decide) (by decide) (by decide) (by decide), m_A_succ c' (-1) k (c 9) b9.1, Lx.2, if_neg (fun z => absurd z.1 (by decide)), kk k k0 k1, gl_P (l := l) hp.1 (r2 k k0 k1) (fun q q0 q1 q2 => r1 _ (by omega) (by omega) (by omega) (by omega) (by omega)) (c 2).toNat (by omega), if_pos (by omega)]
    omega

/-! FROM 49g.truth.lean.txt -/
/-! TRUE, MIXED, FALSE -/
def g_ct (f : Int → Int) (b : Int) : Nat → Int
  | 0 => 0
  | n + 1 => g_ct f b n + (if f (n : Int) = b then 1 else 0)
def g_tr (f : Int → Int) (b n : Int) : Int := if g_ct f b n.toNat = n then 0 else if g_ct f b n.toNat = 0 then 2 else 1
theorem g_ct_s (f : Int → Int) (b : Int) {x : Int} (h : 0 ≤ x) : g_ct f b (x + 1).toNat = g_ct f b x.toNat + (if f x = b then 1 else 0) := by
  have e : (x + 1).toNat = x.toNat + 1 := by omega
  have e2 : (x.toNat : Int) = x := by omega
  rw [e]
  show g_ct f b x.toNat + (if f (x.toNat : Int) = b then 1 else 0) = _
  rw [e2]
theorem g_ct_b (f : Int → Int) (b : Int) (n : Nat) : 0 ≤ g_ct f b n ∧ g_ct f b n ≤ (n : Int) := by
  induction n with
  | zero => exact ⟨Int.le_refl _, Int.le_refl _⟩
  | succ n ih =>
    have e : g_ct f b (n + 1) = g_ct f b n + (if f (n : Int) = b then 1 else 0) := rfl
    rw [e]
    split <;> omega
theorem g_ct_x {f f' : Int → Int} {b : Int} {n : Nat} (h : ∀ i : Int, 0 ≤ i → i < (n : Int) → f i = f' i) : g_ct f b n = g_ct f' b n := by
  induction n with
  | zero => rfl
  | succ n ih =>
    show g_ct f b n + (if f (n : Int) = b then 1 else 0) = g_ct f' b n + (if f' (n : Int) = b then 1 else 0)
    rw [ih (fun i a c => h i a (by omega)), h (n : Int) (by omega) (by omega)]
theorem g_tr_x {f f' : Int → Int} {b n : Int} (h : ∀ i : Int, 0 ≤ i → i < n → f i = f' i) : g_tr f b n = g_tr f' b n := by
  unfold g_tr
  rw [g_ct_x (f := f) (f' := f') (n := n.toNat) (fun i a c => h i a (by omega))]
section GF
variable {X : XW} {lb : Nat → Nat} {g o a : Nat} {σ τ σ0 τ0 : ST} {V : Nat → Int → Int} {c : Int → Int}
theorem gm_truthL (Y : y_S X lb) (G : y_G X lb g o) (w : y_W X lb g o σ0 σ V) {v1 : Int32} {k n : Int} (hv : v1.toInt = k) (hk : 0 ≤ k ∧ k < 80) (hs : V 16 k = n) (hn : 0 ≤ n ∧ n ≤ 4) (fu : Nat) : ∀ x1 x2 : Int32, (2147483647 - x2.toInt).toNat < fu → 0 ≤ x2.toInt → x2.toInt ≤ n → x1.toInt = g_ct (fun i => V 17 (4 * k + i)) (V 15 k) x2.toInt.toNat → (F_X2_truth_L4_1 X σ (q_rf X g 2) v1 fu x1 x2).toInt = g_tr (fun i => V 17 (4 * k + i)) (V 15 k) n := by
  have gn15 : ((y_gn 15 : Nat) : Int) = 80 := rfl
  have gn16 : ((y_gn 16 : Nat) : Int) = 80 := rfl
  have gn17 : ((y_gn 17 : Nat) : Int) = 320 := rfl
  have e4 : (4 : Int32).toInt = 4 := rfl
  have r4 : (F_X5_get X σ (q_rf X (q_rf X g 2) 4) v1).toInt = n := (y_getI Y G w (id := 16) ⟨by decide, by decide⟩ rfl hv hk.1 (by rw [gn16]; exact hk.2)).trans hs
  have r15 : (F_X5_get X σ (q_rf X (q_rf X g 2) 3) v1).toInt = V 15 k := y_getI Y G w (id := 15) ⟨by decide, by decide⟩ rfl hv hk.1 (by rw [gn15]; exact hk.2)
  induction fu with
  | zero => intro x1 x2 h; exact absurd h (Nat.not_lt_zero _)
  | succ fu ih =>
    intro x1 x2 hf y0 y1 hx
    have cb := g_ct_b (fun i => V 17 (4 * k + i)) (V 15 k) x2.toInt.toNat
    rw [F_X2_truth_L4_1_s]
    unfold F_X2_truth_B4_1
    rw [q_letE (F_X5_get X σ (q_rf X (q_rf X g 2) 4) v1), r4]
    by_cases q : x2.toInt < n
    · have ei : (v1 * 4 + x2).toInt = 4 * k + x2.toInt := by
        rw [ar_add, ar_mul, hv, e4, ar_wr (n := k * 4) (by omega) (by omega), ar_wr (by omega) (by omega)]
        omega
      have r13 : (F_X5_get X σ (q_rf X (q_rf X g 2) 5) (v1 * 4 + x2)).toInt = V 17 (4 * k + x2.toInt) := y_getI Y G w (id := 17) ⟨by decide, by decide⟩ rfl ei (by omega) (by rw [gn17]; omega)
      have ex1 : (x1 + 1).toInt = x1.toInt + 1 := y_inc (by omega)
      have ex2 : (x2 + 1).toInt = x2.toInt + 1 := y_inc (by omega)
      have cs := g_ct_s (fun i => V 17 (4 * k + i)) (V 15 k) y0
      rw [if_pos q, q_letE (v1 * 4), q_letE (v1 * 4 + x2), q_letE (F_X5_get X σ (q_rf X (q_rf X g 2) 5) (v1 * 4 + x2)), q_letE (F_X5_get X σ (q_rf X (q_rf X g 2) 3) v1), r13, r15]
      by_cases q2 : V 17 (4 * k + x2.toInt) = V 15 k
      · rw [if_pos q2, q_letE (x1 + 1), q_letE (x2 + 1)]
        rw [if_pos q2] at cs
        exact ih _ _ (by omega) (by omega) (by omega) (by rw [ex1, ex2, cs, hx])
      · rw [if_neg q2, q_letE (x2 + 1)]
        rw [if_neg q2] at cs
        exact ih _ _ (by omega) (by omega) (by omega) (by rw [ex2, cs, hx]; omega)
    · have ey : x2.toInt = n := by omega
      rw [ey] at hx
      rw [if_neg q]
      unfold F_X2_truth_E48_2
      rw [q_letE, r4, hx]
      unfold g_tr
      by_cases q2 : g_ct (fun i => V 17 (4 * k + i)) (V 15 k) n.toNat = n
      · rw [if_pos q2, if_pos q2]; rfl
      · rw [if_neg q2, if_neg q2]
        by_cases q3 : g_ct (fun i => V 17 (4 * k + i)) (V 15 k) n.toNat = 0
        · rw [if_pos q3, if_pos q3]; rfl
        · rw [if_neg q3, if_neg q3]; rfl
theorem gm_truth (Y : y_S X lb) (G : y_G X lb g o) (w : y_W X lb g o σ0 σ V) {v1 : Int32} {k n : Int} (hv : v1.toInt = k) (hk : 0 ≤ k ∧ k < 80) (hs : V 16 k = n) (hn : 0 ≤ n ∧ n ≤ 4) : (F_X2_truth X σ (q_rf X g 2) v1).toInt = g_tr (fun i => V 17 (4 * k + i)) (V 15 k) n := by
  have z0 : (0 : Int32).toInt = 0 := rfl
  unfold F_X2_truth
  exact gm_truthL Y G w hv hk hs hn _ 0 0 (by decide) (by decide) (by rw [z0]; exact hn.1) (by rw [z0]; rfl)
theorem gm_laid {v : Int32} {k : Int} (hv : v.toInt = k) (hk : 0 ≤ k ∧ k ≤ 80) : (F_X12_laid X τ v).toInt = 94 + 7 * k := by
  have e7 : (7 : Int32).toInt = 7 := rfl
  have e94 : (94 : Int32).toInt = 94 := rfl
  unfold F_X12_laid
  rw [q_letE, q_letE, ar_add, ar_mul, e94, e7, hv, ar_wr (n := 7 * k) (by omega) (by omega), ar_wr (by omega) (by omega)]
theorem gm_sortL (hc : m_c X τ a = c) {rr : Int32} {k n : Int} (hr : rr.toInt = 94 + 7 * k) (hk : 0 ≤ k ∧ k < 80) (hs : c (94 + 7 * k + 2) = n) (hn : 0 ≤ n ∧ n ≤ 4) (fu : Nat) : ∀ x1 x2 : Int32, (2147483647 - x2.toInt).toNat < fu → 0 ≤ x2.toInt → x2.toInt ≤ n → x1.toInt = g_ct (fun i => c (94 + 7 * k + 3 + i)) (c (94 + 7 * k + 1)) x2.toInt.toNat → (F_X12_sortOf_L10_1 X rr τ a fu x1 x2).toInt = g_tr (fun i => c (94 + 7 * k + 3 + i)) (c (94 + 7 * k + 1)) n := by
  have e1 : (1 : Int32).toInt = 1 := rfl
  have e2 : (2 : Int32).toInt = 2 := rfl
  have e3 : (3 : Int32).toInt = 3 := rfl
  have z0 : (0 : Int32).toInt = 0 := rfl
  have i1 : (rr + 1).toInt = 94 + 7 * k + 1 := by rw [ar_add, hr, e1, ar_wr (by omega) (by omega)]
  have i2 : (rr + 2).toInt = 94 + 7 * k + 2 := by rw [ar_add, hr, e2, ar_wr (by omega) (by omega)]
  have i3 : (rr + 3).toInt = 94 + 7 * k + 3 := by rw [ar_add, hr, e3, ar_wr (by omega) (by omega)]
  have r2 : (τ.1 (q_rf X a 20) (rr + 2).toNatClampNeg).toInt = n := (gm_cell hc i2).trans hs
  have r1 : (τ.1 (q_rf X a 20) (rr + 1).toNatClampNeg).toInt = c (94 + 7 * k + 1) := gm_cell hc i1
  induction fu with
  | zero => intro x1 x2 h; exact absurd h (Nat.not_lt_zero _)
  | succ fu ih =>
    intro x1 x2 hf y0 y1 hx
    have cb := g_ct_b (fun i => c (94 + 7 * k + 3 + i)) (c (94 + 7 * k + 1)) x2.toInt.toNat
    rw [F_X12_sortOf_L10_1_s]
    unfold F_X12_sortOf_B10_1
    rw [q_letE (rr + 2), q_letE (τ.1 (q_rf X a 20) (rr + 2).toNatClampNeg), r2]
    by_cases q : x2.toInt < n
    · have ei : (rr + 3 + x2).toInt = 94 + 7 * k + 3 + x2.toInt := by rw [ar_add, i3, ar_wr (by omega) (by omega)]
      have r13 : (τ.1 (q_rf X a 20) (rr + 3 + x2).toNatClampNeg).toInt = c (94 + 7 * k + 3 + x2.toInt) := gm_cell hc ei
      have ex1 : (x1 + 1).toInt = x1.toInt + 1 := y_inc (by omega)
      have ex0 : (x1 + 0).toInt = x1.toInt := by rw [ar_add, z0, ar_wr (by omega) (by omega)]; omega
      have ex2 : (x2 + 1).toInt = x2.toInt + 1 := y_inc (by omega)
      have cs := g_ct_s (fun i => c (94 + 7 * k + 3 + i)) (c (94 + 7 * k + 1)) y0
      rw [if_pos q, q_letE (rr + 3), q_letE (rr + 3 + x2), q_letE (τ.1 (q_rf X a 20) (rr + 3 + x2).toNatClampNeg), q_letE (rr + 1), q_letE (τ.1 (q_rf X a 20) (rr + 1).toNatClampNeg), r13, r1]
      by_cases q2 : c (94 + 7 * k + 3 + x2.toInt) = c (94 + 7 * k + 1)
      · rw [if_pos q2, q_letE (x1 + 1), q_letE (x2 + 1)]
        rw [if_pos q2] at cs
        exact ih _ _ (by omega) (by omega) (by omega) (by rw [ex1, ex2, cs, hx])
      · rw [if_neg q2, q_letE (x1 + 0), q_letE (x2 + 1)]
        rw [if_neg q2] at cs
        exact ih _ _ (by omega) (by omega) (by omega) (by rw [ex0, ex2, cs, hx]; omega)
    · have ey : x2.toInt = n := by omega
      rw [ey] at hx
      rw [if_neg q]
      unfold F_X12_sortOf_E59_2
      rw [q_letE, q_letE, r2, hx]
      unfold g_tr
      by_cases q2 : g_ct (fun i => c (94 + 7 * k + 3 + i)) (c (94 + 7 * k + 1)) n.toNat = n
      · rw [if_pos q2, if_pos q2]; rfl
      · rw [if_neg q2, if_neg q2]
        by_cases q3 : g_ct (fun i => c (94 + 7 * k + 3 + i)) (c (94 + 7 * k + 1)) n.toNat = 0
        · rw [if_pos q3, if_pos q3]; rfl
        · rw [if_neg q3, if_neg q3]; rfl
theorem gm_sortOf (hc : m_c X τ a = c) {v1 : Int32} {k n : Int} (hv : v1.toInt = k) (hk : 0 ≤ k ∧ k < 80) (hs : c (94 + 7 * k + 2) = n) (hn : 0 ≤ n ∧ n ≤ 4) : (F_X12_sortOf X τ a v1).toInt = g_tr (fun i => c (94 + 7 * k + 3 + i)) (c (94 + 7 * k + 1)) n := by
  have z0 : (0 : Int32).toInt = 0 := rfl
  unfold F_X12_sortOf
  rw [q_letE]
  exact gm_sortL hc (gm_laid hv ⟨hk.1, by omega⟩) hk hs hn _ 0 0 (by decide) (by decide) (by rw [z0]; exact hn.1) (by rw [z0]; rfl)
/-- both find the same sort -/
theorem rg.sort (Y : y_S X lb) (G : y_G X lb g o) (w : y_W X lb g o σ0 σ V) (R : rg V c) (hG : m_G c) (hc : m_c X τ a = c) {v1 v1' : Int32} {k : Int} (hv : v1.toInt = k) (hv' : v1'.toInt = k) (hk : 0 ≤ k ∧ k < c 9) : (F_X2_truth X σ (q_rf X g 2) v1).toInt = (F_X12_sortOf X τ a v1').toInt ∧ 0 ≤ (F_X12_sortOf X τ a v1').toInt ∧ (F_X12_sortOf X τ a v1').toInt ≤ 2 := by
  have b9 := hG.1.2.2.2.2.2.2.1
  have y4 := (hG.2.2.1 k hk.1 hk.2).1
  obtain ⟨y1, y2, y3, y5, y6⟩ := R.2.2.2.2.1.2.2 k hk.1 hk.2
  have a1 := gm_truth Y G w hv ⟨hk.1, by omega⟩ y3 ⟨by omega, by omega⟩
  have a2 := gm_sortOf hc hv' ⟨hk.1, by omega⟩ rfl ⟨by omega, by omega⟩
  rw [a1, a2, y2]
  refine ⟨g_tr_x (fun i i0 i1 => y6 i i0 i1), ?_, ?_⟩
  · unfold g_tr
    split
    · decide
    · split <;> decide
  · unfold g_tr
    split
    · decide
    · split <;> decide
end GF

/-! FROM 49h.takes.lean.txt -/
/-! THE HEAP TAKEN -/
def gq (f : Int → Int) (d : Int) : Nat → Int
  | 0 => 0
  | n + 1 => gq f d n + f (10 * (n : Int) + d)
theorem gq_s (f : Int → Int) (d : Int) {p : Int} (h : 0 ≤ p) : gq f d (p + 1).toNat = gq f d p.toNat + f (10 * p + d) := by
  have e : (p + 1).toNat = p.toNat + 1 := by omega
  have e2 : (p.toNat : Int) = p := by omega
  rw [e]
  show gq f d p.toNat + f (10 * (p.toNat : Int) + d) = _
  rw [e2]
theorem gq_b {f : Int → Int} {d : Int} (n : Nat) (h : ∀ p : Int, 0 ≤ p → p < (n : Int) → 0 ≤ f (10 * p + d) ∧ f (10 * p + d) ≤ 80) : 0 ≤ gq f d n ∧ gq f d n ≤ 80 * (n : Int) := by
  induction n with
  | zero => exact ⟨Int.le_refl _, Int.le_refl _⟩
  | succ n ih =>
    have i := ih (fun p a b => h p a (by omega))
    have d0 := h (n : Int) (by omega) (by omega)
    show 0 ≤ gq f d n + f (10 * (n : Int) + d) ∧ gq f d n + f (10 * (n : Int) + d) ≤ _
    omega
/-- all players' cards of a kind in the heap -/
theorem gq_A {c : Int → Int} {d : Int} (n : Nat) (hl : ∀ i : Int, 0 ≤ i → i < (n : Int) → 0 ≤ c (94 + 7 * i) ∧ c (94 + 7 * i) < 6) : m_A c 0 d n + m_A c 1 d n + m_A c 2 d n + m_A c 3 d n + m_A c 4 d n + m_A c 5 d n = m_A c (-1) d n := by
  induction n with
  | zero => rfl
  | succ n ih =>
    have i := ih (fun t a b => hl t a (by omega))
    have l := hl (n : Int) (by omega) (by omega)
    have s : ∀ q : Int, m_A c q d (n + 1) = m_A c q d n + (if 0 ≤ q ∧ c (94 + 7 * (n : Int)) ≠ q then 0 else m_K c (94 + 7 * (n : Int)) d (c (94 + 7 * (n : Int) + 2)).toNat) := fun q => rfl
    have sm : m_A c (-1) d (n + 1) = m_A c (-1) d n + m_K c (94 + 7 * (n : Int)) d (c (94 + 7 * (n : Int) + 2)).toNat := by rw [s (-1), if_neg (fun z => absurd z.1 (by decide))]
    rw [s 0, s 1, s 2, s 3, s 4, s 5, sm, ← i]
    obtain ⟨L, hL⟩ : ∃ L, L = c (94 + 7 * (n : Int)) := ⟨_, rfl⟩
    obtain ⟨M, hM⟩ : ∃ M, M = m_K c (94 + 7 * (n : Int)) d (c (94 + 7 * (n : Int) + 2)).toNat := ⟨_, rfl⟩
    rw [← hL] at l ⊢
    rw [← hM]
    rcases (by omega : L = 0 ∨ L = 1 ∨ L = 2 ∨ L = 3 ∨ L = 4 ∨ L = 5) with e | e | e | e | e | e <;> rw [e] <;> simp <;> omega
/-- how far the class is: the rows of the players below p, the first k of p's -/
def gt_v (V0 V : Nat → Int → Int) (t p k : Int) : Prop :=
  (∀ (id : Nat) (j : Int), id ≠ 7 → id ≠ 9 → V id j = V0 id j) ∧ (∀ j : Int, ¬ (10 * t ≤ j ∧ j < 10 * t + 10) → V 7 j = V0 7 j) ∧ (∀ d : Int, 0 ≤ d → d < 10 → V 7 (10 * t + d) = V0 7 (10 * t + d) + gq (V0 8) d (if d < k then p + 1 else p).toNat) ∧ (∀ j : Int, j ≠ t → V 9 j = V0 9 j) ∧ V 9 t = m_S (V 7) (10 * t) 10 ∧ 0 ≤ V 9 t ∧ V 9 t ≤ 100 + 80 * (10 * p + k)
def gt_V (V0 V : Nat → Int → Int) (t : Int) : Prop :=
  (∀ (id : Nat) (j : Int), id ≠ 7 → id ≠ 8 → id ≠ 9 → V id j = V0 id j) ∧ (∀ j : Int, ¬ (10 * t ≤ j ∧ j < 10 * t + 10) → V 7 j = V0 7 j) ∧ (∀ d : Int, 0 ≤ d → d < 10 → V 7 (10 * t + d) = V0 7 (10 * t + d) + gq (V0 8) d 6) ∧ (∀ j : Int, j ≠ t → V 9 j = V0 9 j) ∧ V 9 t = m_S (V 7) (10 * t) 10 ∧ ∀ j : Int, 0 ≤ j → j < 60 → V 8 j = 0
/-- what it wants of the game -/
def gt_p (V0 : Nat → Int → Int) (t : Int) : Prop := (0 ≤ t ∧ t < 6) ∧ (∀ j : Int, 0 ≤ j → j < 60 → (0 ≤ V0 7 j ∧ V0 7 j ≤ 80) ∧ 0 ≤ V0 8 j ∧ V0 8 j ≤ 80) ∧ V0 9 t = m_S (V0 7) (10 * t) 10 ∧ 0 ≤ V0 9 t ∧ V0 9 t ≤ 100
section GH
variable {X : XW} {lb : Nat → Nat} {g o a : Nat} {σ τ σ0 τ0 : ST} {V V0 : Nat → Int → Int} {c c0 : Int → Int}
theorem gm_deal (Y : y_S X lb) (G : y_G X lb g o) (w : y_W X lb g o σ0 τ V) {v1 v2 v3 : Int32} {p k n : Int} (hv1 : v1.toInt = p) (hv2 : v2.toInt = k) (hv3 : v3.toInt = n) (hp : 0 ≤ p ∧ p < 6) (hk : 0 ≤ k ∧ k < 10) (hn : -1000 ≤ n ∧ n ≤ 1000) (b7 : -100000 ≤ V 7 (10 * p + k) ∧ V 7 (10 * p + k) ≤ 100000) (b9 : -100000 ≤ V 9 p ∧ V 9 p ≤ 100000) :
    y_W X lb g o σ0 (F_X1_deal X τ (q_rf X g 1) v1 v2 v3) (y_up (y_up V 7 (10 * p + k) (V 7 (10 * p + k) + n)) 9 p (V 9 p + n)) := by
  have gn7 : ((y_gn 7 : Nat) : Int) = 60 := rfl
  have gn9 : ((y_gn 9 : Nat) : Int) = 6 := rfl
  have e10 : (10 : Int32).toInt = 10 := rfl
  have ei : (v1 * 10 + v2).toInt = 10 * p + k := by
    rw [ar_add, ar_mul, hv1, hv2, e10, ar_wr (n := p * 10) (by omega) (by omega), ar_wr (by omega) (by omega)]
    omega
  have w1 := w.add Y G (id := 7) (r := q_rf X (q_rf X g 1) 0) ⟨by decide, by decide⟩ rfl (v1 * 10 + v2) v3 (by omega) (by rw [gn7]; omega)
  rw [ei, hv3, ar_wr (by omega) (by omega)] at w1
  unfold F_X1_deal
  rw [q_letE (v1 * 10), q_letE (v1 * 10 + v2), q_letE (F_X5_add X τ (q_rf X (q_rf X g 1) 0) (v1 * 10 + v2) v3)]
  obtain ⟨τ1, e1⟩ : ∃ s, s = F_X5_add X τ (q_rf X (q_rf X g 1) 0) (v1 * 10 + v2) v3 := ⟨_, rfl⟩
  rw [← e1] at w1 ⊢
  have w2 := w1.add Y G (id := 9) (r := q_rf X (q_rf X g 1) 2) ⟨by decide, by decide⟩ rfl v1 v3 (by omega) (by rw [gn9]; omega)
  rw [hv1, hv3, y_up_ne (Or.inl (by decide)), ar_wr (by omega) (by omega)] at w2
  rw [q_letE (F_X5_add X τ1 (q_rf X (q_rf X g 1) 2) v1 v3)]
  exact w2
theorem gt_step {t p k n : Int} (H : gt_p V0 t) (hp : 0 ≤ p ∧ p < 6) (hk : 0 ≤ k ∧ k < 10) (P : gt_v V0 V t p k) (hn : n = V0 8 (10 * p + k)) : gt_v V0 (y_up (y_up V 7 (10 * t + k) (V 7 (10 * t + k) + n)) 9 t (V 9 t + n)) t p (k + 1) := by
  obtain ⟨Ht, Hb, H9, -, -⟩ := H
  obtain ⟨P1, P2, P3, P4, P5, P6, P7⟩ := P
  have bn := (Hb (10 * p + k) (by omega) (by omega)).2
  refine ⟨fun id j i7 i9 => ?_, fun j hj => ?_, fun d d0 d1 => ?_, fun j hj => ?_, ?_, ?_, ?_⟩
  · rw [y_up_ne (Or.inl i9), y_up_ne (Or.inl i7)]; exact P1 id j i7 i9
  · rw [y_up_ne (Or.inl (by decide)), y_up_ne (by omega)]; exact P2 j hj
  · rw [y_up_ne (Or.inl (by decide))]
    by_cases e : d = k
    · subst e
      have z := P3 d d0 d1
      rw [if_neg (by omega)] at z
      rw [y_up_eq, z, if_pos (by omega), gq_s _ _ hp.1, hn]
      omega
    · rw [y_up_ne (by omega), P3 d d0 d1]
      by_cases e2 : d < k
      · rw [if_pos e2, if_pos (by omega)]
      · rw [if_neg e2, if_neg (by omega)]
  · rw [y_up_ne (by omega), y_up_ne (Or.inl (by decide))]; exact P4 j hj
  · rw [y_up_eq]
    have z := m_S_upd (c := V 7) (c' := (y_up (y_up V 7 (10 * t + k) (V 7 (10 * t + k) + n)) 9 t (V 9 t + n)) 7) (b := 10 * t) (A := 10 * t + k) (v := V 7 (10 * t + k) + n) (n := 10) (fun j a1 a2 => by
      rw [y_up_ne (Or.inl (by decide))]
      by_cases e : j = 10 * t + k
      · rw [e, y_up_eq, if_pos rfl]
      · rw [y_up_ne (Or.inr e), if_neg e]) (by omega) (by omega)
    rw [z, P5]
    omega
  · rw [y_up_eq]; omega
  · rw [y_up_eq]; omega
theorem gt_in (Y : y_S X lb) (G : y_G X lb g o) {t p : Int} (H : gt_p V0 t) (hp : 0 ≤ p ∧ p < 6) {x1 v1 : Int32} (hx1 : x1.toInt = p) (hv1 : v1.toInt = t) (Bf : Int32 → ST → ST) (fu : Nat) : ∀ (x : Int32) (τ : ST) (V : Nat → Int → Int), (2147483647 - x.toInt).toNat < fu → y_W X lb g o σ0 τ V → gt_v V0 V t p x.toInt → 0 ≤ x.toInt → x.toInt ≤ 10 →
    ∃ (τ' : ST) (V' : Nat → Int → Int), F_X1_takeHeap_L10_3 X (q_rf X g 1) x1 v1 Bf fu x τ = Bf (x1 + 1) τ' ∧ y_W X lb g o σ0 τ' V' ∧ gt_v V0 V' t (p + 1) 0 := by
  have gn8 : ((y_gn 8 : Nat) : Int) = 60 := rfl
  have e10 : (10 : Int32).toInt = 10 := rfl
  induction fu with
  | zero => intro x τ V h; exact absurd h (Nat.not_lt_zero _)
  | succ fu ih =>
    intro x τ V hf w P x0 x1'
    rw [F_X1_takeHeap_L10_3_s]
    unfold F_X1_takeHeap_B10_3
    by_cases q : x.toInt < 10
    · have ei : (x1 * 10 + x).toInt = 10 * p + x.toInt := by
        rw [ar_add, ar_mul, hx1, e10, ar_wr (n := p * 10) (by omega) (by omega), ar_wr (by omega) (by omega)]
        omega
      have lb8 : (F_X1_laidBy X τ (q_rf X g 1) x1 x).toInt = V0 8 (10 * p + x.toInt) := by
        unfold F_X1_laidBy
        rw [q_letE, q_letE, q_letE]
        exact (y_getI Y G w (id := 8) ⟨by decide, by decide⟩ rfl ei (by omega) (by rw [gn8]; omega)).trans (P.1 8 _ (by decide) (by decide))
      have bn := (H.2.1 (10 * p + x.toInt) (by omega) (by omega)).2
      have b7 := (H.2.1 (10 * t + x.toInt) (by have := H.1; omega) (by have := H.1; omega)).1
      have q7 := P.2.2.1 x.toInt x0 q
      rw [if_neg (by omega)] at q7
      have gb := gq_b (f := V0 8) (d := x.toInt) p.toNat (fun r r0 r1 => (H.2.1 (10 * r + x.toInt) (by omega) (by omega)).2)
      have p9 := P.2.2.2.2.2
      rw [if_pos q, q_letE (F_X1_laidBy X τ (q_rf X g 1) x1 x)]
      obtain ⟨n, hn⟩ : ∃ n, n = F_X1_laidBy X τ (q_rf X g 1) x1 x := ⟨_, rfl⟩
      rw [← hn] at lb8 ⊢
      have w1 := gm_deal Y G w (v1 := v1) (v2 := x) (v3 := n) hv1 rfl rfl H.1 ⟨x0, q⟩ (by omega) (by omega) (by omega)
      rw [q_letE (F_X1_deal X τ (q_rf X g 1) v1 x n), q_letE (x + 1)]
      have ex : (x + 1).toInt = x.toInt + 1 := y_inc (by omega)
      exact ih (x + 1) _ _ (by omega) w1 (by rw [ex]; exact gt_step H hp ⟨x0, q⟩ P lb8) (by omega) (by omega)
    · have ex : x.toInt = 10 := by omega
      rw [ex] at P
      rw [if_neg q]
      unfold F_X1_takeHeap_E34_4
      rw [q_letE (x1 + 1)]
      obtain ⟨P1, P2, P3, P4, P5, P6, P7⟩ := P
      refine ⟨τ, V, rfl, w, P1, P2, fun d d0 d1 => ?_, P4, P5, P6, by omega⟩
      rw [P3 d d0 d1, if_pos d1, if_neg (by omega)]
theorem gt_out (Y : y_S X lb) (G : y_G X lb g o) {t : Int} (H : gt_p V0 t) {v1 : Int32} (hv1 : v1.toInt = t) (fu : Nat) : ∀ (x : Int32) (τ : ST) (V : Nat → Int → Int), (2147483647 - x.toInt).toNat < fu → y_W X lb g o σ0 τ V → gt_v V0 V t x.toInt 0 → 0 ≤ x.toInt → x.toInt ≤ 6 →
    ∃ V' : Nat → Int → Int, y_W X lb g o σ0 (F_X1_takeHeap_L2_1 X (q_rf X g 1) v1 fu x τ) V' ∧ gt_V V0 V' t := by
  induction fu with
  | zero => intro x τ V h; exact absurd h (Nat.not_lt_zero _)
  | succ fu ih =>
    intro x τ V hf w P x0 x1'
    have z0 : (0 : Int32).toInt = 0 := rfl
    rw [F_X1_takeHeap_L2_1_s]
    unfold F_X1_takeHeap_B2_1
    by_cases q : x.toInt < 6
    · rw [if_pos q]
      obtain ⟨τ', V', e, w', P'⟩ := gt_in Y G H ⟨x0, q⟩ (x1 := x) rfl hv1 (F_X1_takeHeap_L2_1 X (q_rf X g 1) v1 fu) ((2147483647 - (0 : Int32).toInt).toNat + 1) 0 τ V (by decide) w (by rw [z0]; exact P) (by decide) (by decide)
      rw [e]
      have ex : (x + 1).toInt = x.toInt + 1 := y_inc (by omega)
      exact ih (x + 1) τ' V' (by omega) w' (by rw [ex]; exact P') (by omega) (by omega)
    · have ex : x.toInt = 6 := by omega
      rw [ex] at P
      rw [if_neg q]
      unfold F_X1_takeHeap_E40_2
      rw [q_letE (F_X5_clear X τ (q_rf X (q_rf X g 1) 1))]
      have w1 := w.clear Y G (id := 8) (r := q_rf X (q_rf X g 1) 1) ⟨by decide, by decide⟩ rfl
      obtain ⟨P1, P2, P3, P4, P5, P6, P7⟩ := P
      have r : ∀ (id : Nat) (j : Int), id ≠ 8 → y_bl V 8 ((y_gn 8 : Nat) : Int) (fun _ => 0) id j = V id j := fun id j h => if_neg (fun z => h z.1)
      refine ⟨_, w1, fun id j i7 i8 i9 => ?_, fun j hj => ?_, fun d d0 d1 => ?_, fun j hj => ?_, ?_, fun j j0 j1 => ?_⟩
      · rw [r id j i8]; exact P1 id j i7 i9
      · rw [r 7 j (by decide)]; exact P2 j hj
      · rw [r 7 _ (by decide), P3 d d0 d1, if_neg (by omega)]; rfl
      · rw [r 9 j (by decide)]; exact P4 j hj
      · rw [r 9 t (by decide), P5]
        exact (m_S_ext (fun j a b => r 7 j (by decide))).symm
      · exact if_pos ⟨rfl, j0, j1⟩
/-- the class's player takes the heap -/
theorem gm_takeHeap (Y : y_S X lb) (G : y_G X lb g o) (w : y_W X lb g o σ0 τ V) {t : Int} (H : gt_p V t) {v1 : Int32} (hv1 : v1.toInt = t) : ∃ V' : Nat → Int → Int, y_W X lb g o σ0 (F_X1_takeHeap X τ (q_rf X g 1) v1) V' ∧ gt_V V V' t := by
  have z0 : (0 : Int32).toInt = 0 := rfl
  unfold F_X1_takeHeap
  refine gt_out Y G H hv1 _ 0 τ V (by decide) w ?_ (by decide) (by decide)
  rw [z0]
  refine ⟨fun _ _ _ _ => rfl, fun _ _ => rfl, fun d d0 d1 => ?_, fun _ _ => rfl, H.2.2.1, H.2.2.2.1, by have := H.2.2.2.2; omega⟩
  rw [if_neg (by omega)]
  have e : gq (V 8) d (0 : Int).toNat = 0 := rfl
  omega
/-! the reference -/
def gt_c (c0 c : Int → Int) (p k i : Int) : Prop := (∀ j : Int, 0 ≤ j → ¬ (34 + 10 * p ≤ j ∧ j < 44 + 10 * p) → c j = c0 j) ∧ ∀ d : Int, 0 ≤ d → d < 10 → c (34 + 10 * p + d) = c0 (34 + 10 * p + d) + m_A c0 (-1) d k.toNat + m_K c0 (94 + 7 * k) d i.toNat
theorem gt_c.card {p k i d v : Int} (h : gt_c c0 c p k i) (hp : 0 ≤ p ∧ p < 6) (hk : 0 ≤ k) (hi : 0 ≤ i) (hd : 0 ≤ d ∧ d < 10) (ed : c0 (94 + 7 * k + 3 + i) = d) (hv : v = c (34 + 10 * p + d) + 1) : gt_c c0 (m_up c (34 + 10 * p + d) v) p k (i + 1) := by
  obtain ⟨h1, h2⟩ := h
  refine ⟨fun j j0 j1 => ?_, fun e e0 e1 => ?_⟩
  · rw [m_up_ne (by omega)]; exact h1 j j0 j1
  · rw [m_K_succ _ _ _ _ hi, ed]
    by_cases q : e = d
    · rw [q, m_up_eq, if_pos (Or.inr rfl), hv, h2 d hd.1 hd.2]
      omega
    · rw [m_up_ne (by omega), h2 e e0 e1, if_neg (by omega)]
      omega
theorem gt_c.lay {p k i : Int} (h : gt_c c0 c p k i) (hk : 0 ≤ k) (hi : i = c0 (94 + 7 * k + 2)) : gt_c c0 c p (k + 1) 0 := by
  obtain ⟨h1, h2⟩ := h
  refine ⟨h1, fun d d0 d1 => ?_⟩
  have z : m_K c0 (94 + 7 * (k + 1)) d (0 : Int).toNat = 0 := rfl
  rw [h2 d d0 d1, m_A_succ _ _ _ _ hk, if_neg (fun z => absurd z.1 (by decide)), hi, z]
  omega
theorem gr_in (g0 : m_G c0) {p k : Int} (hp : 0 ≤ p ∧ p < 6) (hk : 0 ≤ k ∧ k < c0 9) {v1 x1 rr : Int32} (hv1 : v1.toInt = p) (hr : rr.toInt = 94 + 7 * k) (Bf : Int32 → ST → ST) (fu : Nat) : ∀ (x : Int32) (τ : ST) (c : Int → Int), (2147483647 - x.toInt).toNat < fu → tkl (fun b _ => b = q_rf X a 20) (fun _ _ => False) τ0 τ → m_c X τ a = c → gt_c c0 c p k x.toInt → m_tk c0 c p k x.toInt → 0 ≤ x.toInt → x.toInt ≤ c0 (94 + 7 * k + 2) →
    ∃ (τ' : ST) (c' : Int → Int), F_X12_takes_L21_3 X rr a v1 x1 Bf fu x τ = Bf (x1 + 1) τ' ∧ tkl (fun b _ => b = q_rf X a 20) (fun _ _ => False) τ0 τ' ∧ m_c X τ' a = c' ∧ gt_c c0 c' p (k + 1) 0 ∧ m_tk c0 c' p (k + 1) 0 := by
  have e1 : (1 : Int32).toInt = 1 := rfl
  have e2 : (2 : Int32).toInt = 2 := rfl
  have e3 : (3 : Int32).toInt = 3 := rfl
  have e10 : (10 : Int32).toInt = 10 := rfl
  have e34 : (34 : Int32).toInt = 34 := rfl
  have b9 := g0.1.2.2.2.2.2.2.1
  have b0 := g0.1.1
  obtain ⟨y4, y5⟩ := g0.2.2.1 k hk.1 hk.2
  have i2 : (rr + 2).toInt = 94 + 7 * k + 2 := by rw [ar_add, hr, e2, ar_wr (by omega) (by omega)]
  have i3 : (rr + 3).toInt = 94 + 7 * k + 3 := by rw [ar_add, hr, e3, ar_wr (by omega) (by omega)]
  have i34 : ((34 : Int32) + 10 * v1).toInt = 34 + 10 * p := by
    rw [ar_add, ar_mul, hv1, e10, e34, ar_wr (n := 10 * p) (by omega) (by omega), ar_wr (by omega) (by omega)]
  induction fu with
  | zero => intro x τ c h; exact absurd h (Nat.not_lt_zero _)
  | succ fu ih =>
    intro x τ c hf t hc P D x0 x1'
    have r2 : (τ.1 (q_rf X a 20) (rr + 2).toNatClampNeg).toInt = c0 (94 + 7 * k + 2) := (gm_cell hc i2).trans (P.1 _ (by omega) (by omega))
    rw [F_X12_takes_L21_3_s]
    unfold F_X12_takes_B21_3
    rw [q_letE (rr + 2), q_letE (τ.1 (q_rf X a 20) (rr + 2).toNatClampNeg), r2]
    by_cases q : x.toInt < c0 (94 + 7 * k + 2)
    · have yd := y5 x.toInt x0 q
      have ei : (rr + 3 + x).toInt = 94 + 7 * k + 3 + x.toInt := by rw [ar_add, i3, ar_wr (by omega) (by omega)]
      have rd : (τ.1 (q_rf X a 20) (rr + 3 + x).toNatClampNeg).toInt = c0 (94 + 7 * k + 3 + x.toInt) := (gm_cell hc ei).trans (P.1 _ (by omega) (by omega))
      rw [if_pos q, q_letE ((10 : Int32) * v1), q_letE ((34 : Int32) + 10 * v1), q_letE (rr + 3), q_letE (rr + 3 + x), q_letE (τ.1 (q_rf X a 20) (rr + 3 + x).toNatClampNeg)]
      obtain ⟨f, hf1⟩ : ∃ f, f = τ.1 (q_rf X a 20) (rr + 3 + x).toNatClampNeg := ⟨_, rfl⟩
      rw [← hf1] at rd ⊢
      obtain ⟨d, hd⟩ : ∃ d, d = c0 (94 + 7 * k + 3 + x.toInt) := ⟨_, rfl⟩
      rw [← hd] at rd yd
      have ej : ((34 : Int32) + 10 * v1 + f).toInt = 34 + 10 * p + d := by rw [ar_add, i34, rd, ar_wr (by omega) (by omega)]
      have fh : (τ.1 (q_rf X a 20) ((34 : Int32) + 10 * v1 + f).toNatClampNeg).toInt = c (34 + 10 * p + d) := gm_cell hc ej
      have ab := g0.A_bd (-1) d k.toNat (by omega)
      have lb := g0.L80 hk.1 (by omega : k ≤ c0 9)
      have kb := m_K_bd c0 (94 + 7 * k) d x.toInt.toNat
      have hb := g0.h80 hp.1 hp.2 yd.1 (by omega : d < 10)
      have pd := P.2 d yd.1 (by omega)
      rw [q_letE ((34 : Int32) + 10 * v1 + f), q_letE (τ.1 (q_rf X a 20) ((34 : Int32) + 10 * v1 + f).toNatClampNeg)]
      obtain ⟨u, hu⟩ : ∃ u, u = τ.1 (q_rf X a 20) ((34 : Int32) + 10 * v1 + f).toNatClampNeg + 1 := ⟨_, rfl⟩
      have uv : u.toInt = c (34 + 10 * p + d) + 1 := by rw [hu, ar_add, fh, e1, ar_wr (by omega) (by omega)]
      rw [← hu, q_letE u, q_letE (q_si τ (q_rf X a 20) ((34 : Int32) + 10 * v1 + f).toNatClampNeg u), q_letE (x + 1)]
      have ex : (x + 1).toInt = x.toInt + 1 := y_inc (by omega)
      have c1 : m_c X (q_si τ (q_rf X a 20) ((34 : Int32) + 10 * v1 + f).toNatClampNeg u) a = m_up c (34 + 10 * p + d) u.toInt := by
        rw [m_c_up _ (by omega) ej, hc]
      exact ih (x + 1) _ _ (by omega) (t.si _ rfl) c1 (by rw [ex]; exact P.card hp hk.1 x0 ⟨yd.1, by omega⟩ hd.symm uv) (by rw [ex]; exact D.card hp yd (by omega) m_up_e uv) (by omega) (by omega)
    · rw [if_neg q]
      unfold F_X12_takes_E68_4
      rw [q_letE (x1 + 1)]
      exact ⟨τ, c, rfl, t, hc, P.lay hk.1 (by omega), D.lay hk.1 (by omega)⟩
theorem gr_out (g0 : m_G c0) (h7 : c0 7 = 0) {p : Int} (hp : 0 ≤ p ∧ p < 6) {v1 : Int32} (hv1 : v1.toInt = p) (fu : Nat) : ∀ (x : Int32) (τ : ST) (c : Int → Int), (2147483647 - x.toInt).toNat < fu → tkl (fun b _ => b = q_rf X a 20) (fun _ _ => False) τ0 τ → m_c X τ a = c → gt_c c0 c p x.toInt 0 → m_tk c0 c p x.toInt 0 → 0 ≤ x.toInt → x.toInt ≤ c0 9 →
    ∃ c' : Int → Int, m_c X (F_X12_takes_L2_1 X a v1 fu x τ) a = m_up c' 9 0 ∧ tkl (fun b _ => b = q_rf X a 20) (fun _ _ => False) τ0 (F_X12_takes_L2_1 X a v1 fu x τ) ∧ gt_c c0 c' p (c0 9) 0 ∧ m_G (m_up c' 9 0) := by
  have b9 := g0.1.2.2.2.2.2.2.1
  have z0 : (0 : Int32).toInt = 0 := rfl
  induction fu with
  | zero => intro x τ c h; exact absurd h (Nat.not_lt_zero _)
  | succ fu ih =>
    intro x τ c hf t hc P D x0 x1'
    have r9 : (τ.1 (q_rf X a 20) (9 : Int32).toNatClampNeg).toInt = c0 9 := (gm_cell (A := 9) hc rfl).trans (P.1 _ (by omega) (by omega))
    rw [F_X12_takes_L2_1_s]
    unfold F_X12_takes_B2_1
    rw [q_letE (τ.1 (q_rf X a 20) (9 : Int32).toNatClampNeg), r9]
    by_cases q : x.toInt < c0 9
    · have y4 := (g0.2.2.1 x.toInt x0 q).1
      rw [if_pos q, q_letE (F_X12_laid X τ x)]
      obtain ⟨τ', c', i1, i2, i3, i4, i5⟩ := gr_in (X := X) (a := a) (τ0 := τ0) g0 hp ⟨x0, q⟩ hv1 (x1 := x) (gm_laid (X := X) (τ := τ) (v := x) rfl ⟨x0, by omega⟩) (F_X12_takes_L2_1 X a v1 fu) ((2147483647 - (0 : Int32).toInt).toNat + 1) 0 τ c (by decide) t hc (by rw [z0]; exact P) (by rw [z0]; exact D) (by decide) (by rw [z0]; omega)
      rw [i1]
      have ex : (x + 1).toInt = x.toInt + 1 := y_inc (by omega)
      exact ih (x + 1) τ' c' (by omega) i2 i3 (by rw [ex]; exact i4) (by rw [ex]; exact i5) (by omega) (by omega)
    · have ex : x.toInt = c0 9 := by omega
      rw [ex] at P D
      rw [if_neg q]
      unfold F_X12_takes_E74_2
      rw [q_letE (q_si τ (q_rf X a 20) (9 : Int32).toNatClampNeg 0)]
      exact ⟨c, by rw [m_c_up 9 (by decide) rfl, hc, z0], t.si _ rfl, P, (D.done g0 hp h7 m_up_e rfl).1⟩
theorem gm_takes (g0 : m_G c) (h7 : c 7 = 0) (hc : m_c X τ a = c) {p : Int} (hp : 0 ≤ p ∧ p < 6) {v1 : Int32} (hv1 : v1.toInt = p) : ∃ c' : Int → Int, m_c X (F_X12_takes X τ a v1) a = m_up c' 9 0 ∧ tkl (fun b _ => b = q_rf X a 20) (fun _ _ => False) τ (F_X12_takes X τ a v1) ∧ gt_c c c' p (c 9) 0 ∧ m_G (m_up c' 9 0) := by
  have z0 : (0 : Int32).toInt = 0 := rfl
  have b9 := g0.1.2.2.2.2.2.2.1
  unfold F_X12_takes
  refine gr_out g0 h7 hp hv1 _ 0 τ c (by decide) tkl.rf hc ?_ (by rw [z0]; exact m_tk.start g0 hp) (by decide) (by rw [z0]; exact b9.1)
  rw [z0]
  refine ⟨fun _ _ _ => rfl, fun d d0 d1 => ?_⟩
  have e1 : m_A c (-1) d (0 : Int).toNat = 0 := rfl
  have e2 : m_K c (94 + 7 * 0) d (0 : Int).toNat = 0 := rfl
  omega
end GH

/-! FROM 49i.doubt.lean.txt -/
/-! A DOUBT: class and reference -/
def gd_nk (c : Int → Int) (k : Int) : Int := if c 3 = 1 then (k - 1) % c 0 else (k + 1) % c 0
/-- what a doubt leaves of the class's game: t takes, P had laid, kd falls, tn is next, W has won, u of P's cards shown were not true -/
def gd_V (V V' : Nat → Int → Int) (t P kd tn W u : Int) : Prop :=
  (∀ (id : Nat) (j : Int), id ≠ 0 → id ≠ 2 → id ≠ 7 → id ≠ 8 → id ≠ 9 → id ≠ 12 → id ≠ 13 → V' id j = V id j) ∧ (V' 0 4 = kd ∧ V' 0 5 = tn ∧ V' 0 6 = W ∧ V' 0 7 = 0) ∧ (V' 2 0 = 0 ∧ V' 2 1 = 0) ∧ (∀ j : Int, ¬ (10 * t ≤ j ∧ j < 10 * t + 10) → V' 7 j = V 7 j) ∧ (∀ d : Int, 0 ≤ d → d < 10 → V' 7 (10 * t + d) = V 7 (10 * t + d) + gq (V 8) d 6) ∧ (∀ j : Int, j ≠ t → V' 9 j = V 9 j) ∧ V' 9 t = m_S (V' 7) (10 * t) 10 ∧ (∀ j : Int, 0 ≤ j → j < 60 → V' 8 j = 0) ∧ ∀ j : Int, V' 12 j = (if j = P then V 12 j + 1 else V 12 j) ∧ V' 13 j = (if j = P then V 13 j + u else V 13 j)
def gd_C (c c' : Int → Int) (t P kd tn W u : Int) : Prop :=
  (∀ j : Int, 0 ≤ j → j ≠ 5 → j ≠ 6 → j ≠ 7 → j ≠ 8 → j ≠ 9 → j ≠ 22 + P → j ≠ 28 + P → ¬ (34 + 10 * t ≤ j ∧ j < 44 + 10 * t) → c' j = c j) ∧ (c' 5 = kd ∧ c' 6 = tn ∧ c' 7 = 0 ∧ c' 8 = W ∧ c' 9 = 0) ∧ c' (22 + P) = c (22 + P) + 1 ∧ c' (28 + P) = c (28 + P) + u ∧ ∀ d : Int, 0 ≤ d → d < 10 → c' (34 + 10 * t + d) = c (34 + 10 * t + d) + m_A c (-1) d (c 9).toNat
theorem rg.doubt {V V' : Nat → Int → Int} {c c' : Int → Int} {t P kd tn W u : Int} (R : rg V c) (hG : m_G c) (hP : 0 ≤ P ∧ P < 6) (ht : 0 ≤ t ∧ t < c 2) (hW : -1 ≤ W) (v : gd_V V V' t P kd tn W u) (r : gd_C c c' t P kd tn W u) : rg V' c' := by
  obtain ⟨b0, b2, b4, b5, b6, b7, b9, b79⟩ := hG.1
  obtain ⟨⟨t1, t2, t3, t4, t5, t6⟩, ⟨s1, s2, s3, s4⟩, hpp, ⟨g1, g2⟩, ⟨l1, l2, l3⟩, ⟨a1, a2⟩⟩ := R
  obtain ⟨P1, ⟨P2, P2b, P2c, P2d⟩, ⟨P3, P3b⟩, P4, P5, P6, P7, P8, P9⟩ := v
  obtain ⟨r1, ⟨r5, r6, r7, r8, r9⟩, r22, r28, rh⟩ := r
  have w : ∀ (id : Nat) (j : Int), id ≠ 0 → id ≠ 2 → id ≠ 7 → id ≠ 8 → id ≠ 9 → id ≠ 12 → id ≠ 13 → V' id j = V id j := P1
  have d : ∀ j : Int, 0 ≤ j → j < 34 → j ≠ 5 → j ≠ 6 → j ≠ 7 → j ≠ 8 → j ≠ 9 → j ≠ 22 + P → j ≠ 28 + P → c' j = c j := fun j j0 j1 j5 j6 j7 j8 j9 j22 j28 => r1 j j0 j5 j6 j7 j8 j9 j22 j28 (by omega)
  have e9 : (c' 9).toNat = 0 := by rw [r9]; rfl
  have qa : ∀ k : Int, 0 ≤ k → k < 10 → gq (V 8) k 6 = m_A c (-1) k (c 9).toNat := by
    intro k k0 k1
    have z := gq_A (c := c) (d := k) (c 9).toNat (fun i i0 i1 => (l3 i i0 (by omega)).2.2.2.1)
    have y0 := a1 0 k (by decide) (by decide) k0 k1
    have y1 := a1 1 k (by decide) (by decide) k0 k1
    have y2 := a1 2 k (by decide) (by decide) k0 k1
    have y3 := a1 3 k (by decide) (by decide) k0 k1
    have y4 := a1 4 k (by decide) (by decide) k0 k1
    have y5 := a1 5 k (by decide) (by decide) k0 k1
    show 0 + V 8 (10 * 0 + k) + V 8 (10 * 1 + k) + V 8 (10 * 2 + k) + V 8 (10 * 3 + k) + V 8 (10 * 4 + k) + V 8 (10 * 5 + k) = _
    omega
  have h7 : ∀ j : Int, 0 ≤ j → j < 60 → V' 7 j = c' (34 + j) := by
    intro j j0 j1
    by_cases e : 10 * t ≤ j ∧ j < 10 * t + 10
    · obtain ⟨q, hq⟩ : ∃ q, q = j - 10 * t := ⟨_, rfl⟩
      have ej : j = 10 * t + q := by omega
      subst ej
      have ec : (34 : Int) + (10 * t + q) = 34 + 10 * t + q := by omega
      have gg := g1 (10 * t + q) j0 j1
      rw [ec] at gg
      rw [ec, P5 q (by omega) (by omega), rh q (by omega) (by omega), gg, qa q (by omega) (by omega)]
    · rw [P4 j e, r1 _ (by omega) (by omega) (by omega) (by omega) (by omega) (by omega) (by omega) (by omega) (by omega)]
      exact g1 j j0 j1
  refine ⟨⟨?_, ?_, ?_, ?_, ?_, ?_⟩, ⟨?_, ?_, ?_, ?_⟩, fun q q0 q1 => ⟨?_, ?_, ?_, ?_⟩, ⟨h7, fun q q0 q1 => ?_⟩, ⟨?_, ?_, fun k k0 k1 => by omega⟩, ⟨fun q k q0 q1 k0 k1 => ?_, fun k k0 k1 => ?_⟩⟩
  · rw [w 1 0 (by decide) (by decide) (by decide) (by decide) (by decide) (by decide) (by decide), d 0 (by decide) (by decide) (by decide) (by decide) (by decide) (by decide) (by decide) (by omega) (by omega)]; exact t1
  · rw [w 1 1 (by decide) (by decide) (by decide) (by decide) (by decide) (by decide) (by decide), d 1 (by decide) (by decide) (by decide) (by decide) (by decide) (by decide) (by decide) (by omega) (by omega)]; exact t2
  · rw [w 1 2 (by decide) (by decide) (by decide) (by decide) (by decide) (by decide) (by decide), d 3 (by decide) (by decide) (by decide) (by decide) (by decide) (by decide) (by decide) (by omega) (by omega)]; exact t3
  · rw [w 1 3 (by decide) (by decide) (by decide) (by decide) (by decide) (by decide) (by decide), d 4 (by decide) (by decide) (by decide) (by decide) (by decide) (by decide) (by decide) (by omega) (by omega)]; exact t4
  · rw [w 1 4 (by decide) (by decide) (by decide) (by decide) (by decide) (by decide) (by decide), d 2 (by decide) (by decide) (by decide) (by decide) (by decide) (by decide) (by decide) (by omega) (by omega)]; exact t5
  · rw [d 3 (by decide) (by decide) (by decide) (by decide) (by decide) (by decide) (by decide) (by omega) (by omega)]; exact t6
  · rw [P2, r5]
  · rw [P2b, r6, d 2 (by decide) (by decide) (by decide) (by decide) (by decide) (by decide) (by decide) (by omega) (by omega), if_neg (by omega)]
  · rw [P2c, r8]; exact ⟨rfl, hW⟩
  · rw [P2d, r7]
  · rw [w 10 q (by decide) (by decide) (by decide) (by decide) (by decide) (by decide) (by decide), d _ (by omega) (by omega) (by omega) (by omega) (by omega) (by omega) (by omega) (by omega) (by omega)]; exact (hpp q q0 q1).1
  · rw [w 11 q (by decide) (by decide) (by decide) (by decide) (by decide) (by decide) (by decide), d _ (by omega) (by omega) (by omega) (by omega) (by omega) (by omega) (by omega) (by omega) (by omega)]; exact (hpp q q0 q1).2.1
  · rw [(P9 q).1]
    by_cases e : q = P
    · rw [if_pos e, e, r22, (hpp P hP.1 hP.2).2.2.1]
    · rw [if_neg e, d _ (by omega) (by omega) (by omega) (by omega) (by omega) (by omega) (by omega) (by omega) (by omega)]; exact (hpp q q0 q1).2.2.1
  · rw [(P9 q).2]
    by_cases e : q = P
    · rw [if_pos e, e, r28, (hpp P hP.1 hP.2).2.2.2]
    · rw [if_neg e, d _ (by omega) (by omega) (by omega) (by omega) (by omega) (by omega) (by omega) (by omega) (by omega)]; exact (hpp q q0 q1).2.2.2
  · by_cases e : q = t
    · rw [e, P7]
      have sh : ∀ n : Nat, n ≤ 10 → m_S (V' 7) (10 * t) n = m_S c' (34 + 10 * t) n := by
        intro n
        induction n with
        | zero => intro _; rfl
        | succ n ih =>
          intro hn
          show m_S (V' 7) (10 * t) n + V' 7 (10 * t + (n : Int)) = m_S c' (34 + 10 * t) n + c' (34 + 10 * t + (n : Int))
          rw [ih (by omega), h7 _ (by omega) (by omega)]
          have ec : (34 : Int) + (10 * t + (n : Int)) = 34 + 10 * t + (n : Int) := by omega
          rw [ec]
      exact sh 10 (Nat.le_refl 10)
    · rw [P6 q e, g2 q q0 q1]
      exact (m_S_ext (fun j x y => r1 j (by omega) (by omega) (by omega) (by omega) (by omega) (by omega) (by omega) (by omega) (by omega))).symm
  · rw [P3, r9]
  · rw [P3b, e9]; rfl
  · rw [P8 _ (by omega) (by omega), e9]; rfl
  · rw [w 4 k (by decide) (by decide) (by decide) (by decide) (by decide) (by decide) (by decide), a2 k k0 k1]
    unfold m_I
    have pp : m_P c' k (c 2).toNat = m_P c k (c 2).toNat - (if t < (((c 2).toNat : Nat) : Int) then -(m_A c (-1) k (c 9).toNat) else 0) := gl_P (l := fun d => -(m_A c (-1) d (c 9).toNat)) ht.1 (by rw [rh k k0 k1]; omega) (fun q q0 q1 q2 => r1 _ (by omega) (by omega) (by omega) (by omega) (by omega) (by omega) (by omega) (by omega) (by omega)) (c 2).toNat (by omega)
    rw [if_pos (by omega)] at pp
    have m0 : m_A c' (-1) k 0 = 0 := rfl
    rw [e9, d 2 (by decide) (by decide) (by decide) (by decide) (by decide) (by decide) (by decide) (by omega) (by omega), pp, m0]
    omega
section GI
variable {X : XW} {lb : Nat → Nat} {g o a : Nat} {σ τ σ0 τ0 : ST} {V V0 : Nat → Int → Int} {c c0 : Int → Int}
theorem gm_kindDoubt (w : y_W X lb g o σ0 σ V) (t0 : V 1 0 = c 0) (t2 : V 1 2 = c 3) (h0 : 2 ≤ c 0 ∧ c 0 ≤ 10) {x : Int32} {k : Int} (hx : x.toInt = k) (hk : 0 ≤ k ∧ k < c 0) : (F_X6_kindAfterDoubt X σ (q_rf X g 0) x).toInt = gd_nk c k := by
  have one : (1 : Int32).toInt = 1 := rfl
  have e2 : (σ.1 (q_rf X g 0) 2).toInt = c 3 := (w.rd (id := 1) (by decide) 2 rfl).trans t2
  have e0 : (σ.1 (q_rf X g 0) 0).toInt = c 0 := (w.rd (id := 1) (by decide) 0 rfl).trans t0
  unfold F_X6_kindAfterDoubt gd_nk
  rw [q_letE (σ.1 (q_rf X g 0) 0), e0, if_pos (by omega : 0 < c 0), q_letE (σ.1 (q_rf X g 0) 2), e2]
  by_cases q : c 3 = 1
  · rw [if_pos q, if_pos q, q_letE, q_letE, q_letE]
    exact gm_fm (by rw [ar_sub, hx, one, ar_wr (by omega) (by omega)]) e0 ⟨by omega, by omega⟩ ⟨by omega, by omega⟩
  · rw [if_neg q, if_neg q, q_letE, q_letE, q_letE]
    exact gm_fm (by rw [ar_add, hx, one, ar_wr (by omega) (by omega)]) e0 ⟨by omega, by omega⟩ ⟨by omega, by omega⟩
theorem gm_nextKind0 (hc : m_c X τ a = c) (h0 : 2 ≤ c 0 ∧ c 0 ≤ 10) (h5 : 0 ≤ c 5 ∧ c 5 < c 0) : (F_X12_nextKind X τ a 0).toInt = gd_nk c (c 5) := by
  have one : (1 : Int32).toInt = 1 := rfl
  have r0 : (τ.1 (q_rf X a 20) (0 : Int32).toNatClampNeg).toInt = c 0 := gm_cell hc rfl
  have r3 : (τ.1 (q_rf X a 20) (3 : Int32).toNatClampNeg).toInt = c 3 := gm_cell hc rfl
  have r5 : (τ.1 (q_rf X a 20) (5 : Int32).toNatClampNeg).toInt = c 5 := gm_cell hc rfl
  have rm : ∀ (x : Int32) (k : Int), x.toInt = k → 0 ≤ k → (x % τ.1 (q_rf X a 20) (0 : Int32).toNatClampNeg).toInt = k % c 0 := by
    intro x k hx h0'
    rw [Int32.toInt_mod, hx, r0, Int.tmod_eq_emod_of_nonneg h0']
  unfold F_X12_nextKind gd_nk
  rw [q_letE (τ.1 (q_rf X a 20) (0 : Int32).toNatClampNeg), q_letE (τ.1 (q_rf X a 20) (3 : Int32).toNatClampNeg), r3]
  by_cases q0 : c 3 = 0
  · rw [if_pos q0, if_neg (by omega), q_letE, q_letE, q_letE]
    exact rm _ _ (by rw [ar_add, r5, one, ar_wr (by omega) (by omega)]) (by omega)
  · rw [if_neg q0, q_letE (τ.1 (q_rf X a 20) (3 : Int32).toNatClampNeg), r3]
    by_cases q1 : c 3 = 1
    · rw [if_pos q1, q_letE (τ.1 (q_rf X a 20) (3 : Int32).toNatClampNeg), r3, if_pos q1, if_pos q1, q_letE, q_letE, q_letE, q_letE]
      rw [rm _ (c 5 + c 0 - 1) (by rw [ar_sub, ar_add, r5, r0, one, ar_wr (n := c 5 + c 0) (by omega) (by omega), ar_wr (by omega) (by omega)]) (by omega)]
      exact gm_back
    · rw [if_neg q1, if_neg q1, if_pos (by decide), q_letE, q_letE, q_letE]
      exact rm _ _ (by rw [ar_add, r5, one, ar_wr (by omega) (by omega)]) (by omega)
/-- behind the cards shown: the class -/
theorem gd_tail (Y : y_S X lb) (G : y_G X lb g o) (w : y_W X lb g o σ0 τ V) {t tn k : Int} (H : gt_p V t) {x4 x5 : Int32} (h4 : x4.toInt = t) (h5 : x5.toInt = tn) (t0 : V 1 0 = c 0) (t2 : V 1 2 = c 3) (h0 : 2 ≤ c 0 ∧ c 0 ≤ 10) (v4 : V 0 4 = k) (hk : 0 ≤ k ∧ k < c 0) :
    ∃ (σ' : ST) (V' VT : Nat → Int → Int), q_let (F_X1_takeHeap X τ (q_rf X g 1) x4 : ST) (fun σ_16 => q_let (F_X2_clear X σ_16 (q_rf X g 2) : ST) (fun σ_18 => q_let (q_si σ_18 g 7 (0 : Int32) : ST) (fun σ_19 => q_let (σ_19.1 g 4 : Int32) (fun f_20 => q_let (F_X6_kindAfterDoubt X σ_19 (q_rf X g 0) f_20 : Int32) (fun r_21 => q_let (q_si σ_19 g 4 r_21 : ST) (fun σ_23 => q_let (q_si σ_23 g 5 x5 : ST) (fun σ_24 => (x4, σ_24)))))))) = (x4, σ') ∧ y_W X lb g o σ0 σ' V' ∧ gt_V V VT t ∧ V' = y_up (y_up (y_up (y_up (y_up VT 2 0 0) 2 1 0) 0 7 0) 0 4 (gd_nk c k)) 0 5 tn := by
  have z0 : (0 : Int32).toInt = 0 := rfl
  obtain ⟨VT, w1, P⟩ := gm_takeHeap Y G w H h4
  rw [q_letE (F_X1_takeHeap X τ (q_rf X g 1) x4)]
  obtain ⟨τ1, e1⟩ : ∃ s, s = F_X1_takeHeap X τ (q_rf X g 1) x4 := ⟨_, rfl⟩
  rw [← e1] at w1 ⊢
  have d2 : F_X2_clear X τ1 (q_rf X g 2) = q_si (q_si τ1 (q_rf X g 2) 0 0) (q_rf X g 2) 1 0 := by
    unfold F_X2_clear
    rw [q_letE, q_letE]
  have w2 : y_W X lb g o σ0 (q_si τ1 (q_rf X g 2) 0 0) (y_up VT 2 0 0) := w1.si Y G (id := 2) (by decide) 0 0
  have w3 : y_W X lb g o σ0 (q_si (q_si τ1 (q_rf X g 2) 0 0) (q_rf X g 2) 1 0) (y_up (y_up VT 2 0 0) 2 1 0) := w2.si Y G (id := 2) (by decide) 1 0
  rw [← d2] at w3
  rw [q_letE (F_X2_clear X τ1 (q_rf X g 2))]
  obtain ⟨τ2, e2⟩ : ∃ s, s = F_X2_clear X τ1 (q_rf X g 2) := ⟨_, rfl⟩
  rw [← e2] at w3 ⊢
  have w4 : y_W X lb g o σ0 (q_si τ2 g 7 0) (y_up (y_up (y_up VT 2 0 0) 2 1 0) 0 7 0) := w3.si Y G (id := 0) (by decide) 7 0
  rw [q_letE (q_si τ2 g 7 0)]
  obtain ⟨τ3, e3⟩ : ∃ s, s = q_si τ2 g 7 0 := ⟨_, rfl⟩
  rw [← e3] at w4 ⊢
  have u : ∀ (id : Nat) (j : Int), id ≠ 2 → (id ≠ 0 ∨ j ≠ 7) → id ≠ 7 → id ≠ 8 → id ≠ 9 → y_up (y_up (y_up VT 2 0 0) 2 1 0) 0 7 0 id j = V id j := fun id j i2 i0 i7 i8 i9 => by
    rw [y_up_ne i0, y_up_ne (Or.inl i2), y_up_ne (Or.inl i2)]
    exact P.1 id j i7 i8 i9
  have f4 : (τ3.1 g 4).toInt = k := (w4.rd (id := 0) (by decide) 4 rfl).trans ((u 0 4 (by decide) (Or.inr (by decide)) (by decide) (by decide) (by decide)).trans v4)
  have kd := gm_kindDoubt (c := c) w4 ((u 1 0 (by decide) (Or.inl (by decide)) (by decide) (by decide) (by decide)).trans t0) ((u 1 2 (by decide) (Or.inl (by decide)) (by decide) (by decide) (by decide)).trans t2) h0 f4 hk
  rw [q_letE (τ3.1 g 4), q_letE (F_X6_kindAfterDoubt X τ3 (q_rf X g 0) (τ3.1 g 4))]
  obtain ⟨r, hr⟩ : ∃ r, r = F_X6_kindAfterDoubt X τ3 (q_rf X g 0) (τ3.1 g 4) := ⟨_, rfl⟩
  rw [← hr] at kd ⊢
  have w5 : y_W X lb g o σ0 (q_si τ3 g 4 r) (y_up (y_up (y_up (y_up VT 2 0 0) 2 1 0) 0 7 0) 0 4 r.toInt) := w4.si Y G (id := 0) (by decide) 4 r
  rw [kd] at w5
  rw [q_letE (q_si τ3 g 4 r)]
  obtain ⟨τ4, e4⟩ : ∃ s, s = q_si τ3 g 4 r := ⟨_, rfl⟩
  rw [← e4] at w5 ⊢
  have w6 : y_W X lb g o σ0 (q_si τ4 g 5 x5) (y_up (y_up (y_up (y_up (y_up VT 2 0 0) 2 1 0) 0 7 0) 0 4 (gd_nk c k)) 0 5 x5.toInt) := w5.si Y G (id := 0) (by decide) 5 x5
  rw [h5] at w6
  rw [q_letE (q_si τ4 g 5 x5)]
  exact ⟨_, _, VT, rfl, w6, P, rfl⟩
/-- a doubt in the class's game -/
theorem gm_challenge (Y : y_S X lb) (G : y_G X lb g o) (w : y_W X lb g o σ0 τ V) (R : rg V c) (hG : m_G c) (h7 : c 7 = 1) (hW : ∀ q : Int, 0 ≤ q → q < 6 → (0 ≤ c (22 + q) ∧ c (22 + q) ≤ 1000000) ∧ 0 ≤ c (28 + q) ∧ c (28 + q) ≤ 1000000) {v1 : Int32} {q : Int} (hv : v1.toInt = q) (hq : 0 ≤ q ∧ q < c 2) {s : Int} (hs : (F_X2_topTruth X τ (q_rf X g 2)).toInt = s) :
    ∃ (z : Int32) (σ' : ST) (V' : Nat → Int → Int), F_X0_challenge X τ g v1 = (z, σ') ∧ z.toInt = (if s = 0 then q else c 6) ∧ y_W X lb g o σ0 σ' V' ∧ gd_V V V' (if s = 0 then q else c 6) (c 6) (gd_nk c (c 5)) (if s = 0 then c 6 else q) (if s = 0 then (if m_S c (34 + 10 * c 6) 10 = 0 then c 6 else c 8) else c 8) (if s = 0 then 0 else 1) := by
  obtain ⟨b0, b2, b4, b5, b6, b7, b9, b79⟩ := hG.1
  have pr : 0 ≤ c 6 ∧ c 6 < c 2 := by omega
  obtain ⟨P, hP⟩ : ∃ P, P = c 6 := ⟨_, rfl⟩
  rw [← hP] at pr ⊢
  have R' := R
  obtain ⟨⟨t1, t2, t3, t4, t5, t6⟩, ⟨s1, s2, s3, s4⟩, hpp, ⟨g1, g2⟩, ⟨l1, l2, l3⟩, ⟨a1, a2⟩⟩ := R'
  have n2 : ¬ c 2 = 0 := by omega
  rw [if_neg n2, ← hP] at s2
  have z0 : (0 : Int32).toInt = 0 := rfl
  have one : (1 : Int32).toInt = 1 := rfl
  have gn12 : ((y_gn 12 : Nat) : Int) = 6 := rfl
  have gn13 : ((y_gn 13 : Nat) : Int) = 6 := rfl
  have hw := hW P pr.1 (by omega)
  have v12 : V 12 P = c (22 + P) := (hpp P pr.1 (by omega)).2.2.1
  have v13 : V 13 P = c (28 + P) := (hpp P pr.1 (by omega)).2.2.2
  -- who takes: bounds of the rows
  have gtp : ∀ (V1 : Nat → Int → Int) (t : Int), 0 ≤ t → t < 6 → (∀ j, V1 7 j = V 7 j) → (∀ j, V1 8 j = V 8 j) → (∀ j, V1 9 j = V 9 j) → gt_p V1 t := by
    intro V1 t h0 h1 e7 e8 e9
    have sh : ∀ n : Nat, n ≤ 10 → m_S (V1 7) (10 * t) n = m_S c (34 + 10 * t) n := by
      intro n
      induction n with
      | zero => intro _; rfl
      | succ n ih =>
        intro hn
        show m_S (V1 7) (10 * t) n + V1 7 (10 * t + (n : Int)) = m_S c (34 + 10 * t) n + c (34 + 10 * t + (n : Int))
        have ec : (34 : Int) + (10 * t + (n : Int)) = 34 + 10 * t + (n : Int) := by omega
        rw [ih (by omega), e7, g1 _ (by omega) (by omega), ec]
    have s80 := hG.S80 (p := t) (k := 10) h0 h1 (by decide) (by decide)
    have z10 : m_S c (34 + 10 * t) (10 : Int).toNat = m_S c (34 + 10 * t) 10 := rfl
    refine ⟨⟨h0, h1⟩, fun j j0 j1 => ⟨?_, ?_⟩, ?_, ?_⟩
    · rw [e7, g1 j j0 j1]
      have hh := hG.h80 (p := j / 10) (k := j % 10) (by omega) (by omega) (by omega) (by omega)
      have ej : 34 + 10 * (j / 10) + j % 10 = 34 + j := by omega
      rw [ej] at hh
      exact hh
    · rw [e8]
      have ej : 10 * (j / 10) + j % 10 = j := by omega
      have y := a1 (j / 10) (j % 10) (by omega) (by omega) (by omega) (by omega)
      rw [ej] at y
      have ab := hG.A_bd (j / 10) (j % 10) (c 9).toNat (by omega)
      have lb := hG.L80 b9.1 (Int.le_refl (c 9))
      rw [y]
      omega
    · rw [e9, g2 t h0 h1]
      exact (sh 10 (Nat.le_refl 10)).symm
    · rw [e9, g2 t h0 h1]
      omega
  -- turn and cards shown
  have f5 : (τ.1 g 5).toInt = P := (w.rd (id := 0) (by decide) 5 rfl).trans s2
  have w1 := w.add Y G (id := 12) (r := q_rf X (q_rf X g 1) 5) ⟨by decide, by decide⟩ rfl (τ.1 g 5) 1 (by omega) (by rw [gn12]; omega)
  rw [f5, one, ar_wr (by omega) (by omega)] at w1
  unfold F_X0_challenge
  rw [q_letE (F_X2_topTruth X τ (q_rf X g 2)), hs]
  by_cases hs0 : s = 0
  · rw [if_pos hs0, if_pos hs0, if_pos hs0, if_pos hs0, if_pos hs0]
    unfold F_X0_challenge_J15_1
    rw [if_neg (by decide : ¬ (1 : Int32).toInt = 0)]
    unfold F_X0_challenge_J28_2
    rw [if_neg (by decide : ¬ (1 : Int32).toInt = 0), q_letE (τ.1 g 5)]
    unfold F_X0_challenge_J41_3
    rw [q_letE (τ.1 g 5), q_letE (F_X5_add X τ (q_rf X (q_rf X g 1) 5) (τ.1 g 5) 1), if_neg (by decide : ¬ (1 : Int32).toInt = 0)]
    obtain ⟨τ1, e1⟩ : ∃ s, s = F_X5_add X τ (q_rf X (q_rf X g 1) 5) (τ.1 g 5) 1 := ⟨_, rfl⟩
    rw [← e1] at w1 ⊢
    have w2 := gm_winIfRid Y G w1 (p := P) ((y_up_ne (Or.inl (by decide))).trans s2) ⟨pr.1, by omega⟩
    have r9 : y_up V 12 P (V 12 P + 1) 9 P = m_S c (34 + 10 * P) 10 := (y_up_ne (Or.inl (by decide))).trans (g2 P pr.1 (by omega))
    have r6 : y_up V 12 P (V 12 P + 1) 0 6 = c 8 := (y_up_ne (Or.inl (by decide))).trans s3.1
    rw [r9, r6] at w2
    obtain ⟨W, hWn⟩ : ∃ W : Int, W = (if m_S c (34 + 10 * P) 10 = 0 then P else c 8) := ⟨_, rfl⟩
    rw [← hWn] at w2 ⊢
    rw [q_letE (F_X0_winIfRid X τ1 g)]
    obtain ⟨τ2, e2⟩ : ∃ s, s = F_X0_winIfRid X τ1 g := ⟨_, rfl⟩
    rw [← e2] at w2 ⊢
    obtain ⟨V1, hV1⟩ : ∃ v, v = y_up (y_up V 12 P (V 12 P + 1)) 0 6 W := ⟨_, rfl⟩
    rw [← hV1] at w2
    have u : ∀ (id : Nat) (j : Int), id ≠ 12 → (id ≠ 0 ∨ j ≠ 6) → V1 id j = V id j := fun id j i12 i0 => by
      rw [hV1, y_up_ne i0, y_up_ne (Or.inl i12)]
    obtain ⟨σ', V', VT, x1, x2, x3, x4⟩ := gd_tail (c := c) Y G w2 (t := q) (tn := P) (gtp V1 q hq.1 (by omega) (fun j => u 7 j (by decide) (Or.inl (by decide))) (fun j => u 8 j (by decide) (Or.inl (by decide))) (fun j => u 9 j (by decide) (Or.inl (by decide)))) (x4 := v1) (x5 := τ.1 g 5) hv f5 ((u 1 0 (by decide) (Or.inl (by decide))).trans t1) ((u 1 2 (by decide) (Or.inl (by decide))).trans t3) b0 ((u 0 4 (by decide) (Or.inr (by decide))).trans s1) b5
    refine ⟨v1, σ', V', x1, hv, x2, ?_⟩
    obtain ⟨y1, y2, y3, y4, y5, y6⟩ := x3
    have k : ∀ (id : Nat) (j : Int), id ≠ 0 → id ≠ 2 → V' id j = VT id j := fun id j i0 i2 => by
      rw [x4, y_up_ne (Or.inl i0), y_up_ne (Or.inl i0), y_up_ne (Or.inl i0), y_up_ne (Or.inl i2), y_up_ne (Or.inl i2)]
    have k7 : V' 7 = VT 7 := funext (fun j => k 7 j (by decide) (by decide))
    have k8 : V1 8 = V 8 := funext (fun j => u 8 j (by decide) (Or.inl (by decide)))
    refine ⟨fun id j i0 i2 i7 i8 i9 i12 i13 => ?_, ⟨?_, ?_, ?_, ?_⟩, ⟨?_, ?_⟩, fun j hj => ?_, fun d d0 d1 => ?_, fun j hj => ?_, ?_, fun j j0 j1 => ?_, fun j => ⟨?_, ?_⟩⟩
    · rw [k id j i0 i2, y1 id j i7 i8 i9]; exact u id j i12 (Or.inl i0)
    · rw [x4, y_up_ne (Or.inr (by decide)), y_up_eq]
    · rw [x4, y_up_eq]
    · rw [x4, y_up_ne (Or.inr (by decide)), y_up_ne (Or.inr (by decide)), y_up_ne (Or.inr (by decide)), y_up_ne (Or.inl (by decide)), y_up_ne (Or.inl (by decide)), y1 0 6 (by decide) (by decide) (by decide), hV1, y_up_eq]
    · rw [x4, y_up_ne (Or.inr (by decide)), y_up_ne (Or.inr (by decide)), y_up_eq]
    · rw [x4, y_up_ne (Or.inl (by decide)), y_up_ne (Or.inl (by decide)), y_up_ne (Or.inl (by decide)), y_up_ne (Or.inr (by decide)), y_up_eq]
    · rw [x4, y_up_ne (Or.inl (by decide)), y_up_ne (Or.inl (by decide)), y_up_ne (Or.inl (by decide)), y_up_eq]
    · rw [k7, y2 j hj]; exact u 7 j (by decide) (Or.inl (by decide))
    · rw [k7, y3 d d0 d1, k8, u 7 _ (by decide) (Or.inl (by decide))]
    · rw [k 9 j (by decide) (by decide), y4 j hj]; exact u 9 j (by decide) (Or.inl (by decide))
    · rw [k 9 q (by decide) (by decide), y5, k7]
    · rw [k 8 j (by decide) (by decide)]; exact y6 j j0 j1
    · rw [k 12 j (by decide) (by decide), y1 12 j (by decide) (by decide) (by decide), hV1, y_up_ne (Or.inl (by decide))]
      by_cases e : j = P
      · rw [if_pos e, e, y_up_eq]
      · rw [if_neg e, y_up_ne (Or.inr e)]
    · rw [k 13 j (by decide) (by decide), y1 13 j (by decide) (by decide) (by decide), u 13 j (by decide) (Or.inl (by decide))]
      split <;> omega
  · rw [if_neg hs0, if_neg hs0, if_neg hs0, if_neg hs0, if_neg hs0]
    unfold F_X0_challenge_J15_1
    rw [if_pos (by decide : (0 : Int32).toInt = 0), q_letE (τ.1 g 5)]
    unfold F_X0_challenge_J28_2
    rw [if_pos (by decide : (0 : Int32).toInt = 0)]
    unfold F_X0_challenge_J41_3
    rw [q_letE (τ.1 g 5), q_letE (F_X5_add X τ (q_rf X (q_rf X g 1) 5) (τ.1 g 5) 1), if_pos (by decide : (0 : Int32).toInt = 0)]
    obtain ⟨τ1, e1⟩ : ∃ s, s = F_X5_add X τ (q_rf X (q_rf X g 1) 5) (τ.1 g 5) 1 := ⟨_, rfl⟩
    rw [← e1] at w1 ⊢
    have f11 : (τ1.1 g 5).toInt = P := (w1.rd (id := 0) (by decide) 5 rfl).trans ((y_up_ne (Or.inl (by decide))).trans s2)
    have w2 := w1.add Y G (id := 13) (r := q_rf X (q_rf X g 1) 6) ⟨by decide, by decide⟩ rfl (τ1.1 g 5) 1 (by omega) (by rw [gn13]; omega)
    rw [f11, one, y_up_ne (Or.inl (by decide)), ar_wr (by omega) (by omega)] at w2
    rw [q_letE (τ1.1 g 5), q_letE (F_X5_add X τ1 (q_rf X (q_rf X g 1) 6) (τ1.1 g 5) 1)]
    obtain ⟨τ2, e2⟩ : ∃ s, s = F_X5_add X τ1 (q_rf X (q_rf X g 1) 6) (τ1.1 g 5) 1 := ⟨_, rfl⟩
    rw [← e2] at w2 ⊢
    obtain ⟨V1, hV1⟩ : ∃ v, v = y_up (y_up V 12 P (V 12 P + 1)) 13 P (V 13 P + 1) := ⟨_, rfl⟩
    rw [← hV1] at w2
    have u : ∀ (id : Nat) (j : Int), id ≠ 12 → id ≠ 13 → V1 id j = V id j := fun id j i12 i13 => by
      rw [hV1, y_up_ne (Or.inl i13), y_up_ne (Or.inl i12)]
    obtain ⟨σ', V', VT, x1, x2, x3, x4⟩ := gd_tail (c := c) Y G w2 (t := P) (tn := q) (gtp V1 P pr.1 (by omega) (fun j => u 7 j (by decide) (by decide)) (fun j => u 8 j (by decide) (by decide)) (fun j => u 9 j (by decide) (by decide))) (x4 := τ.1 g 5) (x5 := v1) f5 hv ((u 1 0 (by decide) (by decide)).trans t1) ((u 1 2 (by decide) (by decide)).trans t3) b0 ((u 0 4 (by decide) (by decide)).trans s1) b5
    refine ⟨τ.1 g 5, σ', V', x1, f5, x2, ?_⟩
    obtain ⟨y1, y2, y3, y4, y5, y6⟩ := x3
    have k : ∀ (id : Nat) (j : Int), id ≠ 0 → id ≠ 2 → V' id j = VT id j := fun id j i0 i2 => by
      rw [x4, y_up_ne (Or.inl i0), y_up_ne (Or.inl i0), y_up_ne (Or.inl i0), y_up_ne (Or.inl i2), y_up_ne (Or.inl i2)]
    have k7 : V' 7 = VT 7 := funext (fun j => k 7 j (by decide) (by decide))
    have k8 : V1 8 = V 8 := funext (fun j => u 8 j (by decide) (by decide))
    refine ⟨fun id j i0 i2 i7 i8 i9 i12 i13 => ?_, ⟨?_, ?_, ?_, ?_⟩, ⟨?_, ?_⟩, fun j hj => ?_, fun d d0 d1 => ?_, fun j hj => ?_, ?_, fun j j0 j1 => ?_, fun j => ⟨?_, ?_⟩⟩
    · rw [k id j i0 i2, y1 id j i7 i8 i9]; exact u id j i12 i13
    · rw [x4, y_up_ne (Or.inr (by decide)), y_up_eq]
    · rw [x4, y_up_eq]
    · rw [x4, y_up_ne (Or.inr (by decide)), y_up_ne (Or.inr (by decide)), y_up_ne (Or.inr (by decide)), y_up_ne (Or.inl (by decide)), y_up_ne (Or.inl (by decide)), y1 0 6 (by decide) (by decide) (by decide), u 0 6 (by decide) (by decide)]
      exact s3.1
    · rw [x4, y_up_ne (Or.inr (by decide)), y_up_ne (Or.inr (by decide)), y_up_eq]
    · rw [x4, y_up_ne (Or.inl (by decide)), y_up_ne (Or.inl (by decide)), y_up_ne (Or.inl (by decide)), y_up_ne (Or.inr (by decide)), y_up_eq]
    · rw [x4, y_up_ne (Or.inl (by decide)), y_up_ne (Or.inl (by decide)), y_up_ne (Or.inl (by decide)), y_up_eq]
    · rw [k7, y2 j hj]; exact u 7 j (by decide) (by decide)
    · rw [k7, y3 d d0 d1, k8, u 7 _ (by decide) (by decide)]
    · rw [k 9 j (by decide) (by decide), y4 j hj]; exact u 9 j (by decide) (by decide)
    · rw [k 9 P (by decide) (by decide), y5, k7]
    · rw [k 8 j (by decide) (by decide)]; exact y6 j j0 j1
    · rw [k 12 j (by decide) (by decide), y1 12 j (by decide) (by decide) (by decide), hV1, y_up_ne (Or.inl (by decide))]
      by_cases e : j = P
      · rw [if_pos e, e, y_up_eq]
      · rw [if_neg e, y_up_ne (Or.inr e)]
    · rw [k 13 j (by decide) (by decide), y1 13 j (by decide) (by decide) (by decide), hV1]
      by_cases e : j = P
      · rw [if_pos e, e, y_up_eq]
      · rw [if_neg e, y_up_ne (Or.inr e), y_up_ne (Or.inl (by decide))]
end GI

/-! FROM 49j.doubts.lean.txt -/
/-! A DOUBT: the reference, both -/
section GJ
variable {X : XW} {lb : Nat → Nat} {g o a : Nat} {σ τ σ0 τ0 : ST} {V V0 : Nat → Int → Int} {c c0 : Int → Int}
theorem gdr_tail (hG : m_G c) (h7 : c 7 = 0) (hc : m_c X τ a = c) {x y : Int32} {t tn : Int} (hx : x.toInt = t) (ht : 0 ≤ t ∧ t < c 2) (hy : y.toInt = tn) (htn : 0 ≤ tn ∧ tn < c 2) : ∃ ct : Int → Int, m_c X (q_si (q_si (F_X12_takes X τ a x) (q_rf X a 20) (5 : Int32).toNatClampNeg (F_X12_nextKind X (F_X12_takes X τ a x) a 0)) (q_rf X a 20) (6 : Int32).toNatClampNeg y) a = m_up (m_up (m_up ct 9 0) 5 (gd_nk c (c 5))) 6 tn ∧ tkl (fun b _ => b = q_rf X a 20) (fun _ _ => False) τ (q_si (q_si (F_X12_takes X τ a x) (q_rf X a 20) (5 : Int32).toNatClampNeg (F_X12_nextKind X (F_X12_takes X τ a x) a 0)) (q_rf X a 20) (6 : Int32).toNatClampNeg y) ∧ gt_c c ct t (c 9) 0 ∧ m_G (m_up (m_up (m_up ct 9 0) 5 (gd_nk c (c 5))) 6 tn) := by
  obtain ⟨b0, b2, b4, b5, b6, b7, b9, b79⟩ := hG.1
  obtain ⟨ct, i1, i2, i3, i4⟩ := gm_takes (X := X) (τ := τ) (a := a) hG h7 hc ⟨ht.1, by omega⟩ hx
  obtain ⟨τ1, e1⟩ : ∃ s, s = F_X12_takes X τ a x := ⟨_, rfl⟩
  rw [← e1] at i1 i2 ⊢
  have d : ∀ j : Int, 0 ≤ j → j < 9 → m_up ct 9 0 j = c j := fun j j0 j1 => by rw [m_up_ne (by omega)]; exact i3.1 j j0 (by omega)
  have nk := gm_nextKind0 i1 (by rw [d 0 (by decide) (by decide)]; exact b0) (by rw [d 5 (by decide) (by decide), d 0 (by decide) (by decide)]; exact b5)
  have ek : gd_nk (m_up ct 9 0) (m_up ct 9 0 5) = gd_nk c (c 5) := by
    unfold gd_nk
    rw [d 3 (by decide) (by decide), d 5 (by decide) (by decide), d 0 (by decide) (by decide)]
  rw [ek] at nk
  have kb : 0 ≤ gd_nk c (c 5) ∧ gd_nk c (c 5) < c 0 := by
    unfold gd_nk
    split
    · exact ⟨Int.emod_nonneg _ (by omega), Int.emod_lt_of_pos _ (by omega)⟩
    · exact ⟨Int.emod_nonneg _ (by omega), Int.emod_lt_of_pos _ (by omega)⟩
  have c2 : m_c X (q_si τ1 (q_rf X a 20) (5 : Int32).toNatClampNeg (F_X12_nextKind X τ1 a 0)) a = m_up (m_up ct 9 0) 5 (gd_nk c (c 5)) := by
    rw [m_c_up 5 (by decide) rfl, i1, nk]
  have t2 : tkl (fun b _ => b = q_rf X a 20) (fun _ _ => False) τ (q_si τ1 (q_rf X a 20) (5 : Int32).toNatClampNeg (F_X12_nextKind X τ1 a 0)) := i2.si _ rfl
  have g2 : m_G (m_up (m_up ct 9 0) 5 (gd_nk c (c 5))) := i4.wr m_up_e (by rw [d 0 (by decide) (by decide)]; omega)
  have g3 : m_G (m_up (m_up (m_up ct 9 0) 5 (gd_nk c (c 5))) 6 tn) := g2.wr m_up_e (by
    have q2 : m_up (m_up ct 9 0) 5 (gd_nk c (c 5)) 2 = c 2 := (m_up_ne (by decide)).trans (d 2 (by decide) (by decide))
    have q7 : m_up (m_up ct 9 0) 5 (gd_nk c (c 5)) 7 = c 7 := (m_up_ne (by decide)).trans (d 7 (by decide) (by decide))
    rw [q2, q7]
    omega)
  refine ⟨ct, ?_, t2.si _ rfl, i3, g3⟩
  rw [m_c_up 6 (by decide) rfl, c2, hy]
theorem gm_doubts (hc : m_c X τ a = c) (hG : m_G c) (h7 : c 7 = 1) (hW : ∀ q : Int, 0 ≤ q → q < 6 → (0 ≤ c (22 + q) ∧ c (22 + q) ≤ 1000000) ∧ 0 ≤ c (28 + q) ∧ c (28 + q) ≤ 1000000) {v1 : Int32} {q : Int} (hv : v1.toInt = q) (hq : 0 ≤ q ∧ q < c 2) {s : Int} (hs : (F_X12_sortOf X τ a (τ.1 (q_rf X a 20) (9 : Int32).toNatClampNeg - 1)).toInt = s) :
    ∃ (z : Int32) (τ' : ST) (c' : Int → Int), F_X12_doubts X τ a v1 = (z, τ') ∧ z.toInt = (if s = 0 then q else c 6) ∧ m_c X τ' a = c' ∧ tkl (fun b _ => b = q_rf X a 20) (fun _ _ => False) τ τ' ∧ gd_C c c' (if s = 0 then q else c 6) (c 6) (gd_nk c (c 5)) (if s = 0 then c 6 else q) (if s = 0 then (if m_S c (34 + 10 * c 6) 10 = 0 then c 6 else c 8) else c 8) (if s = 0 then 0 else 1) ∧ m_G c' := by
  obtain ⟨b0, b2, b4, b5, b6, b7, b9, b79⟩ := hG.1
  have pr : 0 ≤ c 6 ∧ c 6 < c 2 := by omega
  obtain ⟨P, hP⟩ : ∃ P, P = c 6 := ⟨_, rfl⟩
  rw [← hP] at pr ⊢
  have hw := hW P pr.1 (by omega)
  have z0 : (0 : Int32).toInt = 0 := rfl
  have one : (1 : Int32).toInt = 1 := rfl
  have e22 : (22 : Int32).toInt = 22 := rfl
  have e28 : (28 : Int32).toInt = 28 := rfl
  unfold F_X12_doubts
  rw [q_letE (τ.1 (q_rf X a 20) (6 : Int32).toNatClampNeg), q_letE (τ.1 (q_rf X a 20) (9 : Int32).toNatClampNeg), q_letE (τ.1 (q_rf X a 20) (9 : Int32).toNatClampNeg - 1), q_letE (F_X12_sortOf X τ a (τ.1 (q_rf X a 20) (9 : Int32).toNatClampNeg - 1)), hs]
  have f1 : (τ.1 (q_rf X a 20) (6 : Int32).toNatClampNeg).toInt = P := (gm_cell (A := 6) hc rfl).trans hP.symm
  obtain ⟨f, hf⟩ : ∃ f, f = τ.1 (q_rf X a 20) (6 : Int32).toNatClampNeg := ⟨_, rfl⟩
  rw [← hf] at f1 ⊢
  have c1 : m_c X (q_si τ (q_rf X a 20) (7 : Int32).toNatClampNeg 0) a = m_up c 7 0 := by rw [m_c_up 7 (by decide) rfl, hc, z0]
  have t1 : tkl (fun b _ => b = q_rf X a 20) (fun _ _ => False) τ (q_si τ (q_rf X a 20) (7 : Int32).toNatClampNeg 0) := tkl.rf.si _ rfl
  obtain ⟨τ1, e1⟩ : ∃ s, s = q_si τ (q_rf X a 20) (7 : Int32).toNatClampNeg 0 := ⟨_, rfl⟩
  have i22 : ((22 : Int32) + f).toInt = 22 + P := by rw [ar_add, e22, f1, ar_wr (by omega) (by omega)]
  have i28 : ((28 : Int32) + f).toInt = 28 + P := by rw [ar_add, e28, f1, ar_wr (by omega) (by omega)]
  rw [← e1] at c1 t1
  have r22 : (τ1.1 (q_rf X a 20) ((22 : Int32) + f).toNatClampNeg).toInt = c (22 + P) := (gm_cell c1 i22).trans (m_up_ne (by omega))
  obtain ⟨u, hu⟩ : ∃ u, u = τ1.1 (q_rf X a 20) ((22 : Int32) + f).toNatClampNeg + 1 := ⟨_, rfl⟩
  have uv : u.toInt = c (22 + P) + 1 := by rw [hu, ar_add, r22, one, ar_wr (by omega) (by omega)]
  have c2 : m_c X (q_si τ1 (q_rf X a 20) ((22 : Int32) + f).toNatClampNeg u) a = m_up (m_up c 7 0) (22 + P) (c (22 + P) + 1) := by rw [m_c_up _ (by omega) i22, c1, uv]
  have t2 : tkl (fun b _ => b = q_rf X a 20) (fun _ _ => False) τ (q_si τ1 (q_rf X a 20) ((22 : Int32) + f).toNatClampNeg u) := t1.si _ rfl
  obtain ⟨τ2, e2⟩ : ∃ s, s = q_si τ1 (q_rf X a 20) ((22 : Int32) + f).toNatClampNeg u := ⟨_, rfl⟩
  rw [← e2] at c2 t2
  have r28 : (τ2.1 (q_rf X a 20) ((28 : Int32) + f).toNatClampNeg).toInt = c (28 + P) := (gm_cell c2 i28).trans ((m_up_ne (by omega)).trans (m_up_ne (by omega)))
  have g1 : m_G (m_up c 7 0) := hG.wr m_up_e (by omega)
  have g2 : m_G (m_up (m_up c 7 0) (22 + P) (c (22 + P) + 1)) := g1.wr m_up_e (by omega)
  -- the head: for both answers the same
  have hd : ∀ x : Int32, F_X12_doubts_J29_1 X τ a f v1 x = (if x.toInt = 0 then q_let (τ2.1 (q_rf X a 20) ((28 : Int32) + f).toNatClampNeg + (1 : Int32) : Int32) (fun z_16 => q_let (q_si τ2 (q_rf X a 20) ((28 : Int32) + f).toNatClampNeg z_16 : ST) (fun σ_17 => if x.toInt = 0 then F_X12_doubts_J92_2 X x a f v1 σ_17 else q_let (F_X12_cardsOf X σ_17 a f : Int32) (fun r_45 => if r_45.toInt = 0 then q_let (q_si σ_17 (q_rf X a 20) (8 : Int32).toNatClampNeg f : ST) (fun σ_48 => F_X12_doubts_J92_2 X x a f v1 σ_48) else F_X12_doubts_J92_2 X x a f v1 σ_17))) else q_let (τ2.1 (q_rf X a 20) ((28 : Int32) + f).toNatClampNeg + (0 : Int32) : Int32) (fun z_49 => q_let (q_si τ2 (q_rf X a 20) ((28 : Int32) + f).toNatClampNeg z_49 : ST) (fun σ_50 => if x.toInt = 0 then F_X12_doubts_J92_5 X x a f v1 σ_50 else q_let (F_X12_cardsOf X σ_50 a f : Int32) (fun r_78 => if r_78.toInt = 0 then q_let (q_si σ_50 (q_rf X a 20) (8 : Int32).toNatClampNeg f : ST) (fun σ_81 => F_X12_doubts_J92_5 X x a f v1 σ_81) else F_X12_doubts_J92_5 X x a f v1 σ_50)))) := by
    intro x
    unfold F_X12_doubts_J29_1
    rw [q_letE (q_si τ (q_rf X a 20) (7 : Int32).toNatClampNeg 0), ← e1, q_letE ((22 : Int32) + f), q_letE (τ1.1 (q_rf X a 20) ((22 : Int32) + f).toNatClampNeg), q_letE (τ1.1 (q_rf X a 20) ((22 : Int32) + f).toNatClampNeg + 1), ← hu, q_letE (q_si τ1 (q_rf X a 20) ((22 : Int32) + f).toNatClampNeg u), ← e2, q_letE ((28 : Int32) + f), q_letE (τ2.1 (q_rf X a 20) ((28 : Int32) + f).toNatClampNeg)]
  by_cases hs0 : s = 0
  · rw [if_pos hs0, if_pos hs0, if_pos hs0, if_pos hs0, if_pos hs0, hd 1, if_neg (by decide : ¬ (1 : Int32).toInt = 0)]
    obtain ⟨u3, hu3⟩ : ∃ u, u = τ2.1 (q_rf X a 20) ((28 : Int32) + f).toNatClampNeg + 0 := ⟨_, rfl⟩
    have uv3 : u3.toInt = c (28 + P) + 0 := by rw [hu3, ar_add, r28, z0, ar_wr (by omega) (by omega)]
    rw [← hu3, q_letE u3, q_letE (q_si τ2 (q_rf X a 20) ((28 : Int32) + f).toNatClampNeg u3)]
    have c3 : m_c X (q_si τ2 (q_rf X a 20) ((28 : Int32) + f).toNatClampNeg u3) a = m_up (m_up (m_up c 7 0) (22 + P) (c (22 + P) + 1)) (28 + P) (c (28 + P) + 0) := by rw [m_c_up _ (by omega) i28, c2, uv3]
    have t3 : tkl (fun b _ => b = q_rf X a 20) (fun _ _ => False) τ (q_si τ2 (q_rf X a 20) ((28 : Int32) + f).toNatClampNeg u3) := t2.si _ rfl
    obtain ⟨τ3, e3⟩ : ∃ s, s = q_si τ2 (q_rf X a 20) ((28 : Int32) + f).toNatClampNeg u3 := ⟨_, rfl⟩
    rw [← e3] at c3 t3 ⊢
    have g3 : m_G (m_up (m_up (m_up c 7 0) (22 + P) (c (22 + P) + 1)) (28 + P) (c (28 + P) + 0)) := g2.wr m_up_e (by omega)
    obtain ⟨C3, hC3⟩ : ∃ C, C = m_up (m_up (m_up c 7 0) (22 + P) (c (22 + P) + 1)) (28 + P) (c (28 + P) + 0) := ⟨_, rfl⟩
    rw [← hC3] at c3 g3
    have d3 : ∀ j : Int, j ≠ 7 → j ≠ 22 + P → j ≠ 28 + P → C3 j = c j := fun j a1 a2 a3 => by rw [hC3, m_up_ne a3, m_up_ne a2, m_up_ne a1]
    have cd : (F_X12_cardsOf X τ3 a f).toInt = m_S c (34 + 10 * P) 10 := by
      rw [gm_cardsOf c3 g3 f1 ⟨pr.1, by omega⟩]
      exact m_S_ext (fun j a1 a2 => d3 j (by omega) (by omega) (by omega))
    rw [if_neg (by decide : ¬ (1 : Int32).toInt = 0), q_letE (F_X12_cardsOf X τ3 a f), cd]
    obtain ⟨W, hWn⟩ : ∃ W : Int, W = (if m_S c (34 + 10 * P) 10 = 0 then P else c 8) := ⟨_, rfl⟩
    rw [← hWn]
    have fin : ∀ (τ4 : ST) (C4 : Int → Int), m_c X τ4 a = C4 → m_G C4 → tkl (fun b _ => b = q_rf X a 20) (fun _ _ => False) τ τ4 → C4 8 = W → (∀ j : Int, j ≠ 8 → C4 j = C3 j) → ∃ (z : Int32) (τ' : ST) (c' : Int → Int), F_X12_doubts_J92_5 X 1 a f v1 τ4 = (z, τ') ∧ z.toInt = q ∧ m_c X τ' a = c' ∧ tkl (fun b _ => b = q_rf X a 20) (fun _ _ => False) τ τ' ∧ gd_C c c' q P (gd_nk c (c 5)) P W 0 ∧ m_G c' := by
      intro τ4 C4 c4 g4 t4 w4 o4
      have d4 : ∀ j : Int, j ≠ 7 → j ≠ 8 → j ≠ 22 + P → j ≠ 28 + P → C4 j = c j := fun j a1 a2 a3 a4 => by rw [o4 j a2, d3 j a1 a3 a4]
      obtain ⟨ct, y1, y2, y3, y4⟩ := gdr_tail (X := X) (τ := τ4) (a := a) g4 (by rw [o4 7 (by decide), hC3, m_up_ne (by omega), m_up_ne (by omega), m_up_eq]) c4 (x := v1) (y := f) hv (by rw [d4 2 (by decide) (by decide) (by omega) (by omega)]; exact hq) f1 (by rw [d4 2 (by decide) (by decide) (by omega) (by omega)]; exact pr)
      have ek : gd_nk C4 (C4 5) = gd_nk c (c 5) := by
        unfold gd_nk
        rw [d4 3 (by decide) (by decide) (by omega) (by omega), d4 5 (by decide) (by decide) (by omega) (by omega), d4 0 (by decide) (by decide) (by omega) (by omega)]
      rw [ek] at y1 y4
      unfold F_X12_doubts_J92_5
      rw [if_neg (by decide : ¬ (1 : Int32).toInt = 0), q_letE (F_X12_takes X τ4 a v1)]
      unfold F_X12_doubts_J105_7
      rw [q_letE (F_X12_nextKind X (F_X12_takes X τ4 a v1) a 0), q_letE (q_si (F_X12_takes X τ4 a v1) (q_rf X a 20) (5 : Int32).toNatClampNeg (F_X12_nextKind X (F_X12_takes X τ4 a v1) a 0)), if_neg (by decide : ¬ (1 : Int32).toInt = 0), q_letE, if_neg (by decide : ¬ (1 : Int32).toInt = 0)]
      have e9 : C4 9 = c 9 := d4 9 (by decide) (by decide) (by omega) (by omega)
      rw [e9] at y3
      have Ax : ∀ d : Int, m_A C4 (-1) d (c 9).toNat = m_A c (-1) d (c 9).toNat := fun d => (gm_Lx (c := c) (c' := C4) (n := (c 9).toNat) (fun i i0 i1 => ((hG.2.2.1 i i0 (by omega)).1).2) (fun j j0 j1 => d4 j (by omega) (by omega) (by omega) (by omega))).2 (-1) d
      refine ⟨v1, _, _, rfl, hv, y1, t4.tr y2, ⟨fun j j0 j5 j6 j7 j8 j9 j22 j28 jh => ?_, ⟨?_, ?_, ?_, ?_, ?_⟩, ?_, ?_, fun d d0 d1 => ?_⟩, y4⟩
      · rw [m_up_ne j6, m_up_ne j5, m_up_ne j9, y3.1 j j0 jh, d4 j j7 j8 j22 j28]
      · rw [m_up_ne (by decide), m_up_eq]
      · rw [m_up_eq]
      · rw [m_up_ne (by decide), m_up_ne (by decide), m_up_ne (by decide), y3.1 7 (by decide) (by omega), o4 7 (by decide), hC3, m_up_ne (by omega), m_up_ne (by omega), m_up_eq]
      · rw [m_up_ne (by decide), m_up_ne (by decide), m_up_ne (by decide), y3.1 8 (by decide) (by omega), w4]
      · rw [m_up_ne (by decide), m_up_ne (by decide), m_up_eq]
      · rw [m_up_ne (by omega), m_up_ne (by omega), m_up_ne (by omega), y3.1 _ (by omega) (by omega), o4 _ (by omega), hC3, m_up_ne (by omega), m_up_eq]
      · rw [m_up_ne (by omega), m_up_ne (by omega), m_up_ne (by omega), y3.1 _ (by omega) (by omega), o4 _ (by omega), hC3, m_up_eq]
      · have k0 : m_K C4 (94 + 7 * c 9) d (0 : Int).toNat = 0 := rfl
        rw [m_up_ne (by omega), m_up_ne (by omega), m_up_ne (by omega), y3.2 d d0 d1, Ax d, k0, d4 _ (by omega) (by omega) (by omega) (by omega)]
        omega
    by_cases q0 : m_S c (34 + 10 * P) 10 = 0
    · rw [if_pos q0] at hWn
      rw [if_pos q0, q_letE (q_si τ3 (q_rf X a 20) (8 : Int32).toNatClampNeg f)]
      refine fin _ (m_up C3 8 W) (by rw [m_c_up 8 (by decide) rfl, c3, f1, hWn]) (g3.wr m_up_e (by omega)) (t3.si _ rfl) (m_up_eq _ _ _) (fun j h => m_up_ne h)
    · rw [if_neg q0] at hWn
      rw [if_neg q0]
      refine fin τ3 C3 c3 g3 t3 (by rw [hWn]; exact d3 8 (by decide) (by omega) (by omega)) (fun j _ => rfl)
  · rw [if_neg hs0, if_neg hs0, if_neg hs0, if_neg hs0, if_neg hs0, hd 0, if_pos (by decide : (0 : Int32).toInt = 0)]
    obtain ⟨u3, hu3⟩ : ∃ u, u = τ2.1 (q_rf X a 20) ((28 : Int32) + f).toNatClampNeg + 1 := ⟨_, rfl⟩
    have uv3 : u3.toInt = c (28 + P) + 1 := by rw [hu3, ar_add, r28, one, ar_wr (by omega) (by omega)]
    rw [← hu3, q_letE u3, q_letE (q_si τ2 (q_rf X a 20) ((28 : Int32) + f).toNatClampNeg u3)]
    have c3 : m_c X (q_si τ2 (q_rf X a 20) ((28 : Int32) + f).toNatClampNeg u3) a = m_up (m_up (m_up c 7 0) (22 + P) (c (22 + P) + 1)) (28 + P) (c (28 + P) + 1) := by rw [m_c_up _ (by omega) i28, c2, uv3]
    have t3 : tkl (fun b _ => b = q_rf X a 20) (fun _ _ => False) τ (q_si τ2 (q_rf X a 20) ((28 : Int32) + f).toNatClampNeg u3) := t2.si _ rfl
    obtain ⟨τ4, e4⟩ : ∃ s, s = q_si τ2 (q_rf X a 20) ((28 : Int32) + f).toNatClampNeg u3 := ⟨_, rfl⟩
    rw [← e4] at c3 t3 ⊢
    have g4 : m_G (m_up (m_up (m_up c 7 0) (22 + P) (c (22 + P) + 1)) (28 + P) (c (28 + P) + 1)) := g2.wr m_up_e (by omega)
    obtain ⟨C4, hC4⟩ : ∃ C, C = m_up (m_up (m_up c 7 0) (22 + P) (c (22 + P) + 1)) (28 + P) (c (28 + P) + 1) := ⟨_, rfl⟩
    rw [← hC4] at c3 g4
    have d4 : ∀ j : Int, j ≠ 7 → j ≠ 22 + P → j ≠ 28 + P → C4 j = c j := fun j a1 a2 a3 => by rw [hC4, m_up_ne a3, m_up_ne a2, m_up_ne a1]
    rw [if_pos (by decide : (0 : Int32).toInt = 0)]
    obtain ⟨ct, y1, y2, y3, y4⟩ := gdr_tail (X := X) (τ := τ4) (a := a) g4 (by rw [hC4, m_up_ne (by omega), m_up_ne (by omega), m_up_eq]) c3 (x := f) (y := v1) f1 (by rw [d4 2 (by decide) (by omega) (by omega)]; exact pr) hv (by rw [d4 2 (by decide) (by omega) (by omega)]; exact hq)
    have ek : gd_nk C4 (C4 5) = gd_nk c (c 5) := by
      unfold gd_nk
      rw [d4 3 (by decide) (by omega) (by omega), d4 5 (by decide) (by omega) (by omega), d4 0 (by decide) (by omega) (by omega)]
    rw [ek] at y1 y4
    unfold F_X12_doubts_J92_2
    rw [if_pos (by decide : (0 : Int32).toInt = 0), q_letE (F_X12_takes X τ4 a f)]
    unfold F_X12_doubts_J105_3
    rw [q_letE (F_X12_nextKind X (F_X12_takes X τ4 a f) a 0), q_letE (q_si (F_X12_takes X τ4 a f) (q_rf X a 20) (5 : Int32).toNatClampNeg (F_X12_nextKind X (F_X12_takes X τ4 a f) a 0)), if_pos (by decide : (0 : Int32).toInt = 0), q_letE, if_pos (by decide : (0 : Int32).toInt = 0)]
    have e9 : C4 9 = c 9 := d4 9 (by decide) (by omega) (by omega)
    rw [e9] at y3
    have Ax : ∀ d : Int, m_A C4 (-1) d (c 9).toNat = m_A c (-1) d (c 9).toNat := fun d => (gm_Lx (c := c) (c' := C4) (n := (c 9).toNat) (fun i i0 i1 => ((hG.2.2.1 i i0 (by omega)).1).2) (fun j j0 j1 => d4 j (by omega) (by omega) (by omega))).2 (-1) d
    refine ⟨f, _, _, rfl, f1, y1, t3.tr y2, ⟨fun j j0 j5 j6 j7 j8 j9 j22 j28 jh => ?_, ⟨?_, ?_, ?_, ?_, ?_⟩, ?_, ?_, fun d d0 d1 => ?_⟩, y4⟩
    · rw [m_up_ne j6, m_up_ne j5, m_up_ne j9, y3.1 j j0 jh, d4 j j7 j22 j28]
    · rw [m_up_ne (by decide), m_up_eq]
    · rw [m_up_eq]
    · rw [m_up_ne (by decide), m_up_ne (by decide), m_up_ne (by decide), y3.1 7 (by decide) (by omega), hC4, m_up_ne (by omega), m_up_ne (by omega), m_up_eq]
    · rw [m_up_ne (by decide), m_up_ne (by decide), m_up_ne (by decide), y3.1 8 (by decide) (by omega), d4 8 (by decide) (by omega) (by omega)]
    · rw [m_up_ne (by decide), m_up_ne (by decide), m_up_eq]
    · rw [m_up_ne (by omega), m_up_ne (by omega), m_up_ne (by omega), y3.1 _ (by omega) (by omega), hC4, m_up_ne (by omega), m_up_eq]
    · rw [m_up_ne (by omega), m_up_ne (by omega), m_up_ne (by omega), y3.1 _ (by omega) (by omega), hC4, m_up_eq]
    · have k0 : m_K C4 (94 + 7 * c 9) d (0 : Int).toNat = 0 := rfl
      rw [m_up_ne (by omega), m_up_ne (by omega), m_up_ne (by omega), y3.2 d d0 d1, Ax d, k0, d4 _ (by omega) (by omega) (by omega)]
      omega
/-- both games behind a doubt -/
theorem gm_doubt2 (Y : y_S X lb) (G : y_G X lb g o) (w : y_W X lb g o σ0 σ V) (R : rg V c) (hc : m_c X τ a = c) (hG : m_G c) (h7 : c 7 = 1) (hW : ∀ q : Int, 0 ≤ q → q < 6 → (0 ≤ c (22 + q) ∧ c (22 + q) ≤ 1000000) ∧ 0 ≤ c (28 + q) ∧ c (28 + q) ≤ 1000000) {v v' : Int32} {q : Int} (hv : v.toInt = q) (hv' : v'.toInt = q) (hq : 0 ≤ q ∧ q < c 2) :
    ∃ (z z' : Int32) (σ' τ' : ST) (V' : Nat → Int → Int) (c' : Int → Int) (t P kd tn W u : Int), F_X0_challenge X σ g v = (z, σ') ∧ F_X12_doubts X τ a v' = (z', τ') ∧ z.toInt = t ∧ z'.toInt = t ∧ (t = q ∨ t = c 6) ∧ y_W X lb g o σ0 σ' V' ∧ m_c X τ' a = c' ∧ tkl (fun b _ => b = q_rf X a 20) (fun _ _ => False) τ τ' ∧ rg V' c' ∧ m_G c' ∧ gd_V V V' t P kd tn W u ∧ gd_C c c' t P kd tn W u ∧ P = c 6 ∧ (t = P ↔ ¬ (F_X2_topTruth X σ (q_rf X g 2)).toInt = 0 ∨ q = P) ∧ (u = 0 ∨ u = 1) := by
  obtain ⟨b0, b2, b4, b5, b6, b7, b9, b79⟩ := hG.1
  have one : (1 : Int32).toInt = 1 := rfl
  have r9 : (τ.1 (q_rf X a 20) (9 : Int32).toNatClampNeg).toInt = c 9 := gm_cell (A := 9) hc rfl
  have f20 : (σ.1 (q_rf X g 2) 0).toInt = c 9 := (w.rd (id := 2) (by decide) 0 rfl).trans R.2.2.2.2.1.1
  have so := rg.sort Y G w R hG hc (v1 := σ.1 (q_rf X g 2) 0 - 1) (v1' := τ.1 (q_rf X a 20) (9 : Int32).toNatClampNeg - 1) (k := c 9 - 1) (by rw [ar_sub, f20, one, ar_wr (by omega) (by omega)]) (by rw [ar_sub, r9, one, ar_wr (by omega) (by omega)]) ⟨by omega, by omega⟩
  obtain ⟨s, hs⟩ : ∃ s, s = (F_X12_sortOf X τ a (τ.1 (q_rf X a 20) (9 : Int32).toNatClampNeg - 1)).toInt := ⟨_, rfl⟩
  have tt : (F_X2_topTruth X σ (q_rf X g 2)).toInt = s := by
    unfold F_X2_topTruth
    rw [q_letE, q_letE, q_letE]
    exact so.1.trans hs.symm
  obtain ⟨z, σ', V', x1, x2, x3, x4⟩ := gm_challenge Y G w R hG h7 hW hv hq tt
  obtain ⟨z', τ', c', y1, y2, y3, y4, y5, y6⟩ := gm_doubts hc hG h7 hW hv' hq hs.symm
  have rr := rg.doubt R hG (P := c 6) ⟨by omega, by omega⟩ (by split <;> omega) (by have w8 := R.2.1.2.2.1.2; split <;> (try split) <;> omega) x4 y5
  refine ⟨z, z', σ', τ', V', c', _, _, _, _, _, _, x1, y1, x2, y2, ?_, x3, y3, y4, rr, y6, x4, y5, rfl, ?_, ?_⟩
  · split
    · exact Or.inl rfl
    · exact Or.inr rfl
  · rw [tt]
    by_cases e : s = 0
    · rw [if_pos e]
      constructor
      · intro h; exact Or.inr h
      · rintro (h | h)
        · exact absurd e h
        · exact h
    · rw [if_neg e]
      exact ⟨fun _ => Or.inl e, fun _ => rfl⟩
  · split
    · exact Or.inl rfl
    · exact Or.inr rfl
end GJ

/-! FROM 49k.look.lean.txt -/
/-! WHAT IS LOOKED UP -/
/-- the relation speaks of what a copy takes along -/
theorem rg.x {V V' : Nat → Int → Int} {c c' : Int → Int} (R : rg V c) (hG : m_G c) (hV : ∀ (id : Nat) (i : Int), y_in y_all id i → V' id i = V id i) (hc : ∀ j : Int, 0 ≤ j → j < 654 → c' j = c j) : rg V' c' := by
  obtain ⟨⟨t1, t2, t3, t4, t5, t6⟩, ⟨s1, s2, s3, s4⟩, hpp, ⟨g1, g2⟩, ⟨l1, l2, l3⟩, ⟨a1, a2⟩⟩ := R
  obtain ⟨b0, b2, b4, b5, b6, b7, b9, b79⟩ := hG.1
  have cell : ∀ (id f : Nat), (id, f) ∈ y_all → f ≠ 99 → V' id (f : Int) = V id (f : Int) := fun id f h h9 => hV id _ ⟨(id, f), h, rfl, Or.inr ⟨h9, rfl⟩⟩
  have row : ∀ (id : Nat) (i : Int), (id, 99) ∈ y_all → 0 ≤ i → i < ((y_gn id : Nat) : Int) → V' id i = V id i := fun id i h i0 i1 => hV id i ⟨(id, 99), h, rfl, Or.inl ⟨rfl, i0, i1⟩⟩
  have n4 : ((y_gn 4 : Nat) : Int) = 10 := rfl
  have n7 : ((y_gn 7 : Nat) : Int) = 60 := rfl
  have n8 : ((y_gn 8 : Nat) : Int) = 60 := rfl
  have n9 : ((y_gn 9 : Nat) : Int) = 6 := rfl
  have n10 : ((y_gn 10 : Nat) : Int) = 6 := rfl
  have n11 : ((y_gn 11 : Nat) : Int) = 6 := rfl
  have n12 : ((y_gn 12 : Nat) : Int) = 6 := rfl
  have n13 : ((y_gn 13 : Nat) : Int) = 6 := rfl
  have n14 : ((y_gn 14 : Nat) : Int) = 80 := rfl
  have n15 : ((y_gn 15 : Nat) : Int) = 80 := rfl
  have n16 : ((y_gn 16 : Nat) : Int) = 80 := rfl
  have n17 : ((y_gn 17 : Nat) : Int) = 320 := rfl
  have e9 : c' 9 = c 9 := hc 9 (by decide) (by decide)
  have e2 : c' 2 = c 2 := hc 2 (by decide) (by decide)
  have Lx := gm_Lx (c := c) (c' := c') (n := (c 9).toNat) (fun i i0 i1 => ((hG.2.2.1 i i0 (by omega)).1).2) (fun j j0 j1 => hc j (by omega) (by omega))
  have Px : ∀ (k : Int) (n : Nat), 0 ≤ k → k < 10 → n ≤ 6 → m_P c' k n = m_P c k n := by
    intro k n k0 k1
    induction n with
    | zero => intro _; rfl
    | succ n ih =>
      intro hn
      show m_P c' k n + c' (34 + 10 * (n : Int) + k) = m_P c k n + c (34 + 10 * (n : Int) + k)
      rw [ih (by omega), hc _ (by omega) (by omega)]
  refine ⟨⟨?_, ?_, ?_, ?_, ?_, ?_⟩, ⟨?_, ?_, ?_, ?_⟩, fun q q0 q1 => ⟨?_, ?_, ?_, ?_⟩, ⟨fun j j0 j1 => ?_, fun q q0 q1 => ?_⟩, ⟨?_, ?_, fun k k0 k1 => ?_⟩, ⟨fun q k q0 q1 k0 k1 => ?_, fun k k0 k1 => ?_⟩⟩
  · rw [hc 0 (by decide) (by decide)]; exact (cell 1 0 (by decide) (by decide)).trans t1
  · rw [hc 1 (by decide) (by decide)]; exact (cell 1 1 (by decide) (by decide)).trans t2
  · rw [hc 3 (by decide) (by decide)]; exact (cell 1 2 (by decide) (by decide)).trans t3
  · rw [hc 4 (by decide) (by decide)]; exact (cell 1 3 (by decide) (by decide)).trans t4
  · rw [e2]; exact (cell 1 4 (by decide) (by decide)).trans t5
  · rw [hc 3 (by decide) (by decide)]; exact t6
  · rw [hc 5 (by decide) (by decide)]; exact (cell 0 4 (by decide) (by decide)).trans s1
  · rw [e2, hc 6 (by decide) (by decide)]; exact (cell 0 5 (by decide) (by decide)).trans s2
  · rw [hc 8 (by decide) (by decide)]; exact ⟨(cell 0 6 (by decide) (by decide)).trans s3.1, s3.2⟩
  · rw [hc 7 (by decide) (by decide)]; exact (cell 0 7 (by decide) (by decide)).trans s4
  · rw [row 10 q (by decide) q0 (by omega), hc _ (by omega) (by omega)]; exact (hpp q q0 q1).1
  · rw [row 11 q (by decide) q0 (by omega), hc _ (by omega) (by omega)]; exact (hpp q q0 q1).2.1
  · rw [row 12 q (by decide) q0 (by omega), hc _ (by omega) (by omega)]; exact (hpp q q0 q1).2.2.1
  · rw [row 13 q (by decide) q0 (by omega), hc _ (by omega) (by omega)]; exact (hpp q q0 q1).2.2.2
  · rw [row 7 j (by decide) j0 (by omega), hc _ (by omega) (by omega)]; exact g1 j j0 j1
  · rw [row 9 q (by decide) q0 (by omega), g2 q q0 q1]
    exact (m_S_ext (fun j x y => hc j (by omega) (by omega))).symm
  · rw [e9]; exact (cell 2 0 (by decide) (by decide)).trans l1
  · rw [e9, Lx.1]; exact (cell 2 1 (by decide) (by decide)).trans l2
  · rw [e9] at k1
    obtain ⟨y1, y2, y3, y5, y4⟩ := l3 k k0 k1
    have z4 := ((hG.2.2.1 k k0 k1).1).2
    rw [row 14 k (by decide) k0 (by omega), row 15 k (by decide) k0 (by omega), row 16 k (by decide) k0 (by omega), hc (94 + 7 * k) (by omega) (by omega), hc (94 + 7 * k + 1) (by omega) (by omega), hc (94 + 7 * k + 2) (by omega) (by omega)]
    refine ⟨y1, y2, y3, y5, fun i i0 i1 => ?_⟩
    rw [row 17 _ (by decide) (by omega) (by omega), hc _ (by omega) (by omega)]
    exact y4 i i0 i1
  · rw [row 8 _ (by decide) (by omega) (by omega), e9, Lx.2]; exact a1 q k q0 q1 k0 k1
  · rw [row 4 k (by decide) k0 (by omega), a2 k k0 k1]
    unfold m_I
    rw [e9, e2, Lx.2, Px k _ k0 k1 (by omega)]
/-- what a copy doesn't take along doesn't count -/
theorem rg.w {V V' : Nat → Int → Int} {c : Int → Int} (R : rg V c) (hG : m_G c) (hV : ∀ (id : Nat) (i : Int), id ≠ 23 → id ≠ 24 → (id ≠ 0 ∨ i ≤ 7) → V' id i = V id i) : rg V' c := by
  have a : ∀ e ∈ y_all, e.1 ≠ 23 ∧ e.1 ≠ 24 ∧ (e.1 ≠ 0 ∨ e.2 ≤ 7) := by decide
  refine R.x hG (fun id i h => ?_) (fun _ _ _ => rfl)
  obtain ⟨e, h1, h2, h3⟩ := h
  obtain ⟨x1, x2, x3⟩ := a e h1
  subst h2
  refine hV _ i x1 x2 ?_
  rcases x3 with x3 | x3
  · exact Or.inl x3
  · rcases h3 with h3 | h3
    · exact absurd h3.1 (by omega)
    · exact Or.inr (by omega)
section GK
variable {X : XW} {lb : Nat → Nat} {C a o : Nat} {σ τ σ0 τ0 : ST} {V V0 : Nat → Int → Int} {c c0 : Int → Int}
theorem lk_player (w : y_W X lb (q_rf X C 8) o σ0 σ V) (v : Int32) : (F_X11_isPlayer X σ C v).toInt = if 0 ≤ v.toInt ∧ v.toInt < V 1 4 then 1 else 0 := by
  have e : (σ.1 (q_rf X (q_rf X C 8) 0) 4).toInt = V 1 4 := w.rd (id := 1) (by decide) 4 rfl
  unfold F_X11_isPlayer
  by_cases q : v.toInt < 0
  · rw [if_pos q, if_neg (by omega)]; rfl
  · rw [if_neg q, q_letE, e]
    by_cases q2 : v.toInt < V 1 4
    · rw [if_pos q2, if_pos ⟨by omega, q2⟩]; rfl
    · rw [if_neg q2, if_neg (fun z => q2 z.2)]; rfl
theorem lk_kind (w : y_W X lb (q_rf X C 8) o σ0 σ V) (v : Int32) : (F_X11_isKind X σ C v).toInt = if 0 ≤ v.toInt ∧ v.toInt < V 1 0 then 1 else 0 := by
  have e : (σ.1 (q_rf X (q_rf X C 8) 0) 0).toInt = V 1 0 := w.rd (id := 1) (by decide) 0 rfl
  unfold F_X11_isKind
  by_cases q : v.toInt < 0
  · rw [if_pos q, if_neg (by omega)]; rfl
  · rw [if_neg q, q_letE, e]
    by_cases q2 : v.toInt < V 1 0
    · rw [if_pos q2, if_pos ⟨by omega, q2⟩]; rfl
    · rw [if_neg q2, if_neg (fun z => q2 z.2)]; rfl
theorem lk_kindNone (w : y_W X lb (q_rf X C 8) o σ0 σ V) (v : Int32) : (F_X11_isKindOrNone X σ C v).toInt = if v.toInt = -1 ∨ (0 ≤ v.toInt ∧ v.toInt < V 1 0) then 1 else 0 := by
  unfold F_X11_isKindOrNone
  by_cases q : v.toInt = -1
  · rw [if_pos q, if_pos (Or.inl q)]; rfl
  · rw [if_neg q, q_letE, lk_kind w]
    by_cases q2 : 0 ≤ v.toInt ∧ v.toInt < V 1 0
    · rw [if_pos q2, if_neg (by decide), if_pos (Or.inr q2)]; rfl
    · rw [if_neg q2, if_pos rfl, if_neg (by omega)]; rfl
theorem lk_playerAt (hc : m_c X τ a = c) (h2 : 0 ≤ c 2 ∧ c 2 ≤ 6) (v : Int32) : (F_X12_isPlayerAt X τ a v).toInt = if 0 ≤ v.toInt ∧ v.toInt < c 2 then 1 else 0 := by
  have one : (1 : Int32).toInt = 1 := rfl
  have z0 : (0 : Int64).toInt = 0 := rfl
  have r2 : (τ.1 (q_rf X a 20) (2 : Int32).toNatClampNeg).toInt = c 2 := gm_cell (A := 2) hc rfl
  unfold F_X12_isPlayerAt
  rw [q_letE, q_letE, q_letE, q_letE, q_letE, tm_isIn, ar_i2l, ar_i2l, z0, ar_sub, r2, one, ar_wr (by omega) (by omega)]
  by_cases q : 0 ≤ v.toInt ∧ v.toInt < c 2
  · rw [if_pos q, if_pos (by omega)]
  · rw [if_neg q, if_neg (by omega)]
theorem lk_kindAt (hc : m_c X τ a = c) (h0 : 2 ≤ c 0 ∧ c 0 ≤ 10) (v : Int32) : (F_X12_isKindAt X τ a v).toInt = if 0 ≤ v.toInt ∧ v.toInt < c 0 then 1 else 0 := by
  have one : (1 : Int32).toInt = 1 := rfl
  have z0 : (0 : Int64).toInt = 0 := rfl
  have r2 : (τ.1 (q_rf X a 20) (0 : Int32).toNatClampNeg).toInt = c 0 := gm_cell (A := 0) hc rfl
  unfold F_X12_isKindAt
  rw [q_letE, q_letE, q_letE, q_letE, q_letE, tm_isIn, ar_i2l, ar_i2l, z0, ar_sub, r2, one, ar_wr (by omega) (by omega)]
  by_cases q : 0 ≤ v.toInt ∧ v.toInt < c 0
  · rw [if_pos q, if_pos (by omega)]
  · rw [if_neg q, if_neg (by omega)]
theorem lk_six (v : Int32) : (F_X11_isSixteenths X σ v).toInt = if 0 ≤ v.toInt ∧ v.toInt ≤ 16 then 1 else 0 := by
  unfold F_X11_isSixteenths
  by_cases q : v.toInt < 0
  · rw [if_pos q, if_neg (by omega)]; rfl
  · rw [if_neg q]
    by_cases q2 : 16 < v.toInt
    · rw [if_pos q2, if_neg (by omega)]; rfl
    · rw [if_neg q2, if_pos (by omega)]; rfl
theorem lk_sixAt (v : Int32) : (F_X12_isIn X τ v.toInt64 (0 : Int64) (16 : Int64)).toInt = if 0 ≤ v.toInt ∧ v.toInt ≤ 16 then 1 else 0 := by
  have z0 : (0 : Int64).toInt = 0 := rfl
  have z16 : (16 : Int64).toInt = 16 := rfl
  rw [tm_isIn, ar_i2l, z0, z16]
/-- all cards in the heap -/
theorem lk_heapL (hc : m_c X τ a = c) (hG : m_G c) (fu : Nat) : ∀ x y : Int32, (2147483647 - y.toInt).toNat < fu → 0 ≤ y.toInt → y.toInt ≤ c 9 → x.toInt = m_L c y.toInt.toNat → (F_X12_heapMany_L4_1 X τ a fu x y).toInt = m_L c (c 9).toNat := by
  have b9 := hG.1.2.2.2.2.2.2.1
  have e2 : (2 : Int32).toInt = 2 := rfl
  have r9 : (τ.1 (q_rf X a 20) (9 : Int32).toNatClampNeg).toInt = c 9 := gm_cell (A := 9) hc rfl
  induction fu with
  | zero => intro x y h; exact absurd h (Nat.not_lt_zero _)
  | succ fu ih =>
    intro x y hf y0 y1 hx
    rw [F_X12_heapMany_L4_1_s]
    unfold F_X12_heapMany_B4_1
    rw [q_letE (τ.1 (q_rf X a 20) (9 : Int32).toNatClampNeg), r9]
    by_cases q : y.toInt < c 9
    · have y4 := (hG.2.2.1 y.toInt y0 q).1
      have l80 := hG.L80 y0 y1
      have hl := gm_laid (X := X) (τ := τ) (v := y) rfl ⟨y0, by omega⟩
      have ei : (F_X12_laid X τ y + 2).toInt = 94 + 7 * y.toInt + 2 := by rw [ar_add, hl, e2, ar_wr (by omega) (by omega)]
      have r2 : (τ.1 (q_rf X a 20) (F_X12_laid X τ y + 2).toNatClampNeg).toInt = c (94 + 7 * y.toInt + 2) := gm_cell hc ei
      have ey : (y + 1).toInt = y.toInt + 1 := y_inc (by omega)
      rw [if_pos q, q_letE (F_X12_laid X τ y), q_letE (F_X12_laid X τ y + 2), q_letE (τ.1 (q_rf X a 20) (F_X12_laid X τ y + 2).toNatClampNeg), q_letE, q_letE]
      refine ih _ _ (by omega) (by omega) (by omega) ?_
      rw [ar_add, r2, hx, ey, m_L_succ c y.toInt y0, ar_wr (by omega) (by omega)]
    · have ey : y.toInt = c 9 := by omega
      rw [if_neg q, hx, ey]
theorem lk_heap (hc : m_c X τ a = c) (hG : m_G c) : (F_X12_heapMany X τ a).toInt = m_L c (c 9).toNat := by
  have z0 : (0 : Int32).toInt = 0 := rfl
  unfold F_X12_heapMany
  exact lk_heapL hc hG _ 0 0 (by decide) (by decide) (by rw [z0]; exact hG.1.2.2.2.2.2.2.1.1) (by rw [z0]; rfl)
end GK

/-! FROM 49l.lay.lean.txt -/
/-! A LAYING CALLED -/
abbrev ly_ok (N v : Int) : Prop := v = -1 ∨ (0 ≤ v ∧ v < N)
def ly_n (v : Int) : Int := if v = -1 then 0 else 1
def ly_1 (v j : Int) : Int := if v = j then 1 else 0
def ly_l (p q r s j : Int) : Int := ly_1 p j + ly_1 q j + ly_1 r j + ly_1 s j
theorem ly_1b (v j : Int) : 0 ≤ ly_1 v j ∧ ly_1 v j ≤ 1 := by
  unfold ly_1
  split <;> omega
theorem ly_nb (v : Int) : 0 ≤ ly_n v ∧ ly_n v ≤ 1 := by
  unfold ly_n
  split <;> omega
theorem ly_S1 {v : Int} (h : ly_ok 10 v) : m_S (ly_1 v) 0 10 = ly_n v := by
  rcases (by unfold ly_ok at h; omega : v = -1 ∨ v = 0 ∨ v = 1 ∨ v = 2 ∨ v = 3 ∨ v = 4 ∨ v = 5 ∨ v = 6 ∨ v = 7 ∨ v = 8 ∨ v = 9) with e | e | e | e | e | e | e | e | e | e | e <;> subst e <;> rfl
theorem m_S_plus (f g : Int → Int) (b : Int) (n : Nat) : m_S (fun j => f j + g j) b n = m_S f b n + m_S g b n := by
  induction n with
  | zero => rfl
  | succ n ih =>
    show m_S (fun j => f j + g j) b n + (f (b + (n : Int)) + g (b + (n : Int))) = m_S f b n + f (b + (n : Int)) + (m_S g b n + g (b + (n : Int)))
    rw [ih]
    omega
theorem ly_S {p q r s : Int} (hp : ly_ok 10 p) (hq : ly_ok 10 q) (hr : ly_ok 10 r) (hs : ly_ok 10 s) : m_S (ly_l p q r s) 0 10 = ly_n p + ly_n q + ly_n r + ly_n s := by
  have e : ly_l p q r s = fun j => (fun j => (fun j => ly_1 p j + ly_1 q j) j + ly_1 r j) j + ly_1 s j := rfl
  rw [e, m_S_plus (fun j => (fun j => ly_1 p j + ly_1 q j) j + ly_1 r j) (ly_1 s), m_S_plus (fun j => ly_1 p j + ly_1 q j) (ly_1 r), m_S_plus (ly_1 p) (ly_1 q), ly_S1 hp, ly_S1 hq, ly_S1 hr, ly_S1 hs]
section GL
variable {X : XW} {lb : Nat → Nat} {C g o a : Nat} {σ τ σ0 τ0 : ST} {V V0 : Nat → Int → Int} {c c0 l : Int → Int}
/-! the class -/
theorem ly_want (Y : y_S X lb) (G : y_G X lb g o) (w : y_W X lb g o σ0 τ V) {v : Int32} (h : ly_ok 10 v.toInt) (b : ∀ j : Int, 0 ≤ j → j < 10 → 0 ≤ V 23 j ∧ V 23 j ≤ 10) (b9 : 0 ≤ V 0 9 ∧ V 0 9 ≤ 10) :
    ∃ V' : Nat → Int → Int, y_W X lb g o σ0 (F_X0_want X τ g v 1) V' ∧ (∀ (id : Nat) (i : Int), id ≠ 23 → (id ≠ 0 ∨ i ≠ 9) → V' id i = V id i) ∧ (∀ j : Int, 0 ≤ j → j < 10 → V' 23 j = V 23 j + ly_1 v.toInt j) ∧ V' 0 9 = V 0 9 + ly_n v.toInt := by
  have one : (1 : Int32).toInt = 1 := rfl
  have gn : ((y_gn 23 : Nat) : Int) = 10 := rfl
  unfold F_X0_want ly_n
  by_cases q : v.toInt = -1
  · rw [if_pos q, if_pos q]
    refine ⟨V, w, fun _ _ _ _ => rfl, fun j j0 j1 => ?_, by omega⟩
    unfold ly_1
    rw [if_neg (by omega)]
    omega
  · have hv : 0 ≤ v.toInt ∧ v.toInt < 10 := by
      unfold ly_ok at h
      omega
    have bv := b v.toInt hv.1 hv.2
    rw [if_neg q, if_neg q, q_letE (F_X5_add X τ (q_rf X g 8) v 1)]
    have w1 := w.add Y G (id := 23) (r := q_rf X g 8) ⟨by decide, by decide⟩ rfl v 1 hv.1 (by rw [gn]; exact hv.2)
    rw [one, ar_wr (by omega) (by omega)] at w1
    obtain ⟨τ1, e1⟩ : ∃ s, s = F_X5_add X τ (q_rf X g 8) v 1 := ⟨_, rfl⟩
    rw [← e1] at w1 ⊢
    have f9 : (τ1.1 g 9).toInt = V 0 9 := (w1.rd (id := 0) (by decide) 9 rfl).trans (y_up_ne (Or.inl (by decide)))
    rw [q_letE (τ1.1 g 9)]
    obtain ⟨u, hu⟩ : ∃ u, u = τ1.1 g 9 + 1 := ⟨_, rfl⟩
    have uv : u.toInt = V 0 9 + 1 := by rw [hu, ar_add, f9, one, ar_wr (by omega) (by omega)]
    rw [← hu, q_letE u, q_letE (q_si τ1 g 9 u)]
    have w2 : y_W X lb g o σ0 (q_si τ1 g 9 u) (y_up (y_up V 23 v.toInt (V 23 v.toInt + 1)) 0 9 u.toInt) := w1.si Y G (id := 0) (by decide) 9 u
    rw [uv] at w2
    refine ⟨_, w2, fun id i i23 i0 => ?_, fun j j0 j1 => ?_, y_up_eq _ _ _ _⟩
    · rw [y_up_ne i0, y_up_ne (Or.inl i23)]
    · rw [y_up_ne (Or.inl (by decide))]
      unfold ly_1
      by_cases e : v.toInt = j
      · rw [if_pos e, ← e, y_up_eq]
      · rw [if_neg e, y_up_ne (Or.inr (fun z => e z.symm))]; omega
theorem ly_holdL (Y : y_S X lb) (G : y_G X lb g o) (w : y_W X lb g o σ0 τ V) {N p : Int} (hN : V 1 0 = N) (bN : 0 ≤ N ∧ N ≤ 10) (hp : V 0 5 = p) (bp : 0 ≤ p ∧ p < 6) (fu : Nat) : ∀ x : Int32, (2147483647 - x.toInt).toNat < fu → 0 ≤ x.toInt → x.toInt ≤ N → ((F_X0_holdsWanted_L2_1 X τ g fu x).toInt = 1 ∨ (F_X0_holdsWanted_L2_1 X τ g fu x).toInt = 0) ∧ ((F_X0_holdsWanted_L2_1 X τ g fu x).toInt = 1 ↔ ∀ k : Int, x.toInt ≤ k → k < N → V 23 k ≤ V 7 (10 * p + k)) := by
  have gn7 : ((y_gn 7 : Nat) : Int) = 60 := rfl
  have gn23 : ((y_gn 23 : Nat) : Int) = 10 := rfl
  have e10 : (10 : Int32).toInt = 10 := rfl
  have f0 : (τ.1 (q_rf X g 0) 0).toInt = N := (w.rd (id := 1) (by decide) 0 rfl).trans hN
  have f5 : (τ.1 g 5).toInt = p := (w.rd (id := 0) (by decide) 5 rfl).trans hp
  induction fu with
  | zero => intro x h; exact absurd h (Nat.not_lt_zero _)
  | succ fu ih =>
    intro x hf x0 x1
    rw [F_X0_holdsWanted_L2_1_s]
    unfold F_X0_holdsWanted_B2_1
    rw [q_letE (τ.1 (q_rf X g 0) 0), f0]
    by_cases q : x.toInt < N
    · have ei : (τ.1 g 5 * 10 + x).toInt = 10 * p + x.toInt := by
        rw [ar_add, ar_mul, f5, e10, ar_wr (n := p * 10) (by omega) (by omega), ar_wr (by omega) (by omega)]
        omega
      have h7 : (F_X1_heldBy X τ (q_rf X g 1) (τ.1 g 5) x).toInt = V 7 (10 * p + x.toInt) := by
        unfold F_X1_heldBy
        rw [q_letE, q_letE, q_letE]
        exact y_getI Y G w (id := 7) ⟨by decide, by decide⟩ rfl ei (by omega) (by rw [gn7]; omega)
      have h23 : (F_X5_get X τ (q_rf X g 8) x).toInt = V 23 x.toInt := y_getI Y G w (id := 23) ⟨by decide, by decide⟩ rfl (x := x) rfl x0 (by rw [gn23]; omega)
      have ex : (x + 1).toInt = x.toInt + 1 := y_inc (by omega)
      rw [if_pos q, q_letE (τ.1 g 5), q_letE (F_X1_heldBy X τ (q_rf X g 1) (τ.1 g 5) x), q_letE (F_X5_get X τ (q_rf X g 8) x), h7, h23]
      by_cases q2 : V 7 (10 * p + x.toInt) < V 23 x.toInt
      · rw [if_pos q2]
        refine ⟨Or.inr rfl, ⟨fun h => absurd h (by decide), fun h => ?_⟩⟩
        have := h x.toInt (Int.le_refl _) q
        omega
      · rw [if_neg q2, q_letE (x + 1)]
        obtain ⟨i1, i2⟩ := ih (x + 1) (by omega) (by omega) (by omega)
        refine ⟨i1, i2.trans ⟨fun h k k0 k1 => ?_, fun h k k0 k1 => h k (by omega) k1⟩⟩
        by_cases e : k = x.toInt
        · rw [e]; omega
        · exact h k (by omega) k1
    · rw [if_neg q]
      exact ⟨Or.inl rfl, ⟨fun _ k k0 k1 => by omega, fun _ => rfl⟩⟩
/-! the reference -/
theorem lr_J161 (Bf : Int32 → Int32 → Int32 → Int32 → ST → Int32 × ST) (ha : q_rf X a 28 ≠ q_rf X a 29) {n i v e' g' : Int32} (hv : τ.1 (q_rf X a 29) i.toNatClampNeg = v) (ok : ly_ok 10 v.toInt) (bn : 0 ≤ n.toInt ∧ n.toInt ≤ 10) (bl : ∀ j : Int, 0 ≤ j → j < 10 → 0 ≤ (τ.1 (q_rf X a 28) j.toNat).toInt ∧ (τ.1 (q_rf X a 28) j.toNat).toInt ≤ 10) :
    ∃ (n' : Int32) (τ' : ST), F_X12_lay_J161_10 X τ a i n Bf e' g' = Bf n' g' e' (i + 1) τ' ∧ n'.toInt = n.toInt + ly_n v.toInt ∧ tkl (fun b _ => b = q_rf X a 28) (fun _ _ => False) τ τ' ∧ ∀ j : Int, 0 ≤ j → j < 10 → (τ'.1 (q_rf X a 28) j.toNat).toInt = (τ.1 (q_rf X a 28) j.toNat).toInt + ly_1 v.toInt j := by
  have one : (1 : Int32).toInt = 1 := rfl
  have z0 : (0 : Int32).toInt = 0 := rfl
  unfold F_X12_lay_J161_10 ly_n
  rw [q_letE (τ.1 (q_rf X a 29) i.toNatClampNeg), hv]
  by_cases q : v.toInt = -1
  · rw [if_pos q, if_pos q, q_letE (n + 0), q_letE v, if_pos q, q_letE (i + 1)]
    refine ⟨n + 0, τ, rfl, ?_, tkl.rf, fun j j0 j1 => ?_⟩
    · rw [ar_add, z0, ar_wr (by omega) (by omega)]
    · unfold ly_1
      rw [if_neg (by omega)]
      omega
  · have hv10 : 0 ≤ v.toInt ∧ v.toInt < 10 := by
      unfold ly_ok at ok
      omega
    have bv := bl v.toInt hv10.1 hv10.2
    rw [if_neg q, if_neg q, q_letE (n + 1), q_letE v, if_neg q, q_letE v, q_letE (τ.1 (q_rf X a 28) v.toNatClampNeg)]
    obtain ⟨u, hu⟩ : ∃ u, u = τ.1 (q_rf X a 28) v.toNatClampNeg + 1 := ⟨_, rfl⟩
    have uv : u.toInt = (τ.1 (q_rf X a 28) v.toInt.toNat).toInt + 1 := by
      rw [hu, ar_add, one, ar_cl, ar_wr (by omega) (by omega)]
    rw [← hu, q_letE u, q_letE (q_si τ (q_rf X a 28) v.toNatClampNeg u), q_letE (i + 1)]
    refine ⟨n + 1, _, rfl, ?_, tkl.rf.si _ rfl, fun j j0 j1 => ?_⟩
    · rw [ar_add, one, ar_wr (by omega) (by omega)]
    · unfold ly_1
      show (if q_rf X a 28 = q_rf X a 28 ∧ j.toNat = v.toNatClampNeg then u else τ.1 (q_rf X a 28) j.toNat).toInt = _
      by_cases e : v.toInt = j
      · rw [if_pos e, if_pos ⟨rfl, by rw [ar_cl, e]⟩, uv, e]
      · rw [if_neg e, if_neg (fun z => e (by have := z.2; rw [ar_cl] at this; omega))]
        omega
theorem lr_step (Bf : Int32 → Int32 → Int32 → Int32 → ST → Int32 × ST) (ha : q_rf X a 28 ≠ q_rf X a 29) (hc : m_c X τ a = c) (h0 : 2 ≤ c 0 ∧ c 0 ≤ 10) {n g e i v : Int32} (hi : i.toInt < 4) (hv : τ.1 (q_rf X a 29) i.toNatClampNeg = v) (ok : ly_ok (c 0) v.toInt) (bn : 0 ≤ n.toInt ∧ n.toInt ≤ 10) (bl : ∀ j : Int, 0 ≤ j → j < 10 → 0 ≤ (τ.1 (q_rf X a 28) j.toNat).toInt ∧ (τ.1 (q_rf X a 28) j.toNat).toInt ≤ 10) :
    ∃ (n' g' e' : Int32) (τ' : ST), F_X12_lay_B75_3 X a Bf n g e i τ = Bf n' g' e' (i + 1) τ' ∧ n'.toInt = n.toInt + ly_n v.toInt ∧ (e'.toInt = 0 ↔ e.toInt = 0 ∧ v.toInt ≠ -1) ∧ (g'.toInt = 0 ↔ g.toInt = 0 ∧ (e.toInt = 0 ∨ v.toInt = -1)) ∧ tkl (fun b _ => b = q_rf X a 28) (fun _ _ => False) τ τ' ∧ ∀ j : Int, 0 ≤ j → j < 10 → (τ'.1 (q_rf X a 28) j.toNat).toInt = (τ.1 (q_rf X a 28) j.toNat).toInt + ly_1 v.toInt j := by
  have ok10 : ly_ok 10 v.toInt := by
    unfold ly_ok at ok ⊢
    omega
  have one : (1 : Int32).toInt = 1 := rfl
  have z0 : (0 : Int32).toInt = 0 := rfl
  -- behind the flags
  have fin : ∀ e' g' : Int32, ∃ (n' : Int32) (τ' : ST), F_X12_lay_J161_10 X τ a i n Bf e' g' = Bf n' g' e' (i + 1) τ' ∧ n'.toInt = n.toInt + ly_n v.toInt ∧ tkl (fun b _ => b = q_rf X a 28) (fun _ _ => False) τ τ' ∧ ∀ j : Int, 0 ≤ j → j < 10 → (τ'.1 (q_rf X a 28) j.toNat).toInt = (τ.1 (q_rf X a 28) j.toNat).toInt + ly_1 v.toInt j := fun e' g' => lr_J161 Bf ha hv ok10 bn bl
  have j133 : ∀ e' : Int32, (e'.toInt = 0 ↔ e.toInt = 0 ∧ v.toInt ≠ -1) → ∃ (n' g' : Int32) (τ' : ST), F_X12_lay_J133_9 X g τ a i n Bf e' = Bf n' g' e' (i + 1) τ' ∧ n'.toInt = n.toInt + ly_n v.toInt ∧ (g'.toInt = 0 ↔ g.toInt = 0 ∧ (e.toInt = 0 ∨ v.toInt = -1)) ∧ tkl (fun b _ => b = q_rf X a 28) (fun _ _ => False) τ τ' ∧ ∀ j : Int, 0 ≤ j → j < 10 → (τ'.1 (q_rf X a 28) j.toNat).toInt = (τ.1 (q_rf X a 28) j.toNat).toInt + ly_1 v.toInt j := by
    intro e' he
    unfold F_X12_lay_J133_9
    by_cases q : g.toInt = 0
    · rw [if_pos q]
      by_cases q2 : e'.toInt = 0
      · rw [if_pos q2]
        obtain ⟨n', τ', f1, f2, f3, f4⟩ := fin e' 0
        exact ⟨n', 0, τ', f1, f2, ⟨fun _ => ⟨q, Or.inl (he.mp q2).1⟩, fun _ => rfl⟩, f3, f4⟩
      · rw [if_neg q2, q_letE (τ.1 (q_rf X a 29) i.toNatClampNeg), hv]
        by_cases q3 : v.toInt = -1
        · rw [if_pos q3]
          obtain ⟨n', τ', f1, f2, f3, f4⟩ := fin e' 0
          exact ⟨n', 0, τ', f1, f2, ⟨fun _ => ⟨q, Or.inr q3⟩, fun _ => rfl⟩, f3, f4⟩
        · rw [if_neg q3]
          obtain ⟨n', τ', f1, f2, f3, f4⟩ := fin e' 1
          refine ⟨n', 1, τ', f1, f2, ⟨fun h => absurd h (by decide), fun h => ?_⟩, f3, f4⟩
          rcases h.2 with h | h
          · exact absurd (he.mpr ⟨h, q3⟩) q2
          · exact absurd h q3
    · rw [if_neg q]
      obtain ⟨n', τ', f1, f2, f3, f4⟩ := fin e' 1
      exact ⟨n', 1, τ', f1, f2, ⟨fun h => absurd h (by decide), fun h => absurd h.1 q⟩, f3, f4⟩
  have j112 : ∃ (n' g' e' : Int32) (τ' : ST), F_X12_lay_J112_8 X e τ a i g n Bf = Bf n' g' e' (i + 1) τ' ∧ n'.toInt = n.toInt + ly_n v.toInt ∧ (e'.toInt = 0 ↔ e.toInt = 0 ∧ v.toInt ≠ -1) ∧ (g'.toInt = 0 ↔ g.toInt = 0 ∧ (e.toInt = 0 ∨ v.toInt = -1)) ∧ tkl (fun b _ => b = q_rf X a 28) (fun _ _ => False) τ τ' ∧ ∀ j : Int, 0 ≤ j → j < 10 → (τ'.1 (q_rf X a 28) j.toNat).toInt = (τ.1 (q_rf X a 28) j.toNat).toInt + ly_1 v.toInt j := by
    unfold F_X12_lay_J112_8
    by_cases q : e.toInt = 0
    · rw [if_pos q, q_letE (τ.1 (q_rf X a 29) i.toNatClampNeg), hv]
      by_cases q2 : v.toInt = -1
      · rw [if_pos q2]
        have he : (1 : Int32).toInt = 0 ↔ e.toInt = 0 ∧ v.toInt ≠ -1 := ⟨fun h => absurd h (by decide), fun h => absurd q2 h.2⟩
        obtain ⟨n', g', τ', f1, f2, f3, f4, f5⟩ := j133 1 he
        exact ⟨n', g', 1, τ', f1, f2, he, f3, f4, f5⟩
      · rw [if_neg q2]
        have he : (0 : Int32).toInt = 0 ↔ e.toInt = 0 ∧ v.toInt ≠ -1 := ⟨fun _ => ⟨q, q2⟩, fun _ => rfl⟩
        obtain ⟨n', g', τ', f1, f2, f3, f4, f5⟩ := j133 0 he
        exact ⟨n', g', 0, τ', f1, f2, he, f3, f4, f5⟩
    · rw [if_neg q]
      have he : (1 : Int32).toInt = 0 ↔ e.toInt = 0 ∧ v.toInt ≠ -1 := ⟨fun h => absurd h (by decide), fun h => absurd h.1 q⟩
      obtain ⟨n', g', τ', f1, f2, f3, f4, f5⟩ := j133 1 he
      exact ⟨n', g', 1, τ', f1, f2, he, f3, f4, f5⟩
  unfold F_X12_lay_B75_3
  rw [if_pos hi, q_letE (τ.1 (q_rf X a 29) i.toNatClampNeg), hv]
  by_cases q : v.toInt = -1
  · rw [if_pos q]; exact j112
  · have k := lk_kindAt hc h0 v
    rw [if_pos (by unfold ly_ok at ok; omega)] at k
    rw [if_neg q, q_letE v, q_letE (F_X12_isKindAt X τ a v), k, if_neg (by decide : ¬ (1 : Int) = 0)]
    exact j112
theorem lr_bad (Bf : Int32 → Int32 → Int32 → Int32 → ST → Int32 × ST) (hc : m_c X τ a = c) (h0 : 2 ≤ c 0 ∧ c 0 ≤ 10) {n g e i v : Int32} (hi : i.toInt < 4) (hv : τ.1 (q_rf X a 29) i.toNatClampNeg = v) (ok : ¬ ly_ok (c 0) v.toInt) : F_X12_lay_B75_3 X a Bf n g e i τ = (-1, q_si τ a 0 2) := by
  have q : ¬ v.toInt = -1 := fun h => ok (Or.inl h)
  have k := lk_kindAt hc h0 v
  rw [if_neg (fun h => ok (Or.inr h))] at k
  unfold F_X12_lay_B75_3
  rw [if_pos hi, q_letE (τ.1 (q_rf X a 29) i.toNatClampNeg), hv, if_neg q, q_letE v, q_letE (F_X12_isKindAt X τ a v), k, if_pos rfl]
  unfold F_X12_lay_E106_11 F_X12_refuse
  rw [q_letE]
  rfl
theorem lr_clear (fu : Nat) : ∀ (x : Int32) (τ : ST), (2147483647 - x.toInt).toNat < fu → 0 ≤ x.toInt → x.toInt ≤ 10 → (∀ j : Int, 0 ≤ j → j < x.toInt → (τ.1 (q_rf X a 28) j.toNat).toInt = 0) → ∃ τ' : ST, F_X12_lay_L42_1 X a fu x τ = F_X12_lay_L75_3 X a ((2147483647 - (0 : Int32).toInt).toNat + 1) 0 0 0 0 τ' ∧ tkl (fun b _ => b = q_rf X a 28) (fun _ _ => False) τ τ' ∧ ∀ j : Int, 0 ≤ j → j < 10 → (τ'.1 (q_rf X a 28) j.toNat).toInt = 0 := by
  induction fu with
  | zero => intro x τ h; exact absurd h (Nat.not_lt_zero _)
  | succ fu ih =>
    intro x τ hf x0 x1 hz
    rw [F_X12_lay_L42_1_s]
    unfold F_X12_lay_B42_1
    by_cases q : x.toInt < 10
    · have ex : (x + 1).toInt = x.toInt + 1 := y_inc (by omega)
      rw [if_pos q, q_letE (q_si τ (q_rf X a 28) x.toNatClampNeg 0), q_letE (x + 1)]
      obtain ⟨τ', i1, i2, i3⟩ := ih (x + 1) (q_si τ (q_rf X a 28) x.toNatClampNeg 0) (by omega) (by omega) (by omega) (fun j j0 j1 => by
        show (if q_rf X a 28 = q_rf X a 28 ∧ j.toNat = x.toNatClampNeg then (0 : Int32) else τ.1 (q_rf X a 28) j.toNat).toInt = 0
        by_cases e : j = x.toInt
        · rw [if_pos ⟨rfl, by rw [ar_cl, e]⟩]; rfl
        · rw [if_neg (fun z => e (by have := z.2; rw [ar_cl] at this; omega))]
          exact hz j j0 (by omega))
      have t0 : tkl (fun b _ => b = q_rf X a 28) (fun _ _ => False) τ (q_si τ (q_rf X a 28) x.toNatClampNeg 0) := tkl.rf.si _ rfl
      exact ⟨τ', i1, t0.tr i2, i3⟩
    · rw [if_neg q]
      exact ⟨τ, rfl, tkl.rf, fun j j0 j1 => hz j j0 (by omega)⟩
/-- what the reference writes in a call, beside its table -/
def mv_S (X : XW) (a : Nat) (b f : Nat) : Prop := b = q_rf X a 20 ∨ b = a ∧ (f = 0 ∨ f = 1) ∨ b = q_rf X a 28 ∨ b = q_rf X a 29
theorem lr_asked (hT : q_T X) (ha : q_kd X a = 12) (hc : m_c X τ a = c) (h0 : 2 ≤ c 0 ∧ c 0 ≤ 10) (p q r s : Int32) :
    (¬ (ly_ok (c 0) p.toInt ∧ ly_ok (c 0) q.toInt ∧ ly_ok (c 0) r.toInt ∧ ly_ok (c 0) s.toInt) ∧ ∃ τ' : ST, F_X12_lay X τ a p q r s = (-1, q_si τ' a 0 2) ∧ m_c X τ' a = c ∧ tkl (mv_S X a) (fun _ _ => False) τ τ') ∨
    ((ly_ok (c 0) p.toInt ∧ ly_ok (c 0) q.toInt ∧ ly_ok (c 0) r.toInt ∧ ly_ok (c 0) s.toInt) ∧ ∃ (n g : Int32) (τ' : ST), F_X12_lay X τ a p q r s = F_X12_lay_E217_7 X n τ' a g ∧ n.toInt = ly_n p.toInt + ly_n q.toInt + ly_n r.toInt + ly_n s.toInt ∧ (g.toInt = 0 ↔ (p.toInt = -1 → q.toInt = -1) ∧ (p.toInt = -1 ∨ q.toInt = -1 → r.toInt = -1) ∧ (p.toInt = -1 ∨ q.toInt = -1 ∨ r.toInt = -1 → s.toInt = -1)) ∧ m_c X τ' a = c ∧ (τ'.1 a 0).toInt = 0 ∧ tkl (mv_S X a) (fun _ _ => False) τ τ' ∧ ∀ j : Int, 0 ≤ j → j < 10 → (τ'.1 (q_rf X a 28) j.toNat).toInt = ly_l p.toInt q.toInt r.toInt s.toInt j) := by
  have k28 : q_kd X (q_rf X a 28) = 39 := (hT.1 a 28 (by rw [ha]; decide)).trans (by rw [ha]; rfl)
  have k29 : q_kd X (q_rf X a 29) = 40 := (hT.1 a 29 (by rw [ha]; decide)).trans (by rw [ha]; rfl)
  have k20 := (tb_k hT ha).1
  have n89 : q_rf X a 28 ≠ q_rf X a 29 := m_ne k28 k29 (by decide)
  have n80 : q_rf X a 28 ≠ q_rf X a 20 := m_ne k28 k20 (by decide)
  have n90 : q_rf X a 29 ≠ q_rf X a 20 := m_ne k29 k20 (by decide)
  have na0 : a ≠ q_rf X a 20 := Ne.symm (m_ne k20 ha (by decide))
  have na8 : a ≠ q_rf X a 28 := Ne.symm (m_ne k28 ha (by decide))
  have na9 : a ≠ q_rf X a 29 := Ne.symm (m_ne k29 ha (by decide))
  have z0 : (0 : Int32).toInt = 0 := rfl
  unfold F_X12_lay
  rw [q_letE (q_si τ a 1 0), q_letE (q_si (q_si τ a 1 0) a 0 0), q_letE (q_si (q_si (q_si τ a 1 0) a 0 0) (q_rf X a 29) (0 : Int32).toNatClampNeg p), q_letE (q_si (q_si (q_si (q_si τ a 1 0) a 0 0) (q_rf X a 29) (0 : Int32).toNatClampNeg p) (q_rf X a 29) (1 : Int32).toNatClampNeg q), q_letE (q_si (q_si (q_si (q_si (q_si τ a 1 0) a 0 0) (q_rf X a 29) (0 : Int32).toNatClampNeg p) (q_rf X a 29) (1 : Int32).toNatClampNeg q) (q_rf X a 29) (2 : Int32).toNatClampNeg r), q_letE (q_si (q_si (q_si (q_si (q_si (q_si τ a 1 0) a 0 0) (q_rf X a 29) (0 : Int32).toNatClampNeg p) (q_rf X a 29) (1 : Int32).toNatClampNeg q) (q_rf X a 29) (2 : Int32).toNatClampNeg r) (q_rf X a 29) (3 : Int32).toNatClampNeg s)]
  obtain ⟨τ1, e1⟩ : ∃ t, t = q_si (q_si (q_si (q_si (q_si (q_si τ a 1 0) a 0 0) (q_rf X a 29) (0 : Int32).toNatClampNeg p) (q_rf X a 29) (1 : Int32).toNatClampNeg q) (q_rf X a 29) (2 : Int32).toNatClampNeg r) (q_rf X a 29) (3 : Int32).toNatClampNeg s := ⟨_, rfl⟩
  have t1 : tkl (fun b f => b = a ∧ (f = 0 ∨ f = 1) ∨ b = q_rf X a 29) (fun _ _ => False) τ τ1 := by
    rw [e1]
    exact (((((tkl.rf.si _ (Or.inl ⟨rfl, Or.inr rfl⟩)).si _ (Or.inl ⟨rfl, Or.inl rfl⟩)).si _ (Or.inr rfl)).si _ (Or.inr rfl)).si _ (Or.inr rfl)).si _ (Or.inr rfl)
  have s1 : τ1.1 a 0 = 0 := by
    rw [e1, q_si_ne na9, q_si_ne na9, q_si_ne na9, q_si_ne na9, si_eq]
  have a3 : τ1.1 (q_rf X a 29) (3 : Int32).toNatClampNeg = s := by rw [e1, si_eq]
  have a2 : τ1.1 (q_rf X a 29) (2 : Int32).toNatClampNeg = r := by rw [e1, si_f (by decide), si_eq]
  have a1 : τ1.1 (q_rf X a 29) (1 : Int32).toNatClampNeg = q := by rw [e1, si_f (by decide), si_f (by decide), si_eq]
  have a0 : τ1.1 (q_rf X a 29) (0 : Int32).toNatClampNeg = p := by rw [e1, si_f (by decide), si_f (by decide), si_f (by decide), si_eq]
  rw [← e1]
  have cT : ∀ τ' : ST, tkl (mv_S X a) (fun _ _ => False) τ τ' → True := fun _ _ => trivial
  obtain ⟨τ2, c1, c2, c3⟩ := lr_clear (X := X) (a := a) ((2147483647 - (0 : Int32).toInt).toNat + 1) 0 τ1 (by decide) (by decide) (by decide) (fun j j0 j1 => absurd j1 (by rw [z0]; omega))
  rw [c1]
  obtain ⟨fu, hfu⟩ : ∃ fu : Nat, (2147483647 - (0 : Int32).toInt).toNat + 1 = fu + 5 := ⟨2147483643, by decide⟩
  rw [hfu]
  -- what stays through the steps
  have kc : ∀ τ' : ST, tkl (fun b _ => b = q_rf X a 28) (fun _ _ => False) τ2 τ' → m_c X τ' a = c ∧ (∀ f, τ'.1 (q_rf X a 29) f = τ1.1 (q_rf X a 29) f) ∧ τ'.1 a 0 = 0 ∧ tkl (mv_S X a) (fun _ _ => False) τ τ' := by
    intro τ' h
    have hh := c2.tr h
    refine ⟨?_, fun f => hh.1 _ f (fun z => n89 z.symm), ?_, ?_⟩
    · rw [← hc]
      funext j
      refine congrArg Int32.toInt ?_
      rw [hh.1 _ _ (fun z => n80 z.symm), t1.1 _ _ (fun z => by
        rcases z with z | z
        · exact na0 z.1.symm
        · exact n90 z.symm)]
    · rw [hh.1 a 0 na8]; exact s1
    · refine (t1.mono (fun b f z => ?_) (fun _ _ z => z)).tr (hh.mono (fun b f z => Or.inr (Or.inr (Or.inl z))) (fun _ _ z => z))
      rcases z with z | z
      · exact Or.inr (Or.inl z)
      · exact Or.inr (Or.inr (Or.inr z))
  have e00 : (0 : Int32) + 1 = 1 := by decide
  have e01 : (1 : Int32) + 1 = 2 := by decide
  have e02 : (2 : Int32) + 1 = 3 := by decide
  have e03 : (3 : Int32) + 1 = 4 := by decide
  have k2 := kc τ2 tkl.rf
  rw [F_X12_lay_L75_3_s]
  by_cases op : ¬ ly_ok (c 0) p.toInt
  · exact Or.inl ⟨fun h => op h.1, τ2, lr_bad _ k2.1 h0 (by decide) ((k2.2.1 _).trans a0) op, k2.1, k2.2.2.2⟩
  replace op := Classical.not_not.mp op
  obtain ⟨n3, g3, d3, τ3, x1, x2, x3, x4, x5, x6⟩ := lr_step (F_X12_lay_L75_3 X a (fu + 4)) n89 k2.1 h0 (n := 0) (g := 0) (e := 0) (i := 0) (by decide) ((k2.2.1 _).trans a0) op ⟨by decide, by decide⟩ (fun j j0 j1 => by rw [c3 j j0 j1]; omega)
  rw [x1, e00, F_X12_lay_L75_3_s]
  have k3 := kc τ3 x5
  have np := ly_nb p.toInt
  by_cases oq : ¬ ly_ok (c 0) q.toInt
  · exact Or.inl ⟨fun h => oq h.2.1, τ3, lr_bad _ k3.1 h0 (by decide) ((k3.2.1 _).trans a1) oq, k3.1, k3.2.2.2⟩
  replace oq := Classical.not_not.mp oq
  have v3 : ∀ j : Int, 0 ≤ j → j < 10 → (τ3.1 (q_rf X a 28) j.toNat).toInt = ly_1 p.toInt j := fun j j0 j1 => by rw [x6 j j0 j1, c3 j j0 j1]; omega
  obtain ⟨n4, g4, d4, τ4, y1, y2, y3, y4, y5, y6⟩ := lr_step (F_X12_lay_L75_3 X a (fu + 3)) n89 k3.1 h0 (n := n3) (g := g3) (e := d3) (i := 1) (by decide) ((k3.2.1 _).trans a1) oq (by omega) (fun j j0 j1 => by rw [v3 j j0 j1]; have := ly_1b p.toInt j; omega)
  rw [y1, e01, F_X12_lay_L75_3_s]
  have k4 := kc τ4 (x5.tr y5)
  have nq := ly_nb q.toInt
  by_cases or_ : ¬ ly_ok (c 0) r.toInt
  · exact Or.inl ⟨fun h => or_ h.2.2.1, τ4, lr_bad _ k4.1 h0 (by decide) ((k4.2.1 _).trans a2) or_, k4.1, k4.2.2.2⟩
  replace or_ := Classical.not_not.mp or_
  have v4 : ∀ j : Int, 0 ≤ j → j < 10 → (τ4.1 (q_rf X a 28) j.toNat).toInt = ly_1 p.toInt j + ly_1 q.toInt j := fun j j0 j1 => by rw [y6 j j0 j1, v3 j j0 j1]
  obtain ⟨n5, g5, d5, τ5, w1, w2, w3, w4, w5, w6⟩ := lr_step (F_X12_lay_L75_3 X a (fu + 2)) n89 k4.1 h0 (n := n4) (g := g4) (e := d4) (i := 2) (by decide) ((k4.2.1 _).trans a2) or_ (by omega) (fun j j0 j1 => by rw [v4 j j0 j1]; have := ly_1b p.toInt j; have := ly_1b q.toInt j; omega)
  rw [w1, e02, F_X12_lay_L75_3_s]
  have k5 := kc τ5 ((x5.tr y5).tr w5)
  have nr := ly_nb r.toInt
  by_cases os : ¬ ly_ok (c 0) s.toInt
  · exact Or.inl ⟨fun h => os h.2.2.2, τ5, lr_bad _ k5.1 h0 (by decide) ((k5.2.1 _).trans a3) os, k5.1, k5.2.2.2⟩
  replace os := Classical.not_not.mp os
  have v5 : ∀ j : Int, 0 ≤ j → j < 10 → (τ5.1 (q_rf X a 28) j.toNat).toInt = ly_1 p.toInt j + ly_1 q.toInt j + ly_1 r.toInt j := fun j j0 j1 => by rw [w6 j j0 j1, v4 j j0 j1]
  obtain ⟨n6, g6, d6, τ6, u1, u2, u3, u4, u5, u6⟩ := lr_step (F_X12_lay_L75_3 X a (fu + 1)) n89 k5.1 h0 (n := n5) (g := g5) (e := d5) (i := 3) (by decide) ((k5.2.1 _).trans a3) os (by omega) (fun j j0 j1 => by rw [v5 j j0 j1]; have := ly_1b p.toInt j; have := ly_1b q.toInt j; have := ly_1b r.toInt j; omega)
  rw [u1, e03, F_X12_lay_L75_3_s]
  have k6 := kc τ6 (((x5.tr y5).tr w5).tr u5)
  refine Or.inr ⟨⟨op, oq, or_, os⟩, n6, g6, τ6, ?_, ?_, ?_, k6.1, by rw [k6.2.2.1]; rfl, k6.2.2.2, fun j j0 j1 => ?_⟩
  · unfold F_X12_lay_B75_3
    rw [if_neg (by decide : ¬ (4 : Int32).toInt < 4)]
  · rw [u2, w2, y2, x2, z0]; omega
  · rw [u4, w4, y4, x4, w3, y3, x3]
    have t0 : (0 : Int32).toInt = 0 := rfl
    constructor
    · rintro ⟨⟨⟨⟨-, h1⟩, h2⟩, h3⟩, h4⟩
      refine ⟨fun h => ?_, fun h => ?_, fun h => ?_⟩
      · rcases h2 with h2 | h2
        · exact absurd h h2.2
        · exact h2
      · rcases h3 with h3 | h3
        · rcases h with h | h
          · exact absurd h h3.1.2
          · exact absurd h h3.2
        · exact h3
      · rcases h4 with h4 | h4
        · rcases h with h | h | h
          · exact absurd h h4.1.1.2
          · exact absurd h h4.1.2
          · exact absurd h h4.2
        · exact h4
    · rintro ⟨h1, h2, h3⟩
      refine ⟨⟨⟨⟨t0, Or.inl t0⟩, ?_⟩, ?_⟩, ?_⟩
      · by_cases e : p.toInt = -1
        · exact Or.inr (h1 e)
        · exact Or.inl ⟨t0, e⟩
      · by_cases e : p.toInt = -1 ∨ q.toInt = -1
        · exact Or.inr (h2 e)
        · exact Or.inl ⟨⟨t0, fun z => e (Or.inl z)⟩, fun z => e (Or.inr z)⟩
      · by_cases e : p.toInt = -1 ∨ q.toInt = -1 ∨ r.toInt = -1
        · exact Or.inr (h3 e)
        · exact Or.inl ⟨⟨⟨t0, fun z => e (Or.inl z)⟩, fun z => e (Or.inr (Or.inl z))⟩, fun z => e (Or.inr (Or.inr z))⟩
  · rw [u6 j j0 j1, v5 j j0 j1]
    rfl
end GL

/-! FROM 49m.mvlay.lean.txt -/
/-! A LAYING CALLED: both -/
/-- behind a call both games are the same, and what else stands as it was -/
def mv_R (X : XW) (lb : Nat → Nat) (C a : Nat) (σ σ' τ τ' : ST) (V : Nat → Int → Int) (c : Int → Int) : Prop :=
  ∃ (V' : Nat → Int → Int) (c' : Int → Int), y_v X (q_rf X C 8) σ' = V' ∧ m_c X τ' a = c' ∧ rg V' c' ∧ (∀ (id : Nat) (i : Int), id = 1 ∨ id = 3 ∨ id = 5 ∨ id = 6 ∨ 18 ≤ id ∧ id < 23 → V' id i = V id i) ∧ (∀ j : Int, 0 ≤ j → j ≤ 4 ∨ 654 ≤ j → c' j = c j) ∧ (∀ b, lb b / 8192 ≠ 1 → b ≠ C → ∀ f, σ'.1 b f = σ.1 b f) ∧ (∀ f, f ≠ 0 → σ'.1 C f = σ.1 C f) ∧ σ'.2 = σ.2 ∧ tkl (mv_S X a) (fun _ _ => False) τ τ'
section GM
variable {X : XW} {lb : Nat → Nat} {C a : Nat} {σ τ σ1 τ1 : ST} {V V1 : Nat → Int → Int} {c c1 l : Int → Int}
theorem mv_mk (Y : y_S X lb) (G : y_G X lb (q_rf X C 8) 1) (hC : lb C / 8192 = 0) (w : y_W X lb (q_rf X C 8) 1 σ σ1 V1) (R1 : rg V1 c1) (hV : ∀ (id : Nat) (i : Int), id = 1 ∨ id = 3 ∨ id = 5 ∨ id = 6 ∨ 18 ≤ id ∧ id < 23 → V1 id i = V id i) (hc : ∀ j : Int, 0 ≤ j → j ≤ 4 ∨ 654 ≤ j → c1 j = c j) (k : Int32) (hm : m_c X τ1 a = c1) (ht : tkl (mv_S X a) (fun _ _ => False) τ τ1) : mv_R X lb C a σ (q_si σ1 C 0 k) τ τ1 V c := by
  have hC1 : lb C / 8192 ≠ 1 := by omega
  refine ⟨V1, c1, ?_, hm, R1, hV, hc, fun b b1 b2 f => ?_, fun f f0 => ?_, w.2.1, ht⟩
  · rw [← w.2.2]
    funext id i
    unfold y_v
    by_cases q : id < 25 ∧ 0 ≤ i
    · rw [if_pos q, if_pos q, q_si_ne (Ne.symm (y_gA_ne Y G q.1 hC1))]
    · rw [if_neg q, if_neg q]
  · rw [q_si_ne b2]; exact w.1 b b1 f
  · rw [si_f f0]; exact w.1 C hC1 f
theorem mv_cell (hT : q_T X) (ha : q_kd X a = 12) (f : Nat) (v : Int32) : m_c X (q_si τ a f v) a = m_c X τ a := by
  have k := (tb_k hT ha).1
  funext j
  exact congrArg Int32.toInt (q_si_ne (m_ne k ha (by decide)) _)
theorem mv_none (σ : ST) (k : Int32) : F_X11_none X σ C k = (-1, q_si σ C 0 k) := by
  unfold F_X11_none
  rw [q_letE]
theorem mv_refuse (τ : ST) (k : Int32) : F_X12_refuse X τ a k = (-1, q_si τ a 0 k) := by
  unfold F_X12_refuse
  rw [q_letE]
theorem mv_good (σ : ST) (v : Int32) : F_X11_good X σ C v = (v, q_si σ C 0 0) := by
  unfold F_X11_good
  rw [q_letE]
theorem mv_yes (σ : ST) : F_X11_yes X σ C = (1, q_si σ C 0 0) := by
  unfold F_X11_yes
  rw [q_letE]
theorem mv_no (σ : ST) (k : Int32) : F_X11_no X σ C k = (0, q_si σ C 0 k) := by
  unfold F_X11_no
  rw [q_letE]
theorem mv_noM (τ : ST) (k : Int32) : F_X12_no X τ a k = (0, q_si τ a 0 k) := by
  unfold F_X12_no
  rw [q_letE]
/-- the reference looks whether it is all in the hand -/
theorem lr_holdL (hc : m_c X τ a = c) (hl : ∀ j : Int, 0 ≤ j → j < 10 → (τ.1 (q_rf X a 28) j.toNat).toInt = l j) {P : Int} (hP : c 6 = P) (bP : 0 ≤ P ∧ P < 6) (fu : Nat) : ∀ x : Int32, (2147483647 - x.toInt).toNat < fu → 0 ≤ x.toInt → x.toInt ≤ 10 → ((∀ k : Int, x.toInt ≤ k → k < 10 → l k ≤ c (34 + 10 * P + k)) ∧ F_X12_lay_L292_5 X τ a fu x = F_X12_lay_E335_6 X τ a) ∨ ((∃ k : Int, x.toInt ≤ k ∧ k < 10 ∧ c (34 + 10 * P + k) < l k) ∧ F_X12_lay_L292_5 X τ a fu x = (-1, q_si τ a 0 9)) := by
  have f6 : (τ.1 (q_rf X a 20) (6 : Int32).toNatClampNeg).toInt = P := (gm_cell (A := 6) hc rfl).trans hP
  induction fu with
  | zero => intro x h; exact absurd h (Nat.not_lt_zero _)
  | succ fu ih =>
    intro x hf x0 x1
    rw [F_X12_lay_L292_5_s]
    unfold F_X12_lay_B292_5
    by_cases q : x.toInt < 10
    · have hh := gm_handOf hc f6 (y := x) rfl bP ⟨x0, q⟩
      have hx : (τ.1 (q_rf X a 28) x.toNatClampNeg).toInt = l x.toInt := hl x.toInt x0 q
      have ex : (x + 1).toInt = x.toInt + 1 := y_inc (by omega)
      rw [if_pos q, q_letE (τ.1 (q_rf X a 28) x.toNatClampNeg), q_letE (τ.1 (q_rf X a 20) (6 : Int32).toNatClampNeg), q_letE (F_X12_handOf X τ a (τ.1 (q_rf X a 20) (6 : Int32).toNatClampNeg) x), hh, hx]
      by_cases q2 : c (34 + 10 * P + x.toInt) < l x.toInt
      · rw [if_pos q2]
        unfold F_X12_lay_E322_7
        rw [mv_refuse]
        exact Or.inr ⟨⟨x.toInt, Int.le_refl _, q, q2⟩, rfl⟩
      · rw [if_neg q2, q_letE (x + 1)]
        rcases ih (x + 1) (by omega) (by omega) (by omega) with ⟨i1, i2⟩ | ⟨⟨k, i1, i2, i3⟩, i4⟩
        · refine Or.inl ⟨fun k k0 k1 => ?_, i2⟩
          by_cases e : k = x.toInt
          · rw [e]; omega
          · exact i1 k (by omega) k1
        · exact Or.inr ⟨⟨k, by omega, i2, i3⟩, i4⟩
    · rw [if_neg q]
      exact Or.inl ⟨fun k k0 k1 => by omega, rfl⟩
theorem mv_lay (Y : y_S X lb) (G : y_G X lb (q_rf X C 8) 1) (hC : lb C / 8192 = 0) (ha : q_kd X a = 12) (R : rg (y_v X (q_rf X C 8) σ) c) (hG : m_G c) (hc : m_c X τ a = c) (p q r s : Int32) :
    ∃ (z : Int32) (σ' : ST) (z' : Int32) (τ' : ST), F_X11_lay X σ C p q r s = (z, σ') ∧ F_X12_lay X τ a p q r s = (z', τ') ∧ z.toInt = z'.toInt ∧ (σ'.1 C 0).toInt = (τ'.1 a 0).toInt ∧ mv_R X lb C a σ σ' τ τ' (y_v X (q_rf X C 8) σ) c := by
  obtain ⟨V, hV⟩ : ∃ V, V = y_v X (q_rf X C 8) σ := ⟨_, rfl⟩
  have w : y_W X lb (q_rf X C 8) 1 σ σ V := by
    rw [hV]; exact y_W.rf
  rw [← hV] at R ⊢
  obtain ⟨b0, b2, b4, b5, b6, b7, b9, b79⟩ := hG.1
  have hT := Y.1
  have t1 := R.1.1
  have t4 := R.1.2.2.2.1
  have t5 := R.1.2.2.2.2.1
  have s2 := R.2.1.2.1
  have s3 := R.2.1.2.2.1
  have s4 := R.2.1.2.2.2
  have kn : ∀ v : Int32, (F_X11_isKindOrNone X σ C v).toInt = if ly_ok (c 0) v.toInt then 1 else 0 := fun v => by
    rw [lk_kindNone w v, t1]
  have hV0 : ∀ (id : Nat) (i : Int), id = 1 ∨ id = 3 ∨ id = 5 ∨ id = 6 ∨ 18 ≤ id ∧ id < 23 → V id i = V id i := fun _ _ _ => rfl
  have hc0 : ∀ j : Int, 0 ≤ j → j ≤ 4 ∨ 654 ≤ j → c j = c j := fun _ _ _ => rfl
  rcases lr_asked (X := X) (τ := τ) hT ha hc b0 p q r s with ⟨nok, τ1, e1, m1, k1⟩ | ⟨⟨op, oq, or_, os⟩, n, g, τ1, e1, hn, hg, m1, st1, k1, hl⟩
  · refine ⟨-1, q_si σ C 0 2, -1, q_si τ1 a 0 2, ?_, e1, rfl, by rw [si_eq, si_eq], mv_mk Y G hC w R hV0 hc0 2 ((mv_cell hT ha 0 2).trans m1) (k1.si _ (Or.inr (Or.inl ⟨rfl, Or.inl rfl⟩)))⟩
    unfold F_X11_lay
    rw [q_letE (F_X11_isKindOrNone X σ C p), kn p]
    by_cases op : ly_ok (c 0) p.toInt
    · rw [if_pos op, if_neg (by decide : ¬ (1 : Int) = 0), q_letE (F_X11_isKindOrNone X σ C q), kn q]
      by_cases oq : ly_ok (c 0) q.toInt
      · rw [if_pos oq, if_neg (by decide : ¬ (1 : Int) = 0), q_letE (F_X11_isKindOrNone X σ C r), kn r]
        by_cases or_ : ly_ok (c 0) r.toInt
        · rw [if_pos or_, if_neg (by decide : ¬ (1 : Int) = 0), q_letE (F_X11_isKindOrNone X σ C s), kn s, if_neg (fun os => nok ⟨op, oq, or_, os⟩), if_pos rfl, mv_none]
          rfl
        · rw [if_neg or_, if_pos rfl, mv_none]
          rfl
      · rw [if_neg oq, if_pos rfl, mv_none]
        rfl
    · rw [if_neg op, if_pos rfl, mv_none]
      rfl
  -- all of them kinds or none
  have m10 : ∀ v : Int, ly_ok (c 0) v → ly_ok 10 v := fun v h => by
    unfold ly_ok at h ⊢
    omega
  have np : p.toInt = -1 ∧ ly_n p.toInt = 0 ∨ p.toInt ≠ -1 ∧ ly_n p.toInt = 1 := by
    unfold ly_n
    split
    · exact Or.inl ⟨by assumption, rfl⟩
    · exact Or.inr ⟨by assumption, rfl⟩
  have nq : q.toInt = -1 ∧ ly_n q.toInt = 0 ∨ q.toInt ≠ -1 ∧ ly_n q.toInt = 1 := by
    unfold ly_n
    split
    · exact Or.inl ⟨by assumption, rfl⟩
    · exact Or.inr ⟨by assumption, rfl⟩
  have nr : r.toInt = -1 ∧ ly_n r.toInt = 0 ∨ r.toInt ≠ -1 ∧ ly_n r.toInt = 1 := by
    unfold ly_n
    split
    · exact Or.inl ⟨by assumption, rfl⟩
    · exact Or.inr ⟨by assumption, rfl⟩
  have ns : s.toInt = -1 ∧ ly_n s.toInt = 0 ∨ s.toInt ≠ -1 ∧ ly_n s.toInt = 1 := by
    unfold ly_n
    split
    · exact Or.inl ⟨by assumption, rfl⟩
    · exact Or.inr ⟨by assumption, rfl⟩
  have cls : F_X11_lay X σ C p q r s = if p.toInt ≠ -1 ∧ (q.toInt = -1 → r.toInt = -1) ∧ (r.toInt = -1 → s.toInt = -1) then F_X11_lay_J71_2 X σ C p q r s else (-1, q_si σ C 0 5) := by
    unfold F_X11_lay
    rw [q_letE (F_X11_isKindOrNone X σ C p), kn p, if_pos op, if_neg (by decide : ¬ (1 : Int) = 0), q_letE (F_X11_isKindOrNone X σ C q), kn q, if_pos oq, if_neg (by decide : ¬ (1 : Int) = 0), q_letE (F_X11_isKindOrNone X σ C r), kn r, if_pos or_, if_neg (by decide : ¬ (1 : Int) = 0), q_letE (F_X11_isKindOrNone X σ C s), kn s, if_pos os, if_neg (by decide : ¬ (1 : Int) = 0)]
    by_cases qp : p.toInt = -1
    · rw [if_pos qp, if_neg (fun z => z.1 qp), mv_none]
      rfl
    · rw [if_neg qp]
      have j54 : F_X11_lay_J54_1 X r s σ C p q = if r.toInt = -1 → s.toInt = -1 then F_X11_lay_J71_2 X σ C p q r s else (-1, q_si σ C 0 5) := by
        unfold F_X11_lay_J54_1
        by_cases qr : r.toInt = -1
        · rw [if_pos qr]
          by_cases qs : s.toInt = -1
          · rw [if_pos qs, if_pos (fun _ => qs)]
          · rw [if_neg qs, if_neg (fun z => qs (z qr)), mv_none]
            rfl
        · rw [if_neg qr, if_pos (fun z => absurd z qr)]
      by_cases qq : q.toInt = -1
      · rw [if_pos qq]
        by_cases qr : r.toInt = -1
        · rw [if_pos qr, j54]
          by_cases e : r.toInt = -1 → s.toInt = -1
          · rw [if_pos e, if_pos ⟨qp, fun _ => qr, e⟩]
          · rw [if_neg e, if_neg (fun z => e z.2.2)]
        · rw [if_neg qr, if_neg (fun z => qr (z.2.1 qq)), mv_none]
          rfl
      · rw [if_neg qq, j54]
        by_cases e : r.toInt = -1 → s.toInt = -1
        · rw [if_pos e, if_pos ⟨qp, fun z => absurd z qq, e⟩]
        · rw [if_neg e, if_neg (fun z => e z.2.2)]
  have mref : ∀ k : Int32, m_c X (q_si τ1 a 0 k) a = c := fun k => (mv_cell hT ha 0 k).trans m1
  have tref : ∀ k : Int32, tkl (mv_S X a) (fun _ _ => False) τ (q_si τ1 a 0 k) := fun k => k1.si _ (Or.inr (Or.inl ⟨rfl, Or.inl rfl⟩))
  rw [e1, cls]
  by_cases ord : ¬ (p.toInt ≠ -1 ∧ (q.toInt = -1 → r.toInt = -1) ∧ (r.toInt = -1 → s.toInt = -1))
  · rw [if_neg ord]
    refine ⟨-1, q_si σ C 0 5, -1, q_si τ1 a 0 5, rfl, ?_, rfl, by rw [si_eq, si_eq], mv_mk Y G hC w R hV0 hc0 5 (mref 5) (tref 5)⟩
    unfold F_X12_lay_E217_7
    by_cases n0 : n.toInt = 0
    · rw [if_pos n0, mv_refuse]
      rfl
    · rw [if_neg n0]
      by_cases g0 : g.toInt = 0
      · exfalso
        have h := hg.mp g0
        clear hg hl cls kn hV0 hc0 mref tref m10 e1
        omega
      · rw [if_neg g0, mv_refuse]
        rfl
  have ord' := Classical.not_not.mp ord
  rw [if_pos ord']
  have n1 : 1 ≤ n.toInt ∧ n.toInt ≤ 4 := by
    clear hg hl cls kn hV0 hc0 mref tref m10 e1
    omega
  have g0 : g.toInt = 0 := hg.mpr (by
    clear hg hl cls kn hV0 hc0 mref tref m10 e1
    omega)
  -- what is wanted
  have gn23 : ((y_gn 23 : Nat) : Int) = 10 := rfl
  obtain ⟨σ4, e4, V4, w4, v4, v23, v9⟩ : ∃ σ4 : ST, σ4 = F_X0_want X (F_X0_want X (F_X0_want X (F_X0_want X (F_X0_clearWanted X σ (q_rf X C 8)) (q_rf X C 8) p 1) (q_rf X C 8) q 1) (q_rf X C 8) r 1) (q_rf X C 8) s 1 ∧ ∃ V4 : Nat → Int → Int, y_W X lb (q_rf X C 8) 1 σ σ4 V4 ∧ (∀ (id : Nat) (i : Int), id ≠ 23 → (id ≠ 0 ∨ i ≠ 9) → V4 id i = V id i) ∧ (∀ j : Int, 0 ≤ j → j < 10 → V4 23 j = ly_l p.toInt q.toInt r.toInt s.toInt j) ∧ V4 0 9 = n.toInt := by
    refine ⟨_, rfl, ?_⟩
    have z0 : (0 : Int32).toInt = 0 := rfl
    have dc : F_X0_clearWanted X σ (q_rf X C 8) = q_si (F_X5_clear X σ (q_rf X (q_rf X C 8) 8)) (q_rf X C 8) 9 0 := by
      unfold F_X0_clearWanted
      rw [q_letE, q_letE]
    have wa := w.clear Y G (id := 23) (r := q_rf X (q_rf X C 8) 8) ⟨by decide, by decide⟩ rfl
    have wb : y_W X lb (q_rf X C 8) 1 σ (q_si (F_X5_clear X σ (q_rf X (q_rf X C 8) 8)) (q_rf X C 8) 9 0) (y_up (y_bl V 23 ((y_gn 23 : Nat) : Int) (fun _ => 0)) 0 9 0) := wa.si Y G (id := 0) (by decide) 9 0
    rw [← dc] at wb
    have x23 : ∀ j : Int, 0 ≤ j → j < 10 → y_up (y_bl V 23 ((y_gn 23 : Nat) : Int) (fun _ => 0)) 0 9 0 23 j = 0 := fun j j0 j1 => (y_up_ne (Or.inl (by decide))).trans (if_pos ⟨rfl, j0, by rw [gn23]; exact j1⟩)
    have x9 : y_up (y_bl V 23 ((y_gn 23 : Nat) : Int) (fun _ => 0)) 0 9 0 0 9 = 0 := y_up_eq _ _ _ _
    have xs : ∀ (id : Nat) (i : Int), id ≠ 23 → (id ≠ 0 ∨ i ≠ 9) → y_up (y_bl V 23 ((y_gn 23 : Nat) : Int) (fun _ => 0)) 0 9 0 id i = V id i := fun id i i23 i0 => (y_up_ne i0).trans (if_neg (fun z => i23 z.1))
    obtain ⟨Vb, hVb⟩ : ∃ v, v = y_up (y_bl V 23 ((y_gn 23 : Nat) : Int) (fun _ => 0)) 0 9 0 := ⟨_, rfl⟩
    rw [← hVb] at wb x23 x9 xs
    obtain ⟨Vp, wp, sp, p23, p9⟩ := ly_want Y G wb (m10 _ op) (fun j j0 j1 => by rw [x23 j j0 j1]; omega) (by rw [x9]; omega)
    obtain ⟨Vq, wq, sq, q23, q9⟩ := ly_want Y G wp (m10 _ oq) (fun j j0 j1 => by rw [p23 j j0 j1, x23 j j0 j1]; have := ly_1b p.toInt j; omega) (by rw [p9, x9]; omega)
    obtain ⟨Vr, wr, sr, r23, r9⟩ := ly_want Y G wq (m10 _ or_) (fun j j0 j1 => by rw [q23 j j0 j1, p23 j j0 j1, x23 j j0 j1]; have := ly_1b p.toInt j; have := ly_1b q.toInt j; omega) (by rw [q9, p9, x9]; omega)
    obtain ⟨Vs, ws, ss, s23, s9⟩ := ly_want Y G wr (m10 _ os) (fun j j0 j1 => by rw [r23 j j0 j1, q23 j j0 j1, p23 j j0 j1, x23 j j0 j1]; have := ly_1b p.toInt j; have := ly_1b q.toInt j; have := ly_1b r.toInt j; omega) (by rw [r9, q9, p9, x9]; omega)
    refine ⟨Vs, ws, fun id i i23 i0 => ?_, fun j j0 j1 => ?_, ?_⟩
    · rw [ss id i i23 i0, sr id i i23 i0, sq id i i23 i0, sp id i i23 i0, xs id i i23 i0]
    · rw [s23 j j0 j1, r23 j j0 j1, q23 j j0 j1, p23 j j0 j1, x23 j j0 j1]
      unfold ly_l
      omega
    · rw [s9, r9, q9, p9, x9, hn]; omega
  have R4 : rg V4 c := R.w hG (fun id i i23 i24 i0 => v4 id i i23 (by omega))
  have hV4 : ∀ (id : Nat) (i : Int), id = 1 ∨ id = 3 ∨ id = 5 ∨ id = 6 ∨ 18 ≤ id ∧ id < 23 → V4 id i = V id i := fun id i h => v4 id i (by omega) (by omega)
  have cref : ∀ k : Int32, mv_R X lb C a σ (q_si σ4 C 0 k) τ (q_si τ1 a 0 k) V c := fun k => mv_mk Y G hC w4 R4 hV4 hc0 k (mref k) (tref k)
  have f40 : (σ4.1 (q_rf X C 8) 9).toInt = n.toInt := (w4.rd (id := 0) (by decide) 9 rfl).trans v9
  have f41 : (σ4.1 (q_rf X (q_rf X C 8) 0) 3).toInt = c 4 := (w4.rd (id := 1) (by decide) 3 rfl).trans R4.1.2.2.2.1
  have f43 : (σ4.1 (q_rf X C 8) 7).toInt = c 7 := (w4.rd (id := 0) (by decide) 7 rfl).trans R4.2.1.2.2.2
  have f48 : (σ4.1 (q_rf X C 8) 6).toInt = c 8 := (w4.rd (id := 0) (by decide) 6 rfl).trans R4.2.1.2.2.1.1
  have f53 : (σ4.1 (q_rf X (q_rf X C 8) 0) 4).toInt = c 2 := (w4.rd (id := 1) (by decide) 4 rfl).trans R4.1.2.2.2.2.1
  have g4 : (τ1.1 (q_rf X a 20) (4 : Int32).toNatClampNeg).toInt = c 4 := gm_cell (A := 4) m1 rfl
  have g7 : (τ1.1 (q_rf X a 20) (7 : Int32).toNatClampNeg).toInt = c 7 := gm_cell (A := 7) m1 rfl
  have g8 : (τ1.1 (q_rf X a 20) (8 : Int32).toNatClampNeg).toInt = c 8 := gm_cell (A := 8) m1 rfl
  have g6 : (τ1.1 (q_rf X a 20) (6 : Int32).toNatClampNeg).toInt = c 6 := gm_cell (A := 6) m1 rfl
  unfold F_X11_lay_J71_2 F_X12_lay_E217_7
  rw [q_letE (F_X0_clearWanted X σ (q_rf X C 8)), q_letE (F_X0_want X (F_X0_clearWanted X σ (q_rf X C 8)) (q_rf X C 8) p 1), q_letE (F_X0_want X (F_X0_want X (F_X0_clearWanted X σ (q_rf X C 8)) (q_rf X C 8) p 1) (q_rf X C 8) q 1), q_letE (F_X0_want X (F_X0_want X (F_X0_want X (F_X0_clearWanted X σ (q_rf X C 8)) (q_rf X C 8) p 1) (q_rf X C 8) q 1) (q_rf X C 8) r 1), q_letE (F_X0_want X (F_X0_want X (F_X0_want X (F_X0_want X (F_X0_clearWanted X σ (q_rf X C 8)) (q_rf X C 8) p 1) (q_rf X C 8) q 1) (q_rf X C 8) r 1) (q_rf X C 8) s 1), ← e4]
  rw [q_letE (σ4.1 (q_rf X C 8) 9), q_letE (σ4.1 (q_rf X (q_rf X C 8) 0) 3), f40, f41, if_neg (by omega : ¬ n.toInt = 0), if_pos g0, q_letE (τ1.1 (q_rf X a 20) (4 : Int32).toNatClampNeg), g4]
  by_cases qm : c 4 < n.toInt
  · rw [if_pos qm, if_pos qm, mv_none, mv_refuse]
    exact ⟨-1, _, -1, _, rfl, rfl, rfl, by rw [si_eq, si_eq], cref 7⟩
  rw [if_neg qm, if_neg qm, q_letE (σ4.1 (q_rf X C 8) 7), f43, q_letE (τ1.1 (q_rf X a 20) (7 : Int32).toNatClampNeg), g7]
  by_cases q7 : c 7 = 1
  · rw [if_neg (by omega : ¬ c 7 = 0), if_pos q7, mv_none, mv_refuse]
    exact ⟨-1, _, -1, _, rfl, rfl, rfl, by rw [si_eq, si_eq], cref 9⟩
  rw [if_pos (by omega : c 7 = 0), if_neg q7, q_letE (σ4.1 (q_rf X C 8) 6), f48, q_letE (τ1.1 (q_rf X a 20) (8 : Int32).toNatClampNeg), g8]
  by_cases q8 : ¬ c 8 = -1
  · rw [if_neg q8, if_neg (by have := s3.2; omega : ¬ c 8 < 0), mv_none, mv_refuse]
    exact ⟨-1, _, -1, _, rfl, rfl, rfl, by rw [si_eq, si_eq], cref 9⟩
  have q8' := Classical.not_not.mp q8
  rw [if_pos q8', if_pos (by omega : c 8 < 0), q_letE (σ4.1 (q_rf X (q_rf X C 8) 0) 4), f53, q_letE (τ1.1 (q_rf X a 20) (6 : Int32).toNatClampNeg), g6]
  by_cases q2 : c 2 = 0
  · rw [if_pos q2, if_pos (by omega : c 6 < 0), mv_none, mv_refuse]
    exact ⟨-1, _, -1, _, rfl, rfl, rfl, by rw [si_eq, si_eq], cref 9⟩
  rw [if_neg q2, if_neg (by omega : ¬ c 6 < 0)]
  have hP : 0 ≤ c 6 ∧ c 6 < c 2 := by omega
  have p5 : V4 0 5 = c 6 := by
    have z := R4.2.1.2.1
    rw [if_neg q2] at z
    exact z
  have zero : (0 : Int32).toInt = 0 := rfl
  have ho := ly_holdL Y G w4 (N := c 0) R4.1.1 ⟨by omega, by omega⟩ p5 ⟨hP.1, by omega⟩ ((2147483647 - (0 : Int32).toInt).toNat + 1) 0 (by decide) (by decide) (by rw [zero]; omega)
  have hm := lr_holdL (X := X) (τ := τ1) (l := ly_l p.toInt q.toInt r.toInt s.toInt) m1 hl rfl ⟨hP.1, by omega⟩ ((2147483647 - (0 : Int32).toInt).toNat + 1) 0 (by decide) (by decide) (by decide)
  obtain ⟨FU, hFU⟩ : ∃ f, f = (2147483647 - (0 : Int32).toInt).toNat + 1 := ⟨_, rfl⟩
  rw [← hFU, zero] at ho hm
  -- cards of kinds that are not there are not wanted
  have lz : ∀ k : Int, c 0 ≤ k → k < 10 → ly_l p.toInt q.toInt r.toInt s.toInt k = 0 := fun k k0 k1 => by
    have h1 : ∀ v : Int, ly_ok (c 0) v → ly_1 v k = 0 := fun v h => by
      unfold ly_ok at h
      unfold ly_1
      rw [if_neg (by omega)]
    unfold ly_l
    rw [h1 _ op, h1 _ oq, h1 _ or_, h1 _ os]
    rfl
  have lnn : ∀ k : Int, 0 ≤ ly_l p.toInt q.toInt r.toInt s.toInt k := fun k => by
    have h1 := ly_1b p.toInt k
    have h2 := ly_1b q.toInt k
    have h3 := ly_1b r.toInt k
    have h4 := ly_1b s.toInt k
    unfold ly_l
    omega
  have v7 : ∀ k : Int, 0 ≤ k → k < 10 → V4 7 (10 * c 6 + k) = c (34 + 10 * c 6 + k) := fun k k0 k1 => by
    have z := R4.2.2.2.1.1 (10 * c 6 + k) (by omega) (by omega)
    have e : (34 : Int) + (10 * c 6 + k) = 34 + 10 * c 6 + k := by omega
    rw [e] at z
    exact z
  have hw : F_X0_holdsWanted X σ4 (q_rf X C 8) = F_X0_holdsWanted_L2_1 X σ4 (q_rf X C 8) ((2147483647 - (0 : Int32).toInt).toNat + 1) 0 := rfl
  rw [q_letE (F_X0_holdsWanted X σ4 (q_rf X C 8)), hw, ← hFU]
  rcases hm with ⟨hall, em⟩ | ⟨⟨k, k0, k1, kl⟩, em⟩
  · have h1 := ho.2.mpr (fun k k0 k1 => by rw [v23 k k0 (by omega), v7 k k0 (by omega)]; exact hall k k0 (by omega))
    rw [h1, if_neg (by decide : ¬ (1 : Int) = 0), em]
    have sl : m_S (ly_l p.toInt q.toInt r.toInt s.toInt) 0 10 = n.toInt := by
      rw [ly_S (m10 _ op) (m10 _ oq) (m10 _ or_) (m10 _ os), hn]
    have lo : m_lo c (ly_l p.toInt q.toInt r.toInt s.toInt) (c 6) := ⟨hG, ⟨hP.1, by omega⟩, fun k k0 k1 => ⟨lnn k, hall k k0 k1⟩, by rw [sl]; exact n1⟩
    have b79' := lo.c9
    have s80 := hG.S80 (p := c 6) (k := 10) hP.1 (by omega) (by decide) (by decide)
    have z10 : m_S c (34 + 10 * c 6) (10 : Int).toNat = m_S c (34 + 10 * c 6) 10 := rfl
    have l80 := hG.L80 b9.1 (Int.le_refl (c 9))
    have gp : gl_p V4 (ly_l p.toInt q.toInt r.toInt s.toInt) (c 6) (c 9) (c 0) := by
      refine ⟨p5, R4.1.1, ⟨hP.1, by omega⟩, ⟨by omega, by omega⟩, ⟨by omega, by omega⟩, fun t t0 t1 => ⟨v23 t t0 t1, lnn t⟩, by rw [sl]; exact n1.2, ?_, fun t t0 t1 => ⟨?_, ?_⟩, ?_⟩
      · rw [R4.2.2.2.2.1.2.1]; omega
      · rw [v7 t t0 t1]
        have := hG.h80 (p := c 6) (k := t) hP.1 (by omega) t0 t1
        omega
      · rw [R4.2.2.2.2.2.1 (c 6) t hP.1 (by omega) t0 t1]
        have := hG.A_bd (c 6) t (c 9).toNat (by omega)
        omega
      · rw [R4.2.2.2.1.2 (c 6) hP.1 (by omega)]; omega
    obtain ⟨V5, w5, gv⟩ := gm_layWanted Y G w4 gp R4.2.2.2.2.1.1
    unfold F_X12_lay_E335_6
    rw [q_letE (F_X0_layWanted X σ4 (q_rf X C 8)), q_letE (τ1.1 (q_rf X a 20) (6 : Int32).toNatClampNeg)]
    obtain ⟨c', mc, tc, gr, gG⟩ := gm_laysDown (X := X) (τ := τ1) hT ha m1 lo rfl (v1 := τ1.1 (q_rf X a 20) (6 : Int32).toNatClampNeg) g6 hl
    rw [q_letE (F_X12_laysDown X τ1 a (τ1.1 (q_rf X a 20) (6 : Int32).toNatClampNeg) (q_rf X a 28))]
    obtain ⟨σ5, e5⟩ : ∃ t, t = F_X0_layWanted X σ4 (q_rf X C 8) := ⟨_, rfl⟩
    obtain ⟨τ5, u5⟩ : ∃ t, t = F_X12_laysDown X τ1 a (τ1.1 (q_rf X a 20) (6 : Int32).toNatClampNeg) (q_rf X a 28) := ⟨_, rfl⟩
    rw [← e5] at w5 ⊢
    rw [← u5] at mc tc ⊢
    have R5 := rg.lay R4 lo rfl gv gr
    rw [q_letE (σ5.1 (q_rf X (q_rf X C 8) 2) 1), mv_good, q_letE (F_X12_heapMany X τ5 a)]
    have na0 : a ≠ q_rf X a 20 := Ne.symm (m_ne (tb_k hT ha).1 ha (by decide))
    refine ⟨_, _, _, τ5, rfl, rfl, ?_, ?_, mv_mk Y G hC w5 R5 (fun id i h => ?_) (fun j j0 h => ?_) 0 mc (k1.tr (tc.mono (fun b f z => Or.inl z) (fun _ _ z => z)))⟩
    · rw [lk_heap mc gG]
      exact (w5.rd (id := 2) (by decide) 1 rfl).trans R5.2.2.2.2.1.2.1
    · rw [si_eq, tc.1 a 0 na0, st1]
      rfl
    · rw [y_up_ne (by omega), gv.1 id i (by omega) (by omega) (by omega) (by omega) (by omega) (by omega) (by omega) (by omega)]
      exact hV4 id i h
    · exact gr.1 j j0 (by omega) (by omega) (by omega) (by omega)
  · have h1 : (F_X0_holdsWanted_L2_1 X σ4 (q_rf X C 8) FU 0).toInt = 0 := by
      rcases ho.1 with h | h
      · have z := ho.2.mp h k k0 (by
          by_cases e : c 0 ≤ k
          · have y := lz k e k1
            have x := hG.h80 (p := c 6) (k := k) hP.1 (by omega) k0 k1
            omega
          · omega)
        rw [v23 k k0 k1, v7 k k0 k1] at z
        omega
      · exact h
    rw [h1, if_pos rfl, em, mv_none]
    exact ⟨-1, _, -1, _, rfl, rfl, rfl, by rw [si_eq, si_eq], cref 9⟩
end GM

/-! FROM 49n.movers.lean.txt -/
/-! LEAVE, DOUBT, BEND CALLED -/
theorem rg.bend {V V' : Nat → Int → Int} {c c' : Int → Int} (R : rg V c) (hV : ∀ (id : Nat) (i : Int), id ≠ 10 → id ≠ 11 → V' id i = V id i) (hc : ∀ j : Int, j < 10 ∨ 22 ≤ j → c' j = c j) (hp : ∀ p : Int, 0 ≤ p → p < 6 → V' 10 p = c' (10 + p) ∧ V' 11 p = c' (16 + p)) : rg V' c' := by
  obtain ⟨⟨t1, t2, t3, t4, t5, t6⟩, ⟨s1, s2, s3, s4⟩, hpp, ⟨h1, h2⟩, ⟨l1, l2, l3⟩, ⟨a1, a2⟩⟩ := R
  obtain ⟨lS, lL, lK, lA, lP⟩ := gm_low (c := c) (c' := c') (fun j hj => hc j (by omega))
  have e9 : c' 9 = c 9 := hc 9 (by decide)
  have e2 : c' 2 = c 2 := hc 2 (by decide)
  have u : ∀ (id : Nat) (i : Int), (id < 10 ∨ 11 < id) → V' id i = V id i := fun id i h => hV id i (by omega) (by omega)
  refine ⟨⟨?_, ?_, ?_, ?_, ?_, ?_⟩, ⟨?_, ?_, ?_, ?_⟩, fun p p0 p1 => ⟨(hp p p0 p1).1, (hp p p0 p1).2, ?_, ?_⟩, ⟨fun j j0 j1 => ?_, fun p p0 p1 => ?_⟩, ⟨?_, ?_, fun k k0 k1 => ?_⟩, ⟨fun p k p0 p1 k0 k1 => ?_, fun k k0 k1 => ?_⟩⟩
  · rw [u 1 0 (by decide), hc 0 (by decide)]; exact t1
  · rw [u 1 1 (by decide), hc 1 (by decide)]; exact t2
  · rw [u 1 2 (by decide), hc 3 (by decide)]; exact t3
  · rw [u 1 3 (by decide), hc 4 (by decide)]; exact t4
  · rw [u 1 4 (by decide), e2]; exact t5
  · rw [hc 3 (by decide)]; exact t6
  · rw [u 0 4 (by decide), hc 5 (by decide)]; exact s1
  · rw [u 0 5 (by decide), e2, hc 6 (by decide)]; exact s2
  · rw [u 0 6 (by decide), hc 8 (by decide)]; exact s3
  · rw [u 0 7 (by decide), hc 7 (by decide)]; exact s4
  · rw [u 12 p (by decide), hc _ (by omega)]; exact (hpp p p0 p1).2.2.1
  · rw [u 13 p (by decide), hc _ (by omega)]; exact (hpp p p0 p1).2.2.2
  · rw [u 7 j (by decide), hc _ (by omega)]; exact h1 j j0 j1
  · rw [u 9 p (by decide), lS _ _ (by omega)]; exact h2 p p0 p1
  · rw [u 2 0 (by decide), e9]; exact l1
  · rw [u 2 1 (by decide), e9, lL]; exact l2
  · rw [e9] at k1
    obtain ⟨y1, y2, y3, y5, y4⟩ := l3 k k0 k1
    rw [u 14 k (by decide), u 15 k (by decide), u 16 k (by decide), hc (94 + 7 * k) (by omega), hc (94 + 7 * k + 1) (by omega), hc (94 + 7 * k + 2) (by omega)]
    refine ⟨y1, y2, y3, y5, fun i i0 i1 => ?_⟩
    rw [u 17 _ (by decide), hc _ (by omega)]
    exact y4 i i0 i1
  · rw [u 8 _ (by decide), e9, lA]; exact a1 p k p0 p1 k0 k1
  · rw [u 4 k (by decide)]
    unfold m_I
    rw [e9, e2, lA, lP _ _ k0]
    exact a2 k k0 k1
section GN
variable {X : XW} {lb : Nat → Nat} {C a : Nat} {σ τ σ1 τ1 : ST} {V V1 : Nat → Int → Int} {c c1 l : Int → Int}
/-- the reference's call begins -/
theorem mv_beg (hT : q_T X) (ha : q_kd X a = 12) (hc : m_c X τ a = c) : m_c X (q_si (q_si τ a 1 0) a 0 0) a = c ∧ (q_si (q_si τ a 1 0) a 0 0).1 a 0 = 0 ∧ tkl (mv_S X a) (fun _ _ => False) τ (q_si (q_si τ a 1 0) a 0 0) := by
  refine ⟨?_, si_eq _ _ _ _, (tkl.rf.si _ (Or.inr (Or.inl ⟨rfl, Or.inr rfl⟩))).si _ (Or.inr (Or.inl ⟨rfl, Or.inl rfl⟩))⟩
  rw [mv_cell hT ha 0 0, mv_cell hT ha 1 0, hc]
theorem mv_leave (Y : y_S X lb) (G : y_G X lb (q_rf X C 8) 1) (hC : lb C / 8192 = 0) (ha : q_kd X a = 12) (R : rg (y_v X (q_rf X C 8) σ) c) (hG : m_G c) (hc : m_c X τ a = c) :
    ∃ (z : Int32) (σ' : ST) (z' : Int32) (τ' : ST), F_X11_leave X σ C = (z, σ') ∧ F_X12_leave X τ a = (z', τ') ∧ z.toInt = z'.toInt ∧ (σ'.1 C 0).toInt = (τ'.1 a 0).toInt ∧ mv_R X lb C a σ σ' τ τ' (y_v X (q_rf X C 8) σ) c := by
  obtain ⟨V, hV⟩ : ∃ V, V = y_v X (q_rf X C 8) σ := ⟨_, rfl⟩
  have w : y_W X lb (q_rf X C 8) 1 σ σ V := by
    rw [hV]; exact y_W.rf
  rw [← hV] at R ⊢
  obtain ⟨b0, b2, b4, b5, b6, b7, b9, b79⟩ := hG.1
  obtain ⟨m2, s2, k2⟩ := mv_beg Y.1 ha hc
  have f1 : (σ.1 (q_rf X C 8) 7).toInt = c 7 := (w.rd (id := 0) (by decide) 7 rfl).trans R.2.1.2.2.2
  unfold F_X11_leave F_X12_leave
  rw [q_letE (σ.1 (q_rf X C 8) 7), f1, q_letE (q_si τ a 1 0), q_letE (q_si (q_si τ a 1 0) a 0 0)]
  obtain ⟨τ2, e2⟩ : ∃ t, t = q_si (q_si τ a 1 0) a 0 0 := ⟨_, rfl⟩
  rw [← e2] at m2 s2 k2 ⊢
  have g7 : (τ2.1 (q_rf X a 20) (7 : Int32).toNatClampNeg).toInt = c 7 := gm_cell (A := 7) m2 rfl
  rw [q_letE (τ2.1 (q_rf X a 20) (7 : Int32).toNatClampNeg), g7]
  by_cases q : c 7 = 0
  · rw [if_pos q, if_pos q, mv_none, mv_refuse]
    exact ⟨-1, _, -1, _, rfl, rfl, rfl, by rw [si_eq, si_eq], mv_mk Y G hC w R (fun _ _ _ => rfl) (fun _ _ _ => rfl) 8 ((mv_cell Y.1 ha 0 8).trans m2) (k2.si _ (Or.inr (Or.inl ⟨rfl, Or.inl rfl⟩)))⟩
  · rw [if_neg q, if_neg q]
    obtain ⟨V', c', w3, m3, t3, R3, hV', hc', -⟩ := gm_letLie Y G ha w R hG m2 (by omega)
    rw [q_letE (F_X0_letLie X σ (q_rf X C 8)), q_letE (F_X12_leaves X τ2 a)]
    obtain ⟨σ3, e3⟩ : ∃ t, t = F_X0_letLie X σ (q_rf X C 8) := ⟨_, rfl⟩
    obtain ⟨τ3, u3⟩ : ∃ t, t = F_X12_leaves X τ2 a := ⟨_, rfl⟩
    rw [← e3] at w3 ⊢
    rw [← u3] at m3 t3 ⊢
    rw [q_letE (σ3.1 (q_rf X C 8) 5), q_letE (τ3.1 (q_rf X a 20) (6 : Int32).toNatClampNeg), mv_good]
    have na0 : a ≠ q_rf X a 20 := Ne.symm (m_ne (tb_k Y.1 ha).1 ha (by decide))
    refine ⟨_, _, _, τ3, rfl, rfl, ?_, ?_, mv_mk Y G hC w3 R3 (fun id i h => hV' id i (by omega)) (fun j j0 h => hc' j (by omega) (by omega) (by omega) (by omega)) 0 m3 (k2.tr (t3.mono (fun b f z => Or.inl z) (fun _ _ z => z)))⟩
    · have z5 := R3.2.1.2.1
      rw [if_neg (by rw [hc' 2 (by decide) (by decide) (by decide) (by decide)]; omega)] at z5
      have f5 : (σ3.1 (q_rf X C 8) 5).toInt = V' 0 5 := w3.rd (id := 0) (by decide) 5 rfl
      exact f5.trans (z5.trans (gm_cell (A := 6) m3 rfl).symm)
    · rw [si_eq, t3.1 a 0 na0, s2]
theorem mv_doubt (Y : y_S X lb) (G : y_G X lb (q_rf X C 8) 1) (hC : lb C / 8192 = 0) (ha : q_kd X a = 12) (R : rg (y_v X (q_rf X C 8) σ) c) (hG : m_G c) (hW : ∀ q : Int, 0 ≤ q → q < 6 → (0 ≤ c (22 + q) ∧ c (22 + q) ≤ 1000000) ∧ 0 ≤ c (28 + q) ∧ c (28 + q) ≤ 1000000) (hc : m_c X τ a = c) (v : Int32) :
    ∃ (z : Int32) (σ' : ST) (z' : Int32) (τ' : ST), F_X11_doubt X σ C v = (z, σ') ∧ F_X12_doubt X τ a v = (z', τ') ∧ z.toInt = z'.toInt ∧ (σ'.1 C 0).toInt = (τ'.1 a 0).toInt ∧ mv_R X lb C a σ σ' τ τ' (y_v X (q_rf X C 8) σ) c := by
  obtain ⟨V, hV⟩ : ∃ V, V = y_v X (q_rf X C 8) σ := ⟨_, rfl⟩
  have w : y_W X lb (q_rf X C 8) 1 σ σ V := by
    rw [hV]; exact y_W.rf
  rw [← hV] at R ⊢
  obtain ⟨b0, b2, b4, b5, b6, b7, b9, b79⟩ := hG.1
  obtain ⟨m2, s2, k2⟩ := mv_beg Y.1 ha hc
  have f7 : (σ.1 (q_rf X C 8) 7).toInt = c 7 := (w.rd (id := 0) (by decide) 7 rfl).trans R.2.1.2.2.2
  have f5 : (σ.1 (q_rf X C 8) 5).toInt = V 0 5 := w.rd (id := 0) (by decide) 5 rfl
  have pc := lk_player w v
  rw [R.1.2.2.2.2.1] at pc
  unfold F_X11_doubt F_X11_doubterStatus F_X12_doubt
  rw [q_letE (F_X11_isPlayer X σ C v), pc, q_letE (q_si τ a 1 0), q_letE (q_si (q_si τ a 1 0) a 0 0)]
  obtain ⟨τ2, e2⟩ : ∃ t, t = q_si (q_si τ a 1 0) a 0 0 := ⟨_, rfl⟩
  rw [← e2] at m2 s2 k2 ⊢
  have pm := lk_playerAt m2 b2 v
  have g7 : (τ2.1 (q_rf X a 20) (7 : Int32).toNatClampNeg).toInt = c 7 := gm_cell (A := 7) m2 rfl
  have g6 : (τ2.1 (q_rf X a 20) (6 : Int32).toNatClampNeg).toInt = c 6 := gm_cell (A := 6) m2 rfl
  rw [q_letE (F_X12_isPlayerAt X τ2 a v), pm]
  have ref : ∀ k : Int32, mv_R X lb C a σ (q_si σ C 0 k) τ (q_si τ2 a 0 k) V c := fun k => mv_mk Y G hC w R (fun _ _ _ => rfl) (fun _ _ _ => rfl) k ((mv_cell Y.1 ha 0 k).trans m2) (k2.si _ (Or.inr (Or.inl ⟨rfl, Or.inl rfl⟩)))
  by_cases q : ¬ (0 ≤ v.toInt ∧ v.toInt < c 2)
  · rw [if_neg q, if_pos rfl, if_pos rfl, q_letE (2 : Int32), if_neg (by decide : ¬ (2 : Int32).toInt = 0), mv_none, mv_refuse]
    exact ⟨-1, _, -1, _, rfl, rfl, rfl, by rw [si_eq, si_eq], ref 2⟩
  have q' := Classical.not_not.mp q
  rw [if_pos q', if_neg (by decide : ¬ (1 : Int) = 0), if_neg (by decide : ¬ (1 : Int) = 0), q_letE (σ.1 (q_rf X C 8) 7), f7, q_letE (τ2.1 (q_rf X a 20) (7 : Int32).toNatClampNeg), g7]
  by_cases q7 : c 7 = 0
  · rw [if_pos q7, if_pos q7, q_letE (8 : Int32), if_neg (by decide : ¬ (8 : Int32).toInt = 0), mv_none, mv_refuse]
    exact ⟨-1, _, -1, _, rfl, rfl, rfl, by rw [si_eq, si_eq], ref 8⟩
  have v5 : V 0 5 = c 6 := by
    have z := R.2.1.2.1
    rw [if_neg (by omega)] at z
    exact z
  rw [if_neg q7, if_neg q7, q_letE (σ.1 (q_rf X C 8) 5), f5, v5, q_letE (τ2.1 (q_rf X a 20) (6 : Int32).toNatClampNeg), g6]
  by_cases q6 : v.toInt = c 6
  · rw [if_pos q6, if_pos q6.symm, q_letE (5 : Int32), if_neg (by decide : ¬ (5 : Int32).toInt = 0), mv_none, mv_refuse]
    exact ⟨-1, _, -1, _, rfl, rfl, rfl, by rw [si_eq, si_eq], ref 5⟩
  rw [if_neg q6, if_neg (fun z => q6 z.symm), q_letE (0 : Int32), if_pos (by decide : (0 : Int32).toInt = 0)]
  obtain ⟨z, z', σ', τ', V', c', t, P, kd, tn, W, u, x1, x2, x3, x4, x5, x6, x7, x8, x9, x10, x11, x12, x13, x14⟩ := gm_doubt2 Y G w R m2 hG (by omega) hW (v := v) (v' := v) rfl rfl q'
  rw [x1, q_biP z σ', mv_good, q_biP z, x2, q_biP z' τ']
  have na0 : a ≠ q_rf X a 20 := Ne.symm (m_ne (tb_k Y.1 ha).1 ha (by decide))
  refine ⟨z, _, z', τ', rfl, rfl, by rw [x3, x4], ?_, mv_mk Y G hC x6 x9 (fun id i h => x11.1 id i (by omega) (by omega) (by omega) (by omega) (by omega) (by omega) (by omega)) (fun j j0 h => x12.1 j j0 (by omega) (by omega) (by omega) (by omega) (by omega) (by omega) (by omega) (by omega)) 0 x7 (k2.tr (x8.mono (fun b f z => Or.inl z) (fun _ _ z => z)))⟩
  rw [si_eq, x8.1 a 0 na0, s2]
theorem mv_bend (Y : y_S X lb) (G : y_G X lb (q_rf X C 8) 1) (hC : lb C / 8192 = 0) (ha : q_kd X a = 12) (R : rg (y_v X (q_rf X C 8) σ) c) (hG : m_G c) (hc : m_c X τ a = c) (v x y : Int32) :
    ∃ (z : Int32) (σ' : ST) (z' : Int32) (τ' : ST), F_X11_bend X σ C v x y = (z, σ') ∧ F_X12_bend X τ a v x y = (z', τ') ∧ z.toInt = z'.toInt ∧ (σ'.1 C 0).toInt = (τ'.1 a 0).toInt ∧ mv_R X lb C a σ σ' τ τ' (y_v X (q_rf X C 8) σ) c := by
  obtain ⟨V, hV⟩ : ∃ V, V = y_v X (q_rf X C 8) σ := ⟨_, rfl⟩
  have w : y_W X lb (q_rf X C 8) 1 σ σ V := by
    rw [hV]; exact y_W.rf
  rw [← hV] at R ⊢
  obtain ⟨b0, b2, b4, b5, b6, b7, b9, b79⟩ := hG.1
  obtain ⟨m2, s2, k2⟩ := mv_beg Y.1 ha hc
  have pc := lk_player w v
  rw [R.1.2.2.2.2.1] at pc
  unfold F_X11_bend F_X12_bend
  rw [q_letE (F_X11_isPlayer X σ C v), pc, q_letE (q_si τ a 1 0), q_letE (q_si (q_si τ a 1 0) a 0 0)]
  obtain ⟨τ2, e2⟩ : ∃ t, t = q_si (q_si τ a 1 0) a 0 0 := ⟨_, rfl⟩
  rw [← e2] at m2 s2 k2 ⊢
  have pm := lk_playerAt m2 b2 v
  rw [q_letE (F_X12_isPlayerAt X τ2 a v), pm]
  have ref : ∀ k : Int32, mv_R X lb C a σ (q_si σ C 0 k) τ (q_si τ2 a 0 k) V c := fun k => mv_mk Y G hC w R (fun _ _ _ => rfl) (fun _ _ _ => rfl) k ((mv_cell Y.1 ha 0 k).trans m2) (k2.si _ (Or.inr (Or.inl ⟨rfl, Or.inl rfl⟩)))
  by_cases q : ¬ (0 ≤ v.toInt ∧ v.toInt < c 2)
  · rw [if_neg q, if_pos rfl, if_pos rfl, mv_no, mv_noM]
    exact ⟨0, _, 0, _, rfl, rfl, rfl, by rw [si_eq, si_eq], ref 2⟩
  have q' := Classical.not_not.mp q
  rw [if_pos q', if_neg (by decide : ¬ (1 : Int) = 0), if_neg (by decide : ¬ (1 : Int) = 0), q_letE (F_X11_isSixteenths X σ x), lk_six, q_letE x.toInt64, q_letE (F_X12_isIn X τ2 x.toInt64 (0 : Int64) (16 : Int64)), lk_sixAt]
  by_cases qx : ¬ (0 ≤ x.toInt ∧ x.toInt ≤ 16)
  · rw [if_neg qx, if_pos rfl, if_pos rfl, mv_no, mv_noM]
    exact ⟨0, _, 0, _, rfl, rfl, rfl, by rw [si_eq, si_eq], ref 5⟩
  have qx' := Classical.not_not.mp qx
  rw [if_pos qx', if_neg (by decide : ¬ (1 : Int) = 0), if_neg (by decide : ¬ (1 : Int) = 0), q_letE (F_X11_isSixteenths X σ y), lk_six, q_letE y.toInt64, q_letE (F_X12_isIn X τ2 y.toInt64 (0 : Int64) (16 : Int64)), lk_sixAt]
  by_cases qy : ¬ (0 ≤ y.toInt ∧ y.toInt ≤ 16)
  · rw [if_neg qy, if_pos rfl, if_pos rfl, mv_no, mv_noM]
    exact ⟨0, _, 0, _, rfl, rfl, rfl, by rw [si_eq, si_eq], ref 5⟩
  have qy' := Classical.not_not.mp qy
  have gn10 : ((y_gn 10 : Nat) : Int) = 6 := rfl
  have gn11 : ((y_gn 11 : Nat) : Int) = 6 := rfl
  have e10 : (10 : Int32).toInt = 10 := rfl
  have e16 : (16 : Int32).toInt = 16 := rfl
  have i10 : ((10 : Int32) + v).toInt = 10 + v.toInt := by rw [ar_add, e10, ar_wr (by omega) (by omega)]
  have i16 : ((16 : Int32) + v).toInt = 16 + v.toInt := by rw [ar_add, e16, ar_wr (by omega) (by omega)]
  have w3 := w.set Y G (id := 10) (r := q_rf X (q_rf X (q_rf X C 8) 1) 3) ⟨by decide, by decide⟩ rfl v x q'.1 (by rw [gn10]; omega)
  have w4 := w3.set Y G (id := 11) (r := q_rf X (q_rf X (q_rf X C 8) 1) 4) ⟨by decide, by decide⟩ rfl v y q'.1 (by rw [gn11]; omega)
  rw [if_pos qy', if_neg (by decide : ¬ (1 : Int) = 0), if_neg (by decide : ¬ (1 : Int) = 0), q_letE (F_X5_set X σ (q_rf X (q_rf X (q_rf X C 8) 1) 3) v x), q_letE (F_X5_set X (F_X5_set X σ (q_rf X (q_rf X (q_rf X C 8) 1) 3) v x) (q_rf X (q_rf X (q_rf X C 8) 1) 4) v y), mv_yes, q_letE ((10 : Int32) + v), q_letE (q_si τ2 (q_rf X a 20) ((10 : Int32) + v).toNatClampNeg x), q_letE ((16 : Int32) + v), q_letE (q_si (q_si τ2 (q_rf X a 20) ((10 : Int32) + v).toNatClampNeg x) (q_rf X a 20) ((16 : Int32) + v).toNatClampNeg y)]
  have m4 : m_c X (q_si (q_si τ2 (q_rf X a 20) ((10 : Int32) + v).toNatClampNeg x) (q_rf X a 20) ((16 : Int32) + v).toNatClampNeg y) a = m_up (m_up c (10 + v.toInt) x.toInt) (16 + v.toInt) y.toInt := by
    rw [m_c_up _ (by omega) i16, m_c_up _ (by omega) i10, m2]
  have na0 : a ≠ q_rf X a 20 := Ne.symm (m_ne (tb_k Y.1 ha).1 ha (by decide))
  have R4 : rg (y_up (y_up V 10 v.toInt x.toInt) 11 v.toInt y.toInt) (m_up (m_up c (10 + v.toInt) x.toInt) (16 + v.toInt) y.toInt) := by
    refine R.bend (fun id i h1 h2 => by rw [y_up_ne (Or.inl h2), y_up_ne (Or.inl h1)]) (fun j h => by rw [m_up_ne (by omega), m_up_ne (by omega)]) (fun p p0 p1 => ⟨?_, ?_⟩)
    · rw [y_up_ne (Or.inl (by decide)), m_up_ne (by omega)]
      by_cases e : p = v.toInt
      · rw [e, y_up_eq, m_up_eq]
      · rw [y_up_ne (Or.inr e), m_up_ne (by omega)]; exact (R.2.2.1 p p0 p1).1
    · by_cases e : p = v.toInt
      · rw [e, y_up_eq, m_up_eq]
      · rw [y_up_ne (Or.inr e), y_up_ne (Or.inl (by decide)), m_up_ne (by omega), m_up_ne (by omega)]; exact (R.2.2.1 p p0 p1).2.1
  refine ⟨1, _, 1, _, rfl, rfl, rfl, ?_, mv_mk Y G hC w4 R4 (fun id i h => by rw [y_up_ne (by omega), y_up_ne (by omega)]) (fun j j0 h => by rw [m_up_ne (by omega), m_up_ne (by omega)]) 0 m4 ((k2.si _ (Or.inl rfl)).si _ (Or.inl rfl))⟩
  rw [si_eq, q_si_ne na0, q_si_ne na0, s2]
end GN
