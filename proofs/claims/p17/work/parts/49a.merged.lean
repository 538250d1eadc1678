/-! FROM 49a.game.lean.txt -/
/-! THE GAME OF BOTH: the relation; a laying left, a player bent -/
def rg_t (V : Nat → Int → Int) (c : Int → Int) : Prop := V 1 0 = c 0 ∧ V 1 1 = c 1 ∧ V 1 2 = c 3 ∧ V 1 3 = c 4 ∧ V 1 4 = c 2 ∧ 0 ≤ c 3 ∧ c 3 ≤ 2
def rg_s (V : Nat → Int → Int) (c : Int → Int) : Prop := V 0 4 = c 5 ∧ V 0 5 = (if c 2 = 0 then 0 else c 6) ∧ (V 0 6 = c 8 ∧ -1 ≤ c 8) ∧ V 0 7 = c 7
def rg_p (V : Nat → Int → Int) (c : Int → Int) : Prop := ∀ p : Int, 0 ≤ p → p < 6 → V 10 p = c (10 + p) ∧ V 11 p = c (16 + p) ∧ V 12 p = c (22 + p) ∧ V 13 p = c (28 + p)
def rg_h (V : Nat → Int → Int) (c : Int → Int) : Prop := (∀ j : Int, 0 ≤ j → j < 60 → V 7 j = c (34 + j)) ∧ ∀ p : Int, 0 ≤ p → p < 6 → V 9 p = m_S c (34 + 10 * p) 10
def rg_l (V : Nat → Int → Int) (c : Int → Int) : Prop := V 2 0 = c 9 ∧ V 2 1 = m_L c (c 9).toNat ∧ ∀ k : Int, 0 ≤ k → k < c 9 → V 14 k = c (94 + 7 * k) ∧ V 15 k = c (94 + 7 * k + 1) ∧ V 16 k = c (94 + 7 * k + 2) ∧ (0 ≤ c (94 + 7 * k) ∧ c (94 + 7 * k) < 6) ∧ ∀ i : Int, 0 ≤ i → i < c (94 + 7 * k + 2) → V 17 (4 * k + i) = c (94 + 7 * k + 3 + i)
def rg_a (V : Nat → Int → Int) (c : Int → Int) : Prop := (∀ p k : Int, 0 ≤ p → p < 6 → 0 ≤ k → k < 10 → V 8 (10 * p + k) = m_A c p k (c 9).toNat) ∧ ∀ k : Int, 0 ≤ k → k < 10 → V 4 k = m_I c k
def rg (V : Nat → Int → Int) (c : Int → Int) : Prop := rg_t V c ∧ rg_s V c ∧ rg_p V c ∧ rg_h V c ∧ rg_l V c ∧ rg_a V c
theorem gm_xor (x y : Int32) : (x ^^^ y).toInt < 0 ↔ ¬ (x.toInt < 0 ↔ y.toInt < 0) := by
  have h1 : (x ^^^ y).toBitVec.msb = (x.toBitVec.msb ^^ y.toBitVec.msb) := BitVec.msb_xor
  rw [BitVec.msb_eq_toInt, BitVec.msb_eq_toInt, BitVec.msb_eq_toInt] at h1
  have a : (x ^^^ y).toBitVec.toInt = (x ^^^ y).toInt := rfl
  have b : x.toBitVec.toInt = x.toInt := rfl
  have d : y.toBitVec.toInt = y.toInt := rfl
  rw [a, b, d] at h1
  by_cases p : x.toInt < 0 <;> by_cases q : y.toInt < 0 <;> by_cases r : (x ^^^ y).toInt < 0 <;> simp [p, q, r] at h1 ⊢
/-- what floorMod answers -/
theorem gm_fm {X : XW} {σ : ST} {x y : Int32} {a k : Int} (hx : x.toInt = a) (hy : y.toInt = k) (ha : -1000 ≤ a ∧ a ≤ 1000) (hk : 0 < k ∧ k ≤ 1000) : (F_J9_floorMod_7cf53 X σ x y).toInt = a % k := by
  have hm : (x % y).toInt = a.tmod k := by rw [Int32.toInt_mod, hx, hy]
  have n1 := Int.emod_nonneg a (by omega : k ≠ 0)
  have n2 := Int.emod_lt_of_pos a hk.1
  have hxr := gm_xor x y
  rw [hx, hy] at hxr
  unfold F_J9_floorMod_7cf53
  rw [q_letE, q_letE, q_letE, hm]
  by_cases q : a < 0
  · rw [if_pos (hxr.mpr (by omega))]
    have e := Int.tmod_add_mul_tdiv a k
    have t0 : a.tmod k = a % k ∨ a.tmod k = a % k - k := by
      have z := @Int.tmod_eq_emod a k
      rw [z]
      have kk : (k.natAbs : Int) = k := by omega
      split
      · exact Or.inl (by omega)
      · exact Or.inr (by omega)
    by_cases q2 : a.tmod k = 0
    · rw [if_pos q2, hm]
      omega
    · rw [if_neg q2]
      have t1 : a.tmod k ≤ 0 := by
        have z := Int.neg_tmod (-a) k
        rw [Int.neg_neg] at z
        rw [z]
        have y2 : 0 ≤ (-a).tmod k := by rw [Int.tmod_eq_emod_of_nonneg (by omega)]; exact Int.emod_nonneg _ (by omega)
        omega
      rw [ar_add, hm, hy, ar_wr (by omega) (by omega)]
      omega
  · rw [if_neg (fun z => by have := hxr.mp z; omega), hm, Int.tmod_eq_emod_of_nonneg (by omega)]
section GA
variable {X : XW} {lb : Nat → Nat} {g o a : Nat} {σ τ σ0 τ0 : ST} {V : Nat → Int → Int} {c : Int → Int}
theorem y_W.rd (w : y_W X lb g o σ0 σ V) {id : Nat} (h : id < 25) (f : Nat) {i : Int} (hi : (f : Int) = i) : (σ.1 (y_gA X g id) f).toInt = V id i := by
  rw [y_v_rdn h, w.2.2, hi]
/-- sums read the same behind a change below 34 -/
theorem gm_low {c' : Int → Int} (h : ∀ j : Int, 34 ≤ j → c' j = c j) : (∀ b n, 34 ≤ b → m_S c' b n = m_S c b n) ∧ (∀ n, m_L c' n = m_L c n) ∧ (∀ w k n, 34 ≤ w → m_K c' w k n = m_K c w k n) ∧ (∀ p k n, m_A c' p k n = m_A c p k n) ∧ ∀ k n, 0 ≤ k → m_P c' k n = m_P c k n := by
  have hK : ∀ (w k : Int) (n : Nat), 34 ≤ w → m_K c' w k n = m_K c w k n := by
    intro w k n hw
    induction n with
    | zero => rfl
    | succ n ih =>
      show m_K c' w k n + (if k < 0 ∨ c' (w + 3 + (n : Int)) = k then 1 else 0) = m_K c w k n + (if k < 0 ∨ c (w + 3 + (n : Int)) = k then 1 else 0)
      rw [ih, h _ (by omega)]
  refine ⟨fun b n hb => m_S_ext (fun j a1 a2 => h j (by omega)), fun n => ?_, hK, fun p k n => ?_, fun k n hk => ?_⟩
  · induction n with
    | zero => rfl
    | succ n ih =>
      show m_L c' n + c' (94 + 7 * (n : Int) + 2) = m_L c n + c (94 + 7 * (n : Int) + 2)
      rw [ih, h _ (by omega)]
  · induction n with
    | zero => rfl
    | succ n ih =>
      show m_A c' p k n + (if 0 ≤ p ∧ c' (94 + 7 * (n : Int)) ≠ p then 0 else m_K c' (94 + 7 * (n : Int)) k (c' (94 + 7 * (n : Int) + 2)).toNat) = m_A c p k n + (if 0 ≤ p ∧ c (94 + 7 * (n : Int)) ≠ p then 0 else m_K c (94 + 7 * (n : Int)) k (c (94 + 7 * (n : Int) + 2)).toNat)
      rw [ih, h _ (by omega), h _ (by omega), hK _ _ _ (by omega)]
  · induction n with
    | zero => rfl
    | succ n ih =>
      show m_P c' k n + c' (34 + 10 * (n : Int) + k) = m_P c k n + c (34 + 10 * (n : Int) + k)
      rw [ih, h _ (by omega)]
/-- kind, turn, winner, open anew: the rest stands -/
theorem rg.st {V' : Nat → Int → Int} {c' : Int → Int} (h : rg V c) (hV : ∀ id i, id ≠ 0 → V' id i = V id i) (hc : ∀ j : Int, j ≠ 5 → j ≠ 6 → j ≠ 7 → j ≠ 8 → c' j = c j) (s : rg_s V' c') : rg V' c' := by
  obtain ⟨⟨t1, t2, t3, t4, t5, t6⟩, -, hp, ⟨h1, h2⟩, ⟨l1, l2, l3⟩, ⟨a1, a2⟩⟩ := h
  obtain ⟨lS, lL, lK, lA, lP⟩ := gm_low (c := c) (c' := c') (fun j hj => hc j (by omega) (by omega) (by omega) (by omega))
  have e9 : c' 9 = c 9 := hc 9 (by decide) (by decide) (by decide) (by decide)
  have e2 : c' 2 = c 2 := hc 2 (by decide) (by decide) (by decide) (by decide)
  refine ⟨⟨?_, ?_, ?_, ?_, ?_, ?_⟩, s, fun p p0 p1 => ?_, ⟨fun j j0 j1 => ?_, fun p p0 p1 => ?_⟩, ⟨?_, ?_, fun k k0 k1 => ?_⟩, ⟨fun p k p0 p1 k0 k1 => ?_, fun k k0 k1 => ?_⟩⟩
  · rw [hV 1 0 (by decide), hc 0 (by decide) (by decide) (by decide) (by decide)]; exact t1
  · rw [hV 1 1 (by decide), hc 1 (by decide) (by decide) (by decide) (by decide)]; exact t2
  · rw [hV 1 2 (by decide), hc 3 (by decide) (by decide) (by decide) (by decide)]; exact t3
  · rw [hV 1 3 (by decide), hc 4 (by decide) (by decide) (by decide) (by decide)]; exact t4
  · rw [hV 1 4 (by decide), e2]; exact t5
  · rw [hc 3 (by decide) (by decide) (by decide) (by decide)]; exact t6
  · rw [hV 10 p (by decide), hV 11 p (by decide), hV 12 p (by decide), hV 13 p (by decide), hc _ (by omega) (by omega) (by omega) (by omega), hc _ (by omega) (by omega) (by omega) (by omega), hc _ (by omega) (by omega) (by omega) (by omega), hc _ (by omega) (by omega) (by omega) (by omega)]
    exact hp p p0 p1
  · rw [hV 7 j (by decide), hc _ (by omega) (by omega) (by omega) (by omega)]; exact h1 j j0 j1
  · rw [hV 9 p (by decide), lS _ _ (by omega)]; exact h2 p p0 p1
  · rw [hV 2 0 (by decide), e9]; exact l1
  · rw [hV 2 1 (by decide), e9, lL]; exact l2
  · rw [e9] at k1
    obtain ⟨y1, y2, y3, y5, y4⟩ := l3 k k0 k1
    rw [hV 14 k (by decide), hV 15 k (by decide), hV 16 k (by decide), hc _ (by omega) (by omega) (by omega) (by omega), hc _ (by omega) (by omega) (by omega) (by omega), hc _ (by omega) (by omega) (by omega) (by omega)]
    refine ⟨y1, y2, y3, y5, fun i i0 i1 => ?_⟩
    rw [hV 17 _ (by decide), hc _ (by omega) (by omega) (by omega) (by omega)]
    exact y4 i i0 i1
  · rw [hV 8 _ (by decide), e9, lA]; exact a1 p k p0 p1 k0 k1
  · rw [hV 4 k (by decide)]
    unfold m_I
    rw [e9, e2, lA, lP _ _ k0]
    exact a2 k k0 k1
end GA
