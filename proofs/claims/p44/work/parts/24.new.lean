/-! what the model's new table (its fifth block) is while a text is read -/
def m_sum (c : Int → Int) (b k : Int) : Int := c (b + 34 + k) + c (b + 44 + k) + c (b + 54 + k) + c (b + 64 + k) + c (b + 74 + k) + c (b + 84 + k)
def m_N (c : Int → Int) : Prop :=
  (0 ≤ c 3720 ∧ c 3720 ≤ 10) ∧ (0 ≤ c 3721 ∧ c 3721 ≤ 8) ∧ (0 ≤ c 3722 ∧ c 3722 ≤ 6) ∧ (0 ≤ c 3723 ∧ c 3723 ≤ 2) ∧ (0 ≤ c 3724 ∧ c 3724 ≤ 4) ∧
  (∀ j, 3725 ≤ j → j < 3730 → c j = 0) ∧ (∀ j, 3742 ≤ j → j < 3754 → c j = 0) ∧ (∀ j, 3754 ≤ j → j < 3814 → 0 ≤ c j) ∧ (∀ k, 0 ≤ k → k < 10 → m_sum c 3720 k ≤ 8) ∧ (∀ j, 3814 ≤ j → j < 4650 → c j = 0) ∧ (∀ p k, 0 ≤ p → p < 6 → 0 ≤ k → k < 10 → c 3720 ≤ k → c (3754 + 10 * p + k) = 0)
theorem m_N.ext {c c' : Int → Int} (e : ∀ j, c' j = c j) (h : m_N c) : m_N c' := by
  have : c' = c := funext e
  rw [this]; exact h
/-- a cell written that the new table's hands don't reach -/
theorem m_N.wr {c c' : Int → Int} {A v : Int} (h : m_N c) (e : ∀ j : Int, 0 ≤ j → c' j = if j = A then v else c j) (hA : A = 3721 ∧ 0 ≤ v ∧ v ≤ 8 ∨ A = 3722 ∧ 0 ≤ v ∧ v ≤ 6 ∨ A = 3723 ∧ 0 ≤ v ∧ v ≤ 2 ∨ A = 3724 ∧ 0 ≤ v ∧ v ≤ 4 ∨ 3730 ≤ A ∧ A < 3742) : m_N c' := by
  obtain ⟨h0, h1, h2, h3, h4, h5, h6, h7, h8, h9, h10⟩ := h
  have q : ∀ j : Int, 0 ≤ j → j ≠ A → c' j = c j := fun j hj hn => by rw [e j hj, if_neg hn]
  have s : ∀ j : Int, 0 ≤ j → j = A → c' j = v := fun j hj hn => by rw [e j hj, if_pos hn]
  have r : ∀ (j lo hi : Int), 0 ≤ j → (lo ≤ c j ∧ c j ≤ hi) → (j = A → lo ≤ v ∧ v ≤ hi) → lo ≤ c' j ∧ c' j ≤ hi := by
    intro j lo hi hj hc hv
    by_cases w : j = A
    · rw [s j hj w]; exact hv w
    · rw [q j hj w]; exact hc
  refine ⟨r _ _ _ (by decide) h0 (by omega), r _ _ _ (by decide) h1 (by omega), r _ _ _ (by decide) h2 (by omega), r _ _ _ (by decide) h3 (by omega), r _ _ _ (by decide) h4 (by omega), ?_, ?_, ?_, ?_, ?_, ?_⟩
  · intro j a b; rw [q j (by omega) (by omega)]; exact h5 j a b
  · intro j a b; rw [q j (by omega) (by omega)]; exact h6 j a b
  · intro j a b; rw [q j (by omega) (by omega)]; exact h7 j a b
  · intro k a b
    have w := h8 k a b
    unfold m_sum at w ⊢
    rw [q _ (by omega) (by omega), q _ (by omega) (by omega), q _ (by omega) (by omega), q _ (by omega) (by omega), q _ (by omega) (by omega), q _ (by omega) (by omega)]
    exact w
  · intro j a b; rw [q j (by omega) (by omega)]; exact h9 j a b
  · intro p k a0 a1 a2 a3 a4; rw [q 3720 (by decide) (by omega)] at a4; rw [q _ (by omega) (by omega)]; exact h10 p k a0 a1 a2 a3 a4
/-- the number of kinds told, while no hand is -/
theorem m_N.w0 {c c' : Int → Int} {v : Int} (h : m_N c) (z : ∀ j, 3754 ≤ j → j < 3814 → c j = 0) (e : ∀ j : Int, 0 ≤ j → c' j = if j = 3720 then v else c j) (hv : 0 ≤ v ∧ v ≤ 10) : m_N c' := by
  obtain ⟨h0, h1, h2, h3, h4, h5, h6, h7, h8, h9, h10⟩ := h
  have q : ∀ j : Int, 0 ≤ j → j ≠ 3720 → c' j = c j := fun j hj hn => by rw [e j hj, if_neg hn]
  refine ⟨?_, ?_, ?_, ?_, ?_, ?_, ?_, ?_, ?_, ?_, ?_⟩
  · rw [e 3720 (by decide), if_pos rfl]; exact hv
  · rw [q _ (by decide) (by decide)]; exact h1
  · rw [q _ (by decide) (by decide)]; exact h2
  · rw [q _ (by decide) (by decide)]; exact h3
  · rw [q _ (by decide) (by decide)]; exact h4
  · intro j a b; rw [q j (by omega) (by omega)]; exact h5 j a b
  · intro j a b; rw [q j (by omega) (by omega)]; exact h6 j a b
  · intro j a b; rw [q j (by omega) (by omega)]; exact h7 j a b
  · intro k a b
    have w := h8 k a b
    unfold m_sum at w ⊢
    rw [q _ (by omega) (by omega), q _ (by omega) (by omega), q _ (by omega) (by omega), q _ (by omega) (by omega), q _ (by omega) (by omega), q _ (by omega) (by omega)]
    exact w
  · intro j a b; rw [q j (by omega) (by omega)]; exact h9 j a b
  · intro p k a0 a1 a2 a3 a4; rw [q _ (by omega) (by omega)]; exact z _ (by omega) (by omega)
/-- a new table's cells, all 0 but for the most -/
theorem m_N.new {c c' : Int → Int} {v : Int} (z : ∀ j, 3720 ≤ j → j < 4650 → c j = 0) (e : ∀ j : Int, 0 ≤ j → c' j = if j = 3724 then v else c j) (hv : v = 4) : m_N c' := by
  have q : ∀ j : Int, 3720 ≤ j → j < 4650 → j ≠ 3724 → c' j = 0 := fun j hj h2 hn => by rw [e j (by omega), if_neg hn]; exact z j hj h2
  refine ⟨?_, ?_, ?_, ?_, ?_, ?_, ?_, ?_, ?_, ?_, ?_⟩
  · rw [q _ (by decide) (by decide) (by decide)]; decide
  · rw [q _ (by decide) (by decide) (by decide)]; decide
  · rw [q _ (by decide) (by decide) (by decide)]; decide
  · rw [q _ (by decide) (by decide) (by decide)]; decide
  · rw [e 3724 (by decide), if_pos rfl, hv]; decide
  · intro j a b; exact q j (by omega) (by omega) (by omega)
  · intro j a b; exact q j (by omega) (by omega) (by omega)
  · intro j a b; rw [q j (by omega) (by omega) (by omega)]; decide
  · intro k a b
    unfold m_sum
    rw [q _ (by omega) (by omega) (by omega), q _ (by omega) (by omega) (by omega), q _ (by omega) (by omega) (by omega), q _ (by omega) (by omega) (by omega), q _ (by omega) (by omega) (by omega), q _ (by omega) (by omega) (by omega)]
    decide
  · intro j a b; exact q j (by omega) (by omega) (by omega)
  · intro p k a0 a1 a2 a3 a4; exact q _ (by omega) (by omega) (by omega)
/-- a hand told -/
theorem m_N.hand {c c' : Int → Int} {p k v : Int} (h : m_N c) (hp : 0 ≤ p ∧ p < 6) (hk : 0 ≤ k ∧ k < 10) (hkc : k < c 3720) (e : ∀ j : Int, 0 ≤ j → c' j = if j = 3754 + (10 * p + k) then v else c j) (hv : 0 ≤ v) (hs : m_sum c 3720 k + v ≤ 8) : m_N c' := by
  obtain ⟨h0, h1, h2, h3, h4, h5, h6, h7, h8, h9, h10⟩ := h
  have q : ∀ j : Int, 0 ≤ j → j ≠ 3754 + (10 * p + k) → c' j = c j := fun j hj hn => by rw [e j hj, if_neg hn]
  refine ⟨?_, ?_, ?_, ?_, ?_, ?_, ?_, ?_, ?_, ?_, ?_⟩
  · rw [q _ (by omega) (by omega)]; exact h0
  · rw [q _ (by omega) (by omega)]; exact h1
  · rw [q _ (by omega) (by omega)]; exact h2
  · rw [q _ (by omega) (by omega)]; exact h3
  · rw [q _ (by omega) (by omega)]; exact h4
  · intro j a b; rw [q j (by omega) (by omega)]; exact h5 j a b
  · intro j a b; rw [q j (by omega) (by omega)]; exact h6 j a b
  · intro j a b
    rw [e j (by omega)]
    split
    · exact hv
    · exact h7 j a b
  · intro i a b
    by_cases w : i = k
    · subst w
      have z := fun j (a : 3754 ≤ j) (b : j < 3814) => h7 j a b
      have z0 := h7 (3720 + 34 + i) (by omega) (by omega)
      have z1 := h7 (3720 + 44 + i) (by omega) (by omega)
      have z2 := h7 (3720 + 54 + i) (by omega) (by omega)
      have z3 := h7 (3720 + 64 + i) (by omega) (by omega)
      have z4 := h7 (3720 + 74 + i) (by omega) (by omega)
      have z5 := h7 (3720 + 84 + i) (by omega) (by omega)
      unfold m_sum at hs ⊢
      rw [e _ (by omega), e _ (by omega), e _ (by omega), e _ (by omega), e _ (by omega), e _ (by omega)]
      repeat' split
      all_goals omega
    · have u := h8 i a b
      unfold m_sum at u ⊢
      rw [q _ (by omega) (by omega), q _ (by omega) (by omega), q _ (by omega) (by omega), q _ (by omega) (by omega), q _ (by omega) (by omega), q _ (by omega) (by omega)]
      exact u
  · intro j a b; rw [q j (by omega) (by omega)]; exact h9 j a b
  · intro p' k' a0 a1 a2 a3 a4; rw [q 3720 (by decide) (by omega)] at a4; rw [q _ (by omega) (by omega)]; exact h10 p' k' a0 a1 a2 a3 a4
def m_ps (c : Int → Int) (k : Int) : Nat → Int
  | 0 => 0
  | n + 1 => m_ps c k n + c (3754 + (10 * (n : Int)) + k)
theorem m_ps_succ (c : Int → Int) (k p : Int) (h : 0 ≤ p) : m_ps c k (p + 1).toNat = m_ps c k p.toNat + c (3754 + 10 * p + k) := by
  have e : (p + 1).toNat = p.toNat + 1 := by omega
  have e2 : (p.toNat : Int) = p := by omega
  rw [e]
  show m_ps c k p.toNat + c (3754 + 10 * (p.toNat : Int) + k) = _
  rw [e2]
theorem m_ps_6 (c : Int → Int) (k : Int) : m_ps c k 6 = m_sum c 3720 k := by
  unfold m_sum
  show ((((((0 + c (3754 + 10 * 0 + k)) + c (3754 + 10 * 1 + k)) + c (3754 + 10 * 2 + k)) + c (3754 + 10 * 3 + k)) + c (3754 + 10 * 4 + k)) + c (3754 + 10 * 5 + k)) = _
  have f : ∀ i j : Int, i = j → c i = c j := fun i j h => by rw [h]
  rw [f (3754 + 10 * 0 + k) (3720 + 34 + k) (by omega), f (3754 + 10 * 1 + k) (3720 + 44 + k) (by omega), f (3754 + 10 * 2 + k) (3720 + 54 + k) (by omega), f (3754 + 10 * 3 + k) (3720 + 64 + k) (by omega), f (3754 + 10 * 4 + k) (3720 + 74 + k) (by omega), f (3754 + 10 * 5 + k) (3720 + 84 + k) (by omega)]
  omega
theorem m_ps_bd {c : Int → Int} (h : m_N c) {k : Int} (hk : 0 ≤ k ∧ k < 10) (n : Nat) (hn : n ≤ 6) : 0 ≤ m_ps c k n ∧ m_ps c k n ≤ 8 := by
  have h7 := h.2.2.2.2.2.2.2.1
  have h8 := h.2.2.2.2.2.2.2.2.1 k hk.1 hk.2
  have st : ∀ i : Nat, i < 6 → m_ps c k i ≤ m_ps c k (i + 1) := by
    intro i hi
    have := h7 (3754 + (10 * (i : Int)) + k) (by omega) (by omega)
    show m_ps c k i ≤ m_ps c k i + _
    omega
  have a0 : m_ps c k 0 ≤ m_ps c k 1 := st 0 (by decide)
  have a1 : m_ps c k 1 ≤ m_ps c k 2 := st 1 (by decide)
  have a2 : m_ps c k 2 ≤ m_ps c k 3 := st 2 (by decide)
  have a3 : m_ps c k 3 ≤ m_ps c k 4 := st 3 (by decide)
  have a4 : m_ps c k 4 ≤ m_ps c k 5 := st 4 (by decide)
  have a5 : m_ps c k 5 ≤ m_ps c k 6 := st 5 (by decide)
  have z : m_ps c k 0 = 0 := rfl
  have e := m_ps_6 c k
  have hn' : n = 0 ∨ n = 1 ∨ n = 2 ∨ n = 3 ∨ n = 4 ∨ n = 5 ∨ n = 6 := by omega
  rcases hn' with rfl | rfl | rfl | rfl | rfl | rfl | rfl <;> omega
