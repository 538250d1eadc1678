/-! the new table, told to its end, becomes the game -/
def m_new (c : Int → Int) : Prop := ∃ c1 : Int → Int, m_N c1 ∧ 2 ≤ c1 3720 ∧ 1 ≤ c1 3724 ∧ ∀ j : Int, 0 ≤ j → c j = if j = 3726 then (if c1 3722 = 0 then -1 else 0) else if j = 3728 then -1 else c1 j
theorem m_new.mk {c c1 c2 : Int → Int} {w v : Int} (hN : m_N c1) (h0 : 2 ≤ c1 3720) (h4 : 1 ≤ c1 3724) (e1 : ∀ j : Int, 0 ≤ j → c2 j = if j = 3728 then w else c1 j) (hw : w = -1) (e : ∀ j : Int, 0 ≤ j → c j = if j = 3726 then v else c2 j) (hv : c1 3722 = 0 ∧ v = -1 ∨ c1 3722 ≠ 0 ∧ v = 0) : m_new c := by
  refine ⟨c1, hN, h0, h4, fun j hj => ?_⟩
  rw [e j hj, e1 j hj, hw]
  by_cases q : j = 3726
  · rw [if_pos q, if_pos q]
    rcases hv with ⟨a, b⟩ | ⟨a, b⟩
    · rw [if_pos a]; exact b
    · rw [if_neg a]; exact b
  · rw [if_neg q, if_neg q]
theorem m_S_10 (c : Int → Int) (b : Int) : m_S c b 10 = c b + c (b + 1) + c (b + 2) + c (b + 3) + c (b + 4) + c (b + 5) + c (b + 6) + c (b + 7) + c (b + 8) + c (b + 9) := by
  show ((((((((((0 + c (b + 0)) + c (b + 1)) + c (b + 2)) + c (b + 3)) + c (b + 4)) + c (b + 5)) + c (b + 6)) + c (b + 7)) + c (b + 8)) + c (b + 9)) = _
  have e : c (b + 0) = c b := by rw [Int.add_zero]
  omega
theorem m_G.new {c c' : Int → Int} (h : m_new c) (e : ∀ j : Int, 0 ≤ j → j < 930 → c' j = c (3720 + j)) : m_G c' ∧ m_W c' 0 := by
  obtain ⟨c1, hN, k0, k4, ec⟩ := h
  obtain ⟨h0, h1, h2, h3, h4, h5, h6, h7, h8, h9, h10⟩ := hN
  have q : ∀ j : Int, 0 ≤ j → j < 930 → j ≠ 6 → j ≠ 8 → c' j = c1 (3720 + j) := fun j a b n6 n8 => by
    rw [e j a b, ec _ (by omega), if_neg (by omega), if_neg (by omega)]
  have e0 : c' 0 = c1 3720 := q 0 (by decide) (by decide) (by decide) (by decide)
  have e2 : c' 2 = c1 3722 := q 2 (by decide) (by decide) (by decide) (by decide)
  have e4 : c' 4 = c1 3724 := q 4 (by decide) (by decide) (by decide) (by decide)
  have e5 : c' 5 = 0 := (q 5 (by decide) (by decide) (by decide) (by decide)).trans (h5 3725 (by decide) (by decide))
  have e7 : c' 7 = 0 := (q 7 (by decide) (by decide) (by decide) (by decide)).trans (h5 3727 (by decide) (by decide))
  have e9 : c' 9 = 0 := (q 9 (by decide) (by decide) (by decide) (by decide)).trans (h5 3729 (by decide) (by decide))
  have e6 : c' 6 = if c1 3722 = 0 then -1 else 0 := by
    rw [e 6 (by decide) (by decide)]
    exact (ec 3726 (by decide)).trans (if_pos rfl)
  have eQ : c' 655 = 0 := (q 655 (by decide) (by decide) (by decide) (by decide)).trans (h9 4375 (by decide) (by decide))
  refine ⟨⟨?_, ?_, ?_, ?_, ?_, ?_⟩, ?_⟩
  · unfold m_H
    rw [e0, e2, e4, e5, e7, e9, e6]
    split <;> omega
  · intro p k a0 a1 a2 a3
    rw [q _ (by omega) (by omega) (by omega) (by omega), e0]
    have ee : (3720 : Int) + (34 + 10 * p + k) = 3754 + 10 * p + k := by omega
    rw [ee]
    exact ⟨h7 _ (by omega) (by omega), h10 p k a0 a1 a2 a3⟩
  · intro i a0 a1
    rw [e9] at a1
    omega
  · unfold m_T
    rw [e9]
    have hs : ∀ k : Int, 0 ≤ k → k < 10 → c' (34 + k) + c' (44 + k) + c' (54 + k) + c' (64 + k) + c' (74 + k) + c' (84 + k) ≤ 8 := by
      intro k a0 a1
      have w := h8 k a0 a1
      unfold m_sum at w
      rw [q (34 + k) (by omega) (by omega) (by omega) (by omega), q (44 + k) (by omega) (by omega) (by omega) (by omega), q (54 + k) (by omega) (by omega) (by omega) (by omega), q (64 + k) (by omega) (by omega) (by omega) (by omega), q (74 + k) (by omega) (by omega) (by omega) (by omega), q (84 + k) (by omega) (by omega) (by omega) (by omega)]
      have f : ∀ i j : Int, i = j → c1 i = c1 j := fun i j h => by rw [h]
      rw [f (3720 + (34 + k)) (3720 + 34 + k) (by omega), f (3720 + (44 + k)) (3720 + 44 + k) (by omega), f (3720 + (54 + k)) (3720 + 54 + k) (by omega), f (3720 + (64 + k)) (3720 + 64 + k) (by omega), f (3720 + (74 + k)) (3720 + 74 + k) (by omega), f (3720 + (84 + k)) (3720 + 84 + k) (by omega)]
      exact w
    have s0 := hs 0 (by decide) (by decide)
    have s1 := hs 1 (by decide) (by decide)
    have s2 := hs 2 (by decide) (by decide)
    have s3 := hs 3 (by decide) (by decide)
    have s4 := hs 4 (by decide) (by decide)
    have s5 := hs 5 (by decide) (by decide)
    have s6 := hs 6 (by decide) (by decide)
    have s7 := hs 7 (by decide) (by decide)
    have s8 := hs 8 (by decide) (by decide)
    have s9 := hs 9 (by decide) (by decide)
    simp only [Int.reduceAdd, Int.add_zero] at s0 s1 s2 s3 s4 s5 s6 s7 s8 s9
    rw [m_S_6, m_S_10, m_S_10, m_S_10, m_S_10, m_S_10, m_S_10]
    simp only [Int.reduceAdd]
    show _ + m_L c' 0 ≤ 80
    have z : m_L c' 0 = 0 := rfl
    rw [z]
    omega
  · intro w
    rw [e7] at w
    exact absurd w (by decide)
  · refine ⟨by rw [eQ]; decide, fun s a0 a1 => ?_⟩
    rw [eQ] at a1
    omega
  · intro p a0 a1
    rw [q (28 + p) (by omega) (by omega) (by omega) (by omega), q (22 + p) (by omega) (by omega) (by omega) (by omega), h6 _ (by omega) (by omega), h6 _ (by omega) (by omega)]
    decide
/-- cells copied from B on to D on, the first k of n -/
theorem m_cpy {c c0 c1 : Int → Int} {B D k n v : Int} (h : ∀ j : Int, 0 ≤ j → c1 j = if D ≤ j ∧ j < D + k then c0 (B + (j - D)) else c0 j) (e : ∀ j : Int, 0 ≤ j → c j = if j = D + k then v else c1 j) (hv : v = c1 (B + k)) (hk : 0 ≤ k ∧ k < n) (hB : 0 ≤ B) (hd : B + n ≤ D ∨ D + n ≤ B) : ∀ j : Int, 0 ≤ j → c j = if D ≤ j ∧ j < D + (k + 1) then c0 (B + (j - D)) else c0 j := by
  intro j hj
  rw [e j hj]
  by_cases q : j = D + k
  · rw [if_pos q, if_pos (by omega), hv, h _ (by omega), if_neg (by omega)]
    have : B + (j - D) = B + k := by omega
    rw [this]
  · rw [if_neg q, h j hj]
    by_cases w : D ≤ j ∧ j < D + k
    · rw [if_pos w, if_pos (by omega)]
    · rw [if_neg w, if_neg (by omega)]
