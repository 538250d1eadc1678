section
theorem m_cpy_n {c c0 : Int → Int} {B D k n : Int} (h : ∀ j : Int, 0 ≤ j → c j = if D ≤ j ∧ j < D + k then c0 (B + (j - D)) else c0 j) (e : k = n) : ∀ j : Int, 0 ≤ j → c j = if D ≤ j ∧ j < D + n then c0 (B + (j - D)) else c0 j := by
  subst e
  exact h
theorem m_cpy40 {c c' : Int → Int} {z w : Int} (hz : z = 0) (hw : w = 4) (h : ∀ j : Int, 0 ≤ j → c' j = if 930 * z ≤ j ∧ j < 930 * z + 930 then c (930 * w + (j - 930 * z)) else c j) : (∀ j : Int, 0 ≤ j → j < 930 → c' j = c (3720 + j)) ∧ ∀ j : Int, 930 ≤ j → c' j = c j := by
  subst hz
  subst hw
  refine ⟨fun j a b => ?_, fun j a => ?_⟩
  · rw [h j a, if_pos (by omega)]
    have e : (930 : Int) * 4 + (j - 930 * 0) = 3720 + j := by omega
    rw [e]
  · rw [h j (by omega), if_neg (by omega)]
theorem m_zs {c c' : Int → Int} {b k v : Int} (h : ∀ j, b ≤ j → j < b + k → c j = 0) (e : ∀ j : Int, 0 ≤ j → c' j = if j = b + k then v else c j) (hv : v = 0) (hb : 0 ≤ b) : ∀ j, b ≤ j → j < b + (k + 1) → c' j = 0 := by
  intro j h0 h1
  rw [e j (by omega)]
  split
  · exact hv
  · exact h j h0 (by omega)
end
