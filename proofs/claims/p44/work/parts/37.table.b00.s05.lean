section
/-- the steps copied, behind their number -/
theorem m_rd_done {c c0 c1 : Int → Int} {n k : Int} (h : ∀ j : Int, 0 ≤ j → c j = if 656 ≤ j ∧ j < 656 + k then c1 (4376 + (j - 656)) else c1 j) (e1 : ∀ j : Int, 0 ≤ j → c1 j = if j = 655 then n else c0 j) (hk : k = 9 * n) : ∀ j : Int, 0 ≤ j → c j = if 656 ≤ j ∧ j < 656 + 9 * n then c0 (4376 + (j - 656)) else if j = 655 then n else c0 j := by
  intro j hj
  subst hk
  rw [h j hj]
  by_cases q : 656 ≤ j ∧ j < 656 + 9 * n
  · rw [if_pos q, if_pos q, e1 _ (by omega), if_neg (by omega)]
  · rw [if_neg q, if_neg q, e1 j hj]
def m_rs (c : Int → Int) (n : Int) : Prop := ∀ s : Int, 0 ≤ s → s < n → m_stp c (4376 + 9 * s) s n
theorem m_rs.ext {c c' : Int → Int} {n n' : Int} (h : m_rs c n) (e : ∀ j : Int, 4376 ≤ j → c' j = c j) (en : n' = n) : m_rs c' n' := by
  subst en
  intro s h0 h1
  exact (h s h0 h1).ext (fun j a b => e j (by omega))
theorem m_rs.step {c c' : Int → Int} {n n' : Int} (h : m_rs c n) (hk : ∀ j : Int, 0 ≤ j → j < 4376 + 9 * n → c' j = c j) (hm : ∀ t : Int, n ≤ t → t < n' → m_stp c' (4376 + 9 * t) t n') (hn : n ≤ n') : m_rs c' n' := by
  intro t t0 t1
  by_cases q : t < n
  · exact ((h t t0 q).ext (fun j a b => hk j (by omega) (by omega))).up hn
  · exact hm t (by omega) t1
end
