theorem m_ok.pos {c : Int → Int} {p b k : Int} (h : m_ok c p b k) (hb : 0 ≤ b) : b < k ∧ b ≠ c 5 ∧ 1 ≤ c (34 + 10 * p + b) := by
  rcases h with ⟨h1, _⟩ | ⟨_, h2, h3, h4⟩
  · omega
  · exact ⟨h2, h3, h4⟩
/-- below 0 the table's place is the first -/
theorem m_c_ext {X : XW} {σ σ' : ST} {a : Nat} (h : ∀ j : Int, 0 ≤ j → m_c X σ' a j = m_c X σ a j) : m_c X σ' a = m_c X σ a := by
  funext j
  by_cases q : 0 ≤ j
  · exact h j q
  · have e : ∀ τ : ST, m_c X τ a j = m_c X τ a 0 := by
      intro τ
      unfold m_c
      have z : j.toNat = (0 : Int).toNat := by
        show j.toNat = 0
        omega
      rw [z]
    rw [e, e]
    exact h 0 (Int.le_refl _)
/-- the table and its marks -/
def m_M (c : Int → Int) (k n : Int) : Prop := (m_G c ∧ m_W c n) ∧ ∀ b : Int, 1 ≤ b → b ≤ k → m_G (fun j => c (930 * b + j)) ∧ m_W (fun j => c (930 * b + j)) n
theorem m_M.up {c c' : Int → Int} {k k' n n' : Int} (h : m_M c k n) (g : m_G c') (w : m_W c' n') (e : ∀ j : Int, 930 ≤ j → j < 3720 → c' j = c j) (hk : k ≤ 3) (hk' : k' ≤ k) (hn : n ≤ n') : m_M c' k' n' := by
  refine ⟨⟨g, w⟩, fun b h0 h1 => ?_⟩
  have z := h.2 b h0 (by omega)
  exact ⟨z.1.ext (fun j a0 a1 => e _ (by omega) (by omega)), m_W.le (m_W.ext (c := fun j => c (930 * b + j)) (c' := fun j => c' (930 * b + j)) (fun j a0 a1 => e _ (by omega) (by omega)) z.2) hn⟩
theorem m_M.mark {c c' : Int → Int} {k n w z : Int} (h : m_M c k n) (hk : 0 ≤ k ∧ k ≤ 2) (hw : w = 0) (hz : z = k + 1) (e : ∀ j : Int, 0 ≤ j → c' j = if 930 * z ≤ j ∧ j < 930 * z + 930 then c (930 * w + (j - 930 * z)) else c j) : m_M c' (k + 1) n := by
  subst hw
  subst hz
  have o : ∀ j : Int, 0 ≤ j → ¬ (930 * (k + 1) ≤ j ∧ j < 930 * (k + 1) + 930) → c' j = c j := fun j a b => by rw [e j a, if_neg b]
  refine ⟨⟨h.1.1.ext (fun j a0 a1 => o j a0 (by omega)), m_W.ext (fun j a0 a1 => o j (by omega) (by omega)) h.1.2⟩, fun b h0 h1 => ?_⟩
  by_cases q : b = k + 1
  · subst q
    have f : ∀ j : Int, 0 ≤ j → j < 930 → c' (930 * (k + 1) + j) = c j := by
      intro j a0 a1
      rw [e _ (by omega), if_pos (by omega)]
      have y : (930 : Int) * 0 + (930 * (k + 1) + j - 930 * (k + 1)) = j := by omega
      rw [y]
    exact ⟨h.1.1.ext (c' := fun j => c' (930 * (k + 1) + j)) (fun j a0 a1 => f j a0 a1), m_W.ext (c' := fun j => c' (930 * (k + 1) + j)) (fun j a0 a1 => f j (by omega) (by omega)) h.1.2⟩
  · have y := h.2 b h0 (by omega)
    exact ⟨y.1.ext (c' := fun j => c' (930 * b + j)) (fun j a0 a1 => o _ (by omega) (by omega)), m_W.ext (c' := fun j => c' (930 * b + j)) (fun j a0 a1 => o _ (by omega) (by omega)) y.2⟩
theorem m_M.back {c c' : Int → Int} {k n w z : Int} (h : m_M c k n) (hk : 1 ≤ k ∧ k ≤ 3) (hw : w = k) (hz : z = 0) (e : ∀ j : Int, 0 ≤ j → c' j = if 930 * z ≤ j ∧ j < 930 * z + 930 then c (930 * w + (j - 930 * z)) else c j) : m_M c' (k - 1) n := by
  subst hw
  subst hz
  have f : ∀ j : Int, 0 ≤ j → j < 930 → c' j = c (930 * w + j) := by
    intro j a0 a1
    rw [e j a0, if_pos (by omega)]
    have y : (930 : Int) * w + (j - 930 * 0) = 930 * w + j := by omega
    rw [y]
  have o : ∀ j : Int, 930 ≤ j → c' j = c j := fun j a => by rw [e j (by omega), if_neg (by omega)]
  have y := h.2 w hk.1 (Int.le_refl _)
  refine ⟨⟨y.1.ext f, m_W.ext (fun j a0 a1 => f j (by omega) (by omega)) y.2⟩, fun b h0 h1 => ?_⟩
  have x := h.2 b h0 (by omega)
  exact ⟨x.1.ext (c' := fun j => c' (930 * b + j)) (fun j a0 a1 => o _ (by omega)), m_W.ext (c' := fun j => c' (930 * b + j)) (fun j a0 a1 => o _ (by omega)) x.2⟩
theorem m_KD.draw {X : XW} {σ τ τ' : ST} {a : Nat} (h : m_KD 40 X σ τ) (k : q_KS (fun b g => b = a ∧ g = 39) 9 X τ τ') (ha : q_kd X a = 12) : m_KD 40 X σ τ' := by
  intro b g q
  have w : ¬ (b = a ∧ g = 39) := by
    rintro ⟨h1, h2⟩
    subst h1
    subst h2
    rcases q with q | q
    · rw [ha] at q
      exact absurd q (by decide)
    · exact absurd q.2 (by decide)
  exact (k b g (q_cl9 _ _) w).trans (h b g q)
