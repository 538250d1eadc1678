/-! the model's game: what its table, hands, heap and steps are between two calls -/
/-- the sum of n cells from b on -/
def m_S (c : Int → Int) (b : Int) : Nat → Int
  | 0 => 0
  | n + 1 => m_S c b n + c (b + (n : Int))
/-- how many cards the first n layings have -/
def m_L (c : Int → Int) : Nat → Int
  | 0 => 0
  | n + 1 => m_L c n + c (94 + 7 * (n : Int) + 2)
theorem m_S_ext {c c' : Int → Int} {b : Int} {n : Nat} (h : ∀ j : Int, b ≤ j → j < b + (n : Int) → c' j = c j) : m_S c' b n = m_S c b n := by
  induction n with
  | zero => rfl
  | succ n ih =>
    show m_S c' b n + c' (b + (n : Int)) = m_S c b n + c (b + (n : Int))
    rw [ih (fun j h1 h2 => h j h1 (by omega)), h _ (by omega) (by omega)]
theorem m_L_ext {c c' : Int → Int} {n : Nat} (h : ∀ i : Int, 0 ≤ i → i < (n : Int) → c' (94 + 7 * i + 2) = c (94 + 7 * i + 2)) : m_L c' n = m_L c n := by
  induction n with
  | zero => rfl
  | succ n ih =>
    show m_L c' n + c' (94 + 7 * (n : Int) + 2) = m_L c n + c (94 + 7 * (n : Int) + 2)
    rw [ih (fun j h1 h2 => h j h1 (by omega)), h _ (by omega) (by omega)]
theorem m_S_succ (c : Int → Int) (b k : Int) (h : 0 ≤ k) : m_S c b (k + 1).toNat = m_S c b k.toNat + c (b + k) := by
  have e : (k + 1).toNat = k.toNat + 1 := by omega
  have e2 : (k.toNat : Int) = k := by omega
  rw [e]
  show m_S c b k.toNat + c (b + (k.toNat : Int)) = _
  rw [e2]
theorem m_L_succ (c : Int → Int) (k : Int) (h : 0 ≤ k) : m_L c (k + 1).toNat = m_L c k.toNat + c (94 + 7 * k + 2) := by
  have e : (k + 1).toNat = k.toNat + 1 := by omega
  have e2 : (k.toNat : Int) = k := by omega
  rw [e]
  show m_L c k.toNat + c (94 + 7 * (k.toNat : Int) + 2) = _
  rw [e2]
theorem m_S_add (c : Int → Int) (b : Int) (m n : Nat) : m_S c b (m + n) = m_S c b m + m_S c (b + (m : Int)) n := by
  induction n with
  | zero => show m_S c b m = m_S c b m + 0; omega
  | succ n ih =>
    show m_S c b (m + n) + c (b + ((m + n : Nat) : Int)) = m_S c b m + (m_S c (b + (m : Int)) n + c (b + (m : Int) + (n : Int)))
    have e : b + ((m + n : Nat) : Int) = b + (m : Int) + (n : Int) := by omega
    rw [ih, e]
    omega
theorem m_S_nn {c : Int → Int} {b : Int} {n : Nat} (h : ∀ j : Int, b ≤ j → j < b + (n : Int) → 0 ≤ c j) : 0 ≤ m_S c b n := by
  induction n with
  | zero => exact Int.le_refl _
  | succ n ih =>
    have h1 := ih (fun j a b => h j a (by omega))
    have h2 := h (b + (n : Int)) (by omega) (by omega)
    show 0 ≤ m_S c b n + c (b + (n : Int))
    omega
/-- six hands -/
theorem m_S_6 (c : Int → Int) : m_S c 34 60 = m_S c 34 10 + m_S c 44 10 + m_S c 54 10 + m_S c 64 10 + m_S c 74 10 + m_S c 84 10 := by
  have h1 : m_S c 34 60 = m_S c 34 50 + m_S c (34 + ((50 : Nat) : Int)) 10 := m_S_add c 34 50 10
  have h2 : m_S c 34 50 = m_S c 34 40 + m_S c (34 + ((40 : Nat) : Int)) 10 := m_S_add c 34 40 10
  have h3 : m_S c 34 40 = m_S c 34 30 + m_S c (34 + ((30 : Nat) : Int)) 10 := m_S_add c 34 30 10
  have h4 : m_S c 34 30 = m_S c 34 20 + m_S c (34 + ((20 : Nat) : Int)) 10 := m_S_add c 34 20 10
  have h5 : m_S c 34 20 = m_S c 34 10 + m_S c (34 + ((10 : Nat) : Int)) 10 := m_S_add c 34 10 10
  have f : ∀ i j : Int, i = j → m_S c i 10 = m_S c j 10 := fun i j h => by rw [h]
  rw [f (34 + ((50 : Nat) : Int)) 84 (by omega)] at h1
  rw [f (34 + ((40 : Nat) : Int)) 74 (by omega)] at h2
  rw [f (34 + ((30 : Nat) : Int)) 64 (by omega)] at h3
  rw [f (34 + ((20 : Nat) : Int)) 54 (by omega)] at h4
  rw [f (34 + ((10 : Nat) : Int)) 44 (by omega)] at h5
  omega
/-- one hand changed -/
theorem m_S_hand {c c' : Int → Int} {p : Int} (hp : 0 ≤ p ∧ p < 6) (h : ∀ j : Int, 34 ≤ j → j < 94 → ¬ (34 + 10 * p ≤ j ∧ j < 44 + 10 * p) → c' j = c j) : m_S c' 34 60 - m_S c 34 60 = m_S c' (34 + 10 * p) 10 - m_S c (34 + 10 * p) 10 := by
  have e : ∀ q : Int, 0 ≤ q → q < 6 → q ≠ p → m_S c' (34 + 10 * q) 10 = m_S c (34 + 10 * q) 10 := fun q h0 h1 h2 => m_S_ext (fun j a b => h j (by omega) (by omega) (by omega))
  rw [m_S_6 c', m_S_6 c]
  have a0 := e 0 (by decide) (by decide)
  have a1 := e 1 (by decide) (by decide)
  have a2 := e 2 (by decide) (by decide)
  have a3 := e 3 (by decide) (by decide)
  have a4 := e 4 (by decide) (by decide)
  have a5 := e 5 (by decide) (by decide)
  have hc : p = 0 ∨ p = 1 ∨ p = 2 ∨ p = 3 ∨ p = 4 ∨ p = 5 := by omega
  rcases hc with rfl | rfl | rfl | rfl | rfl | rfl
  · have b1 := a1 (by decide); have b2 := a2 (by decide); have b3 := a3 (by decide); have b4 := a4 (by decide); have b5 := a5 (by decide)
    simp only [Int.reduceMul, Int.reduceAdd] at b1 b2 b3 b4 b5 ⊢
    omega
  · have b0 := a0 (by decide); have b2 := a2 (by decide); have b3 := a3 (by decide); have b4 := a4 (by decide); have b5 := a5 (by decide)
    simp only [Int.reduceMul, Int.reduceAdd] at b0 b2 b3 b4 b5 ⊢
    omega
  · have b1 := a1 (by decide); have b0 := a0 (by decide); have b3 := a3 (by decide); have b4 := a4 (by decide); have b5 := a5 (by decide)
    simp only [Int.reduceMul, Int.reduceAdd] at b1 b0 b3 b4 b5 ⊢
    omega
  · have b1 := a1 (by decide); have b2 := a2 (by decide); have b0 := a0 (by decide); have b4 := a4 (by decide); have b5 := a5 (by decide)
    simp only [Int.reduceMul, Int.reduceAdd] at b1 b2 b0 b4 b5 ⊢
    omega
  · have b1 := a1 (by decide); have b2 := a2 (by decide); have b3 := a3 (by decide); have b0 := a0 (by decide); have b5 := a5 (by decide)
    simp only [Int.reduceMul, Int.reduceAdd] at b1 b2 b3 b0 b5 ⊢
    omega
  · have b1 := a1 (by decide); have b2 := a2 (by decide); have b3 := a3 (by decide); have b4 := a4 (by decide); have b0 := a0 (by decide)
    simp only [Int.reduceMul, Int.reduceAdd] at b1 b2 b3 b4 b0 ⊢
    omega
/-- a cell of the sum written -/
theorem m_S_upd {c c' : Int → Int} {b A v : Int} {n : Nat} (e : ∀ j : Int, b ≤ j → j < b + (n : Int) → c' j = if j = A then v else c j) (h0 : b ≤ A) (h1 : A < b + (n : Int)) : m_S c' b n = m_S c b n + (v - c A) := by
  induction n with
  | zero => omega
  | succ n ih =>
    show m_S c' b n + c' (b + (n : Int)) = m_S c b n + c (b + (n : Int)) + (v - c A)
    by_cases q : A = b + (n : Int)
    · rw [m_S_ext (c := c) (fun j a1 a2 => by rw [e j a1 (by omega), if_neg (by omega)]), e (b + (n : Int)) (by omega) (by omega), if_pos q.symm, q]
      omega
    · rw [ih (fun j a1 a2 => e j a1 (by omega)) (by omega), e (b + (n : Int)) (by omega) (by omega), if_neg (by omega)]
      omega
def m_H (c : Int → Int) : Prop := (2 ≤ c 0 ∧ c 0 ≤ 10) ∧ (0 ≤ c 2 ∧ c 2 ≤ 6) ∧ (1 ≤ c 4 ∧ c 4 ≤ 4) ∧ (0 ≤ c 5 ∧ c 5 < c 0) ∧ (-1 ≤ c 6 ∧ c 6 < c 2 ∧ c 2 ≤ 6 * (c 6 + 1)) ∧ (0 ≤ c 7 ∧ c 7 ≤ 1) ∧ (0 ≤ c 9 ∧ c 9 ≤ 80) ∧ (c 7 ≤ c 9 ∧ c 7 ≤ c 6 + 1)
def m_D (c : Int → Int) : Prop := ∀ p k : Int, 0 ≤ p → p < 6 → 0 ≤ k → k < 10 → 0 ≤ c (34 + 10 * p + k) ∧ (c 0 ≤ k → c (34 + 10 * p + k) = 0)
def m_Y (c : Int → Int) : Prop := ∀ i : Int, 0 ≤ i → i < c 9 → (1 ≤ c (94 + 7 * i + 2) ∧ c (94 + 7 * i + 2) ≤ 4) ∧ ∀ t : Int, 0 ≤ t → t < c (94 + 7 * i + 2) → 0 ≤ c (94 + 7 * i + 3 + t) ∧ c (94 + 7 * i + 3 + t) < c 0
def m_T (c : Int → Int) : Prop := m_S c 34 60 + m_L c (c 9).toNat ≤ 80
def m_O (c : Int → Int) : Prop := c 7 = 1 → c (94 + 7 * (c 9 - 1)) = c 6
/-- a step of a round, at place w, of number s, of e -/
def m_stp (c : Int → Int) (w s e : Int) : Prop := (0 ≤ c w ∧ c w ≤ 5) ∧ ((c w = 1 ∨ c w = 2 ∨ (c w = 3 ∧ (c (w + 6) = 0 ∨ c (w + 6) = 2))) → 0 ≤ c (w + 1) ∧ c (w + 1) ≤ 5) ∧ (c w = 3 → 0 ≤ c (w + 6) ∧ c (w + 6) ≤ 3) ∧ (s < c (w + 8) ∧ c (w + 8) ≤ e)
def m_Q (c : Int → Int) : Prop := (0 ≤ c 655 ∧ c 655 ≤ 30) ∧ ∀ s : Int, 0 ≤ s → s < c 655 → m_stp c (656 + 9 * s) s (c 655)
def m_W (c : Int → Int) (n : Int) : Prop := ∀ q : Int, 0 ≤ q → q < 6 → 0 ≤ c (28 + q) ∧ c (28 + q) ≤ c (22 + q) ∧ c (22 + q) ≤ n
def m_G (c : Int → Int) : Prop := m_H c ∧ m_D c ∧ m_Y c ∧ m_T c ∧ m_O c ∧ m_Q c
theorem m_stp.ext {c c' : Int → Int} {w s e : Int} (h : m_stp c w s e) (q : ∀ j : Int, w ≤ j → j < w + 9 → c' j = c j) : m_stp c' w s e := by
  unfold m_stp at h ⊢
  rw [q w (by omega) (by omega), q (w + 1) (by omega) (by omega), q (w + 6) (by omega) (by omega), q (w + 8) (by omega) (by omega)]
  exact h
theorem m_W.ext {c c' : Int → Int} {n : Int} (q : ∀ j : Int, 22 ≤ j → j < 34 → c' j = c j) (h : m_W c n) : m_W c' n := by
  intro p h0 h1
  rw [q (28 + p) (by omega) (by omega), q (22 + p) (by omega) (by omega)]
  exact h p h0 h1
theorem m_W.le {c : Int → Int} {n n' : Int} (h : m_W c n) (hn : n ≤ n') : m_W c n' := fun p h0 h1 => by have := h p h0 h1; omega
theorem m_G.ext {c c' : Int → Int} (q : ∀ j : Int, 0 ≤ j → j < 930 → c' j = c j) (h : m_G c) : m_G c' := by
  obtain ⟨hH, hD, hY, hT, hO, hQ⟩ := h
  have b9 : 0 ≤ c 9 ∧ c 9 ≤ 80 := hH.2.2.2.2.2.2.1
  have b5 : 0 ≤ c 655 ∧ c 655 ≤ 30 := hQ.1
  have e9 : c' 9 = c 9 := q 9 (by decide) (by decide)
  have e0 : c' 0 = c 0 := q 0 (by decide) (by decide)
  refine ⟨?_, ?_, ?_, ?_, ?_, ?_⟩
  · unfold m_H at hH ⊢
    rw [q 0 (by decide) (by decide), q 2 (by decide) (by decide), q 4 (by decide) (by decide), q 5 (by decide) (by decide), q 6 (by decide) (by decide), q 7 (by decide) (by decide), q 9 (by decide) (by decide)]
    exact hH
  · intro p k h0 h1 h2 h3
    rw [q _ (by omega) (by omega), e0]
    exact hD p k h0 h1 h2 h3
  · intro i h0 h1
    rw [e9] at h1
    have w := hY i h0 h1
    rw [q (94 + 7 * i + 2) (by omega) (by omega)]
    refine ⟨w.1, fun t t0 t1 => ?_⟩
    rw [q (94 + 7 * i + 3 + t) (by omega) (by omega), e0]
    exact w.2 t t0 t1
  · unfold m_T at hT ⊢
    rw [m_S_ext (fun j a b => q j (by omega) (by omega)), e9, m_L_ext (fun i a b => q _ (by omega) (by omega))]
    exact hT
  · intro h7
    rw [q 7 (by decide) (by decide)] at h7
    have h8 : 1 ≤ c 9 := by have := hH.2.2.2.2.2.2.2.1; omega
    rw [e9, q (94 + 7 * (c 9 - 1)) (by omega) (by omega), q 6 (by decide) (by decide)]
    exact hO h7
  · have e5 : c' 655 = c 655 := q 655 (by decide) (by decide)
    refine ⟨by rw [e5]; exact b5, fun s h0 h1 => ?_⟩
    rw [e5] at h1 ⊢
    exact (hQ.2 s h0 h1).ext (fun j a b => q j (by omega) (by omega))
/-- a cell of the head, or of those that say how they lie and doubt -/
theorem m_G.wr {c c' : Int → Int} {A v : Int} (h : m_G c) (e : ∀ j : Int, 0 ≤ j → c' j = if j = A then v else c j) (hA : A = 7 ∧ v = 0 ∨ A = 8 ∨ 10 ≤ A ∧ A < 34 ∨ A = 5 ∧ 0 ≤ v ∧ v < c 0 ∨ A = 6 ∧ 0 ≤ v ∧ v < c 2 ∧ c 7 = 0 ∨ A = 654 ∨ 930 ≤ A) : m_G c' := by
  obtain ⟨hH, hD, hY, hT, hO, hQ⟩ := h
  have q : ∀ j : Int, 0 ≤ j → j ≠ A → c' j = c j := fun j hj hn => by rw [e j hj, if_neg hn]
  have s : ∀ j : Int, 0 ≤ j → j = A → c' j = v := fun j hj hn => by rw [e j hj, if_pos hn]
  have b9 : 0 ≤ c 9 ∧ c 9 ≤ 80 := hH.2.2.2.2.2.2.1
  have b5 : 0 ≤ c 655 ∧ c 655 ≤ 30 := hQ.1
  have e9 : c' 9 = c 9 := q 9 (by decide) (by omega)
  have e0 : c' 0 = c 0 := q 0 (by decide) (by omega)
  have e2 : c' 2 = c 2 := q 2 (by decide) (by omega)
  have e4 : c' 4 = c 4 := q 4 (by decide) (by omega)
  refine ⟨?_, ?_, ?_, ?_, ?_, ?_⟩
  · unfold m_H at hH ⊢
    have r5 : c' 5 = c 5 ∨ (A = 5 ∧ c' 5 = v) := by
      by_cases w : 5 = A
      · exact Or.inr ⟨w.symm, s 5 (by decide) w⟩
      · exact Or.inl (q 5 (by decide) w)
    have r6 : c' 6 = c 6 ∨ (A = 6 ∧ c' 6 = v) := by
      by_cases w : 6 = A
      · exact Or.inr ⟨w.symm, s 6 (by decide) w⟩
      · exact Or.inl (q 6 (by decide) w)
    have r7 : (A ≠ 7 ∧ c' 7 = c 7) ∨ (A = 7 ∧ c' 7 = v) := by
      by_cases w : 7 = A
      · exact Or.inr ⟨w.symm, s 7 (by decide) w⟩
      · exact Or.inl ⟨fun z => w z.symm, q 7 (by decide) w⟩
    rw [e0, e2, e4, e9]
    omega
  · intro p k h0 h1 h2 h3
    rw [q _ (by omega) (by omega), e0]
    exact hD p k h0 h1 h2 h3
  · intro i h0 h1
    rw [e9] at h1
    have w := hY i h0 h1
    rw [q (94 + 7 * i + 2) (by omega) (by omega)]
    refine ⟨w.1, fun t t0 t1 => ?_⟩
    rw [q (94 + 7 * i + 3 + t) (by omega) (by omega), e0]
    exact w.2 t t0 t1
  · unfold m_T at hT ⊢
    rw [m_S_ext (fun j a b => q j (by omega) (by omega)), e9, m_L_ext (fun i a b => q _ (by omega) (by omega))]
    exact hT
  · intro h7
    have h8 := hH.2.2.2.2.2.2.2.1
    by_cases w7 : 7 = A
    · have := s 7 (by decide) w7
      omega
    · rw [q 7 (by decide) w7] at h7
      rw [e9, q (94 + 7 * (c 9 - 1)) (by omega) (by omega), q 6 (by decide) (by omega)]
      exact hO h7
  · have e5 : c' 655 = c 655 := q 655 (by decide) (by omega)
    refine ⟨by rw [e5]; exact b5, fun s h0 h1 => ?_⟩
    rw [e5] at h1 ⊢
    exact (hQ.2 s h0 h1).ext (fun j a b => q j (by omega) (by omega))
theorem m_W.wr {c c' : Int → Int} {A v n : Int} (h : m_W c n) (e : ∀ j : Int, 0 ≤ j → c' j = if j = A then v else c j) (hA : A < 22 ∨ 34 ≤ A) : m_W c' n := m_W.ext (fun j a b => by rw [e j (by omega), if_neg (by omega)]) h
