/-! FROM 39y.moves.lean.txt -/
section
/-! cards laid, taken; another kind -/
theorem m_S_sub {c' c f : Int → Int} {b : Int} {n : Nat} (h : ∀ t : Int, 0 ≤ t → t < (n : Int) → c' (b + t) = c (b + t) - f t) : m_S c' b n = m_S c b n - m_S f 0 n := by
  induction n with
  | zero => rfl
  | succ n ih =>
    show m_S c' b n + c' (b + (n : Int)) = m_S c b n + c (b + (n : Int)) - (m_S f 0 n + f (0 + (n : Int)))
    rw [ih (fun t a b => h t a (by omega)), h (n : Int) (by omega) (by omega), Int.zero_add]
    omega
def m_lo (c0 f : Int → Int) (p : Int) : Prop := m_G c0 ∧ (0 ≤ p ∧ p < 6) ∧ (∀ k : Int, 0 ≤ k → k < 10 → 0 ≤ f k ∧ f k ≤ c0 (34 + 10 * p + k)) ∧ (1 ≤ m_S f 0 10 ∧ m_S f 0 10 ≤ 4)
theorem m_lo.part {c0 f : Int → Int} {p : Int} (h : m_lo c0 f p) (n : Nat) (hn : n ≤ 10) : 0 ≤ m_S f 0 n ∧ m_S f 0 n ≤ m_S f 0 10 := by
  have a : ∀ b : Int, 0 ≤ b → ∀ m : Nat, b + (m : Int) ≤ 10 → 0 ≤ m_S f b m := fun b hb m hm => m_S_nn (fun j x y => (h.2.2.1 j (by omega) (by omega)).1)
  have w := m_S_add f 0 n (10 - n)
  have e : n + (10 - n) = 10 := by omega
  rw [e] at w
  have z := a (0 + (n : Int)) (by omega) (10 - n) (by omega)
  have z2 := a 0 (by omega) n (by omega)
  omega
theorem m_lo.c9 {c0 f : Int → Int} {p : Int} (h : m_lo c0 f p) : 0 ≤ c0 9 ∧ c0 9 ≤ 79 := by
  have g := h.1
  have b := g.hd.2.2.2.2.2.2.1
  have t := g.tot
  have l := (g.Lle (c0 9).toNat (by omega)).1
  have s := g.Shand h.2.1.1 h.2.1.2 (n := 10) (by omega)
  have q : m_S f 0 10 ≤ m_S c0 (34 + 10 * p) 10 := by
    have d := m_S_sub (c' := fun j => c0 j - f (j - (34 + 10 * p))) (c := c0) (f := f) (b := 34 + 10 * p) (n := 10) (fun t a b => by
      have e : 34 + 10 * p + t - (34 + 10 * p) = t := by omega
      show c0 (34 + 10 * p + t) - f (34 + 10 * p + t - (34 + 10 * p)) = _
      rw [e])
    have z : 0 ≤ m_S (fun j => c0 j - f (j - (34 + 10 * p))) (34 + 10 * p) 10 := m_S_nn (fun j x y => by
      have w := h.2.2.1 (j - (34 + 10 * p)) (by omega) (by omega)
      have e : 34 + 10 * p + (j - (34 + 10 * p)) = j := by omega
      rw [e] at w
      show 0 ≤ c0 j - f (j - (34 + 10 * p))
      omega)
    omega
  have u := h.2.2.2.1
  omega
theorem m_lo.kind {c0 f : Int → Int} {p k : Int} (h : m_lo c0 f p) (h0 : 0 ≤ k) (h1 : k < 10) (h2 : 0 < f k) : k < c0 0 := by
  have a := h.2.2.1 k h0 h1
  have b := (h.1.2.1 p k h.2.1.1 h.2.1.2 h0 h1).2
  by_cases q : c0 0 ≤ k
  · have := b q
    omega
  · omega
def m_ld (c0 c f : Int → Int) (p k i : Int) : Prop :=
  (∀ j : Int, 0 ≤ j → ¬ (34 + 10 * p ≤ j ∧ j < 34 + 10 * p + k) → ¬ (94 + 7 * c0 9 ≤ j ∧ j < 101 + 7 * c0 9) → c j = c0 j) ∧ (∀ t : Int, 0 ≤ t → t < k → c (34 + 10 * p + t) = c0 (34 + 10 * p + t) - f t) ∧ c (94 + 7 * c0 9) = p ∧ ∀ t : Int, 0 ≤ t → t < m_S f 0 k.toNat + i → 0 ≤ c (94 + 7 * c0 9 + 3 + t) ∧ c (94 + 7 * c0 9 + 3 + t) < c0 0
theorem m_ld.start {c0 c1 c f : Int → Int} {p v w : Int} (h : m_lo c0 f p) (e1 : ∀ j : Int, 0 ≤ j → c1 j = if j = 94 + 7 * c0 9 then w else c0 j) (hw : w = p) (e : ∀ j : Int, 0 ≤ j → c j = if j = 94 + 7 * c0 9 + 1 then v else c1 j) : m_ld c0 c f p 0 0 := by
  have b := h.c9
  refine ⟨fun j h0 h1 h2 => ?_, fun t h0 h1 => by omega, ?_, fun t h0 h1 => ?_⟩
  · rw [e j h0, if_neg (by omega), e1 j h0, if_neg (by omega)]
  · rw [e _ (by omega), if_neg (by omega), e1 _ (by omega), if_pos rfl, hw]
  · have z : m_S f 0 (0 : Int).toNat = 0 := rfl
    omega
theorem m_ld.card {c0 c c' f : Int → Int} {p k i n v : Int} (h : m_ld c0 c f p k i) (hl : m_lo c0 f p) (hk : 0 ≤ k ∧ k < 10) (hi : 0 ≤ i ∧ i < f k) (e : ∀ j : Int, 0 ≤ j → c' j = if j = 94 + 7 * c0 9 + 3 + n then v else c j) (hv : v = k) (hn : n = m_S f 0 k.toNat + i) : m_ld c0 c' f p k (i + 1) := by
  have b := hl.c9
  have u := hl.part k.toNat (by omega)
  have u2 := hl.part (k + 1).toNat (by omega)
  rw [m_S_succ _ _ _ hk.1, Int.zero_add] at u2
  have u3 := hl.2.2.2
  have kc := hl.kind hk.1 hk.2 (by omega)
  obtain ⟨h1, h2, h3, h4⟩ := h
  refine ⟨fun j a0 a1 a2 => ?_, fun t a0 a1 => ?_, ?_, fun t a0 a1 => ?_⟩
  · rw [e j a0, if_neg (by omega)]; exact h1 j a0 a1 a2
  · rw [e _ (by have := hl.2.1; omega), if_neg (by have := hl.2.1; omega)]; exact h2 t a0 a1
  · rw [e _ (by omega), if_neg (by omega)]; exact h3
  · rw [e _ (by omega)]
    by_cases q : t = n
    · rw [if_pos (by omega), hv]
      exact ⟨hk.1, kc⟩
    · rw [if_neg (by omega)]
      exact h4 t a0 (by omega)
theorem m_ld.hand {c0 c c' f : Int → Int} {p k i v : Int} (h : m_ld c0 c f p k i) (hl : m_lo c0 f p) (hk : 0 ≤ k ∧ k < 10) (hi : i = f k) (e : ∀ j : Int, 0 ≤ j → c' j = if j = 34 + 10 * p + k then v else c j) (hv : v = c (34 + 10 * p + k) - f k) : m_ld c0 c' f p (k + 1) 0 := by
  have b := hl.c9
  have hp := hl.2.1
  obtain ⟨h1, h2, h3, h4⟩ := h
  refine ⟨fun j a0 a1 a2 => ?_, fun t a0 a1 => ?_, ?_, fun t a0 a1 => ?_⟩
  · rw [e j a0, if_neg (by omega)]; exact h1 j a0 (by omega) a2
  · rw [e _ (by omega)]
    by_cases q : t = k
    · subst q
      rw [if_pos rfl, hv, h1 _ (by omega) (by omega) (by omega)]
    · rw [if_neg (by omega)]; exact h2 t a0 (by omega)
  · rw [e _ (by omega), if_neg (by omega)]; exact h3
  · rw [e _ (by omega), if_neg (by omega)]
    rw [m_S_succ _ _ _ hk.1, Int.zero_add] at a1
    exact h4 t a0 (by omega)
theorem m_ld.done {c0 c c1 c2 c' f : Int → Int} {p T v9 v7 : Int} (h : m_ld c0 c f p 10 0) (hl : m_lo c0 f p) (h6 : c0 6 = p) (hT : T = m_S f 0 10) (e1 : ∀ j : Int, 0 ≤ j → c1 j = if j = 94 + 7 * c0 9 + 2 then T else c j) (e2 : ∀ j : Int, 0 ≤ j → c2 j = if j = 9 then v9 else c1 j) (h9 : v9 = c0 9 + 1) (e : ∀ j : Int, 0 ≤ j → c' j = if j = 7 then v7 else c2 j) (h7 : v7 = 1) :
    m_G c' ∧ (∀ j : Int, 0 ≤ j → (j < 7 ∨ j = 8 ∨ (10 ≤ j ∧ j < 34) ∨ 654 ≤ j) → c' j = c0 j) ∧ c' 9 = c0 9 + 1 ∧ c' 7 = 1 ∧ c' 6 = p := by
  have b := hl.c9
  have hp := hl.2.1
  have ho := hl.2.2.1
  have hs := hl.2.2.2
  have g := hl.1
  have hd := g.hd
  obtain ⟨h1, h2, h3, h4⟩ := h
  have q : ∀ j : Int, 0 ≤ j → j ≠ 7 → j ≠ 9 → ¬ (34 + 10 * p ≤ j ∧ j < 44 + 10 * p) → ¬ (94 + 7 * c0 9 ≤ j ∧ j < 101 + 7 * c0 9) → c' j = c0 j := by
    intro j a0 a1 a2 a3 a4
    rw [e j a0, if_neg a1, e2 j a0, if_neg a2, e1 j a0, if_neg (by omega)]
    exact h1 j a0 (by omega) a4
  have qw : ∀ j : Int, 0 ≤ j → j ≠ 7 → j ≠ 9 → j ≠ 94 + 7 * c0 9 + 2 → c' j = c j := by
    intro j a0 a1 a2 a3
    rw [e j a0, if_neg a1, e2 j a0, if_neg a2, e1 j a0, if_neg a3]
  have qh : ∀ t : Int, 0 ≤ t → t < 10 → c' (34 + 10 * p + t) = c0 (34 + 10 * p + t) - f t := by
    intro t a0 a1
    rw [qw _ (by omega) (by omega) (by omega) (by omega)]
    exact h2 t a0 a1
  have e9 : c' 9 = c0 9 + 1 := by rw [e 9 (by decide), if_neg (by decide), e2 9 (by decide), if_pos rfl, h9]
  have e7 : c' 7 = 1 := by rw [e 7 (by decide), if_pos rfl, h7]
  have eT : c' (94 + 7 * c0 9 + 2) = T := by rw [e _ (by omega), if_neg (by omega), e2 _ (by omega), if_neg (by omega), e1 _ (by omega), if_pos rfl]
  have eb : c' (94 + 7 * c0 9) = p := by rw [qw _ (by omega) (by omega) (by omega) (by omega)]; exact h3
  have r : ∀ j : Int, 0 ≤ j → (j < 7 ∨ j = 8 ∨ (10 ≤ j ∧ j < 34) ∨ 654 ≤ j) → c' j = c0 j := fun j a0 a1 => q j a0 (by omega) (by omega) (by omega) (by omega)
  have e0 : c' 0 = c0 0 := r 0 (by decide) (by decide)
  have e6 : c' 6 = c0 6 := r 6 (by decide) (by decide)
  obtain ⟨gH, gD, gY, gT, gO, gQ⟩ := g
  refine ⟨⟨?_, ?_, ?_, ?_, ?_, ?_⟩, r, e9, e7, e6.trans h6⟩
  · unfold m_H
    rw [e0, r 2 (by decide) (by decide), r 4 (by decide) (by decide), r 5 (by decide) (by decide), e6, e7, e9]
    omega
  · intro p' k a0 a1 a2 a3
    rw [e0]
    by_cases w : p' = p
    · subst w
      have z := gD p' k a0 a1 a2 a3
      have o := ho k a2 a3
      rw [qh k a2 a3]
      refine ⟨by omega, fun y => ?_⟩
      have := z.2 y
      omega
    · rw [q _ (by omega) (by omega) (by omega) (by omega) (by omega)]
      exact gD p' k a0 a1 a2 a3
  · intro i a0 a1
    rw [e9] at a1
    rw [e0]
    by_cases w : i = c0 9
    · subst w
      rw [eT]
      refine ⟨by omega, fun t t0 t1 => ?_⟩
      rw [qw _ (by omega) (by omega) (by omega) (by omega)]
      have z : m_S f 0 (10 : Int).toNat = m_S f 0 10 := rfl
      exact h4 t t0 (by omega)
    · have y := gY i a0 (by omega)
      rw [q (94 + 7 * i + 2) (by omega) (by omega) (by omega) (by omega) (by omega)]
      refine ⟨y.1, fun t t0 t1 => ?_⟩
      rw [q (94 + 7 * i + 3 + t) (by omega) (by omega) (by omega) (by omega) (by omega)]
      exact y.2 t t0 t1
  · unfold m_T at gT ⊢
    have s := m_S_hand (c := c0) (c' := c') hp (fun j a0 a1 a2 => q j (by omega) (by omega) (by omega) (by omega) (by omega))
    have s2 := m_S_sub (c' := c') (c := c0) (f := f) (b := 34 + 10 * p) (n := 10) (fun t a0 a1 => qh t a0 (by omega))
    rw [e9, m_L_succ _ _ b.1, eT, m_L_ext (c := c0) (c' := c') (fun i a0 a1 => q _ (by omega) (by omega) (by omega) (by omega) (by omega))]
    omega
  · intro _
    rw [e9, e6]
    have z : (94 : Int) + 7 * (c0 9 + 1 - 1) = 94 + 7 * c0 9 := by omega
    rw [z, eb, h6]
  · have e5 : c' 655 = c0 655 := r 655 (by decide) (by decide)
    have b5 := gQ.1
    refine ⟨by rw [e5]; exact gQ.1, fun s a0 a1 => ?_⟩
    rw [e5] at a1 ⊢
    exact (gQ.2 s a0 a1).ext (fun j x y => r j (by omega) (by omega))
/-! taking the heap -/
def m_tk (c0 c : Int → Int) (p k i : Int) : Prop :=
  (∀ j : Int, 0 ≤ j → ¬ (34 + 10 * p ≤ j ∧ j < 44 + 10 * p) → c j = c0 j) ∧ (∀ t : Int, 0 ≤ t → t < 10 → 0 ≤ c (34 + 10 * p + t) ∧ (c0 0 ≤ t → c (34 + 10 * p + t) = 0)) ∧ m_S c (34 + 10 * p) 10 = m_S c0 (34 + 10 * p) 10 + m_L c0 k.toNat + i
theorem m_tk.start {c0 : Int → Int} {p : Int} (g : m_G c0) (hp : 0 ≤ p ∧ p < 6) : m_tk c0 c0 p 0 0 := by
  refine ⟨fun _ _ _ => rfl, fun t a b => g.2.1 p t hp.1 hp.2 a b, ?_⟩
  have z : m_L c0 (0 : Int).toNat = 0 := rfl
  omega
theorem m_tk.card {c0 c c' : Int → Int} {p k i d v : Int} (h : m_tk c0 c p k i) (hp : 0 ≤ p ∧ p < 6) (hd : 0 ≤ d ∧ d < c0 0) (h10 : c0 0 ≤ 10) (e : ∀ j : Int, 0 ≤ j → c' j = if j = 34 + 10 * p + d then v else c j) (hv : v = c (34 + 10 * p + d) + 1) : m_tk c0 c' p k (i + 1) := by
  obtain ⟨h1, h2, h3⟩ := h
  refine ⟨fun j a0 a1 => ?_, fun t a0 a1 => ?_, ?_⟩
  · rw [e j a0, if_neg (by omega)]; exact h1 j a0 a1
  · rw [e _ (by omega)]
    have z := h2 t a0 a1
    by_cases q : t = d
    · subst q
      rw [if_pos rfl, hv]
      exact ⟨by omega, fun y => by omega⟩
    · rw [if_neg (by omega)]; exact z
  · rw [m_S_upd (c := c) (c' := c') (A := 34 + 10 * p + d) (v := v) (fun j a0 a1 => e j (by omega)) (by omega) (by omega), h3, hv]
    omega
theorem m_tk.lay {c0 c : Int → Int} {p k i : Int} (h : m_tk c0 c p k i) (hk : 0 ≤ k) (hi : i = c0 (94 + 7 * k + 2)) : m_tk c0 c p (k + 1) 0 := by
  obtain ⟨h1, h2, h3⟩ := h
  refine ⟨h1, h2, ?_⟩
  rw [h3, m_L_succ _ _ hk, hi]
  omega
theorem m_tk.done {c0 c c' : Int → Int} {p v : Int} (h : m_tk c0 c p (c0 9) 0) (g : m_G c0) (hp : 0 ≤ p ∧ p < 6) (h7 : c0 7 = 0) (e : ∀ j : Int, 0 ≤ j → c' j = if j = 9 then v else c j) (hv : v = 0) :
    m_G c' ∧ (∀ j : Int, 0 ≤ j → (j < 9 ∨ (10 ≤ j ∧ j < 34) ∨ 654 ≤ j) → c' j = c0 j) ∧ c' 9 = 0 := by
  have hd := g.hd
  obtain ⟨h1, h2, h3⟩ := h
  have q : ∀ j : Int, 0 ≤ j → j ≠ 9 → ¬ (34 + 10 * p ≤ j ∧ j < 44 + 10 * p) → c' j = c0 j := by
    intro j a0 a1 a2
    rw [e j a0, if_neg a1]; exact h1 j a0 a2
  have e9 : c' 9 = 0 := by rw [e 9 (by decide), if_pos rfl, hv]
  have r : ∀ j : Int, 0 ≤ j → (j < 9 ∨ (10 ≤ j ∧ j < 34) ∨ 654 ≤ j) → c' j = c0 j := fun j a0 a1 => q j a0 (by omega) (by omega)
  have e0 : c' 0 = c0 0 := r 0 (by decide) (by decide)
  obtain ⟨gH, gD, gY, gT, gO, gQ⟩ := g
  refine ⟨⟨?_, ?_, ?_, ?_, ?_, ?_⟩, r, e9⟩
  · unfold m_H
    rw [e0, r 2 (by decide) (by decide), r 4 (by decide) (by decide), r 5 (by decide) (by decide), r 6 (by decide) (by decide), r 7 (by decide) (by decide), e9]
    omega
  · intro p' k a0 a1 a2 a3
    rw [e0]
    by_cases w : p' = p
    · subst w
      rw [e _ (by omega), if_neg (by omega)]
      exact h2 k a2 a3
    · rw [q _ (by omega) (by omega) (by omega)]
      exact gD p' k a0 a1 a2 a3
  · intro i a0 a1
    rw [e9] at a1
    omega
  · unfold m_T at gT ⊢
    have s := m_S_hand (c := c0) (c' := c') hp (fun j a0 a1 a2 => q j (by omega) (by omega) (by omega))
    have s2 : m_S c' (34 + 10 * p) 10 = m_S c (34 + 10 * p) 10 := m_S_ext (fun j a0 a1 => by rw [e j (by omega), if_neg (by omega)])
    have z : m_L c' (0 : Int).toNat = 0 := rfl
    rw [e9, z]
    omega
  · intro w
    rw [r 7 (by decide) (by decide)] at w
    omega
  · have e5 : c' 655 = c0 655 := r 655 (by decide) (by decide)
    have b5 := gQ.1
    refine ⟨by rw [e5]; exact gQ.1, fun s a0 a1 => ?_⟩
    rw [e5] at a1 ⊢
    exact (gQ.2 s a0 a1).ext (fun j x y => r j (by omega) (by omega))
/-! another kind: b the best of the kinds below k -/
def m_ok (c : Int → Int) (p b k : Int) : Prop := (b = -1 ∧ ∀ t : Int, 0 ≤ t → t < k → t ≠ c 5 → c (34 + 10 * p + t) ≤ 0) ∨ (0 ≤ b ∧ b < k ∧ b ≠ c 5 ∧ 1 ≤ c (34 + 10 * p + b))
theorem m_ok.start (c : Int → Int) (p : Int) : m_ok c p (-1) 0 := Or.inl ⟨rfl, fun t a b => by omega⟩
theorem m_ok.skip {c : Int → Int} {p b k : Int} (h : m_ok c p b k) (hk : k = c 5 ∨ c (34 + 10 * p + k) ≤ 0) : m_ok c p b (k + 1) := by
  rcases h with ⟨h1, h2⟩ | ⟨h1, h2, h3, h4⟩
  · refine Or.inl ⟨h1, fun t a0 a1 a2 => ?_⟩
    by_cases q : t = k
    · subst q
      rcases hk with w | w
      · exact absurd w a2
      · exact w
    · exact h2 t a0 (by omega) a2
  · exact Or.inr ⟨h1, by omega, h3, h4⟩
theorem m_ok.old {c : Int → Int} {p b k : Int} (h : m_ok c p b k) (hb : 0 ≤ b) : m_ok c p b (k + 1) := by
  rcases h with ⟨h1, h2⟩ | ⟨h1, h2, h3, h4⟩
  · omega
  · exact Or.inr ⟨h1, by omega, h3, h4⟩
theorem m_ok.set {c : Int → Int} {p k : Int} (h0 : 0 ≤ k) (h5 : k ≠ c 5) (h1 : 1 ≤ c (34 + 10 * p + k)) : m_ok c p k (k + 1) := Or.inr ⟨h0, by omega, h5, h1⟩
/-- with cards, but none of the kind to be said, there is another kind -/
theorem m_ok.some {c : Int → Int} {p b : Int} (h : m_ok c p b (c 0)) (g : m_G c) (hp : 0 ≤ p ∧ p < 6) (hs : m_S c (34 + 10 * p) 10 ≠ 0) (h5 : c (34 + 10 * p + c 5) ≤ 0) : 0 ≤ b := by
  rcases h with ⟨h1, h2⟩ | ⟨h1, h2⟩
  · exfalso
    refine hs ?_
    have z : ∀ t : Int, 0 ≤ t → t < 10 → c (34 + 10 * p + t) = 0 := by
      intro t a0 a1
      have d := g.2.1 p t hp.1 hp.2 a0 a1
      by_cases q : c 0 ≤ t
      · exact d.2 q
      · by_cases w : t = c 5
        · subst w
          omega
        · have := h2 t a0 (by omega) w
          omega
    have y : ∀ n : Nat, n ≤ 10 → m_S c (34 + 10 * p) n = 0 := by
      intro n hn
      induction n with
      | zero => rfl
      | succ n ih =>
        show m_S c (34 + 10 * p) n + c (34 + 10 * p + (n : Int)) = 0
        rw [ih (by omega), z _ (by omega) (by omega)]
        rfl
    exact y 10 (by omega)
  · exact h1
theorem m_tk.le {c0 c : Int → Int} {p k i : Int} (h : m_tk c0 c p k i) (g : m_G c0) (hp : 0 ≤ p ∧ p < 6) (hk : 0 ≤ k ∧ k ≤ c0 9) (hi : 0 ≤ i ∧ i ≤ 4) (j : Int) (h0 : 34 + 10 * p ≤ j) (h1 : j < 44 + 10 * p) : 0 ≤ c j ∧ c j ≤ 84 := by
  obtain ⟨_, h2, h3⟩ := h
  have nn : ∀ j : Int, 34 + 10 * p ≤ j → j < 44 + 10 * p → 0 ≤ c j := by
    intro j a b
    have z := (h2 (j - (34 + 10 * p)) (by omega) (by omega)).1
    have e : 34 + 10 * p + (j - (34 + 10 * p)) = j := by omega
    rw [e] at z
    exact z
  have a := m_S_ge (c := c) (b := 34 + 10 * p) (A := j) (n := 10) (fun j a b => nn j a (by omega)) h0 (by omega)
  have l := g.Lall hk.1 hk.2
  have s := g.Shand hp.1 hp.2 (n := 10) (by omega)
  have t := g.tot
  have z := nn j h0 h1
  omega
/-- the array of cards to be laid -/
def m_of (σ : ST) (r : Nat) (j : Int) : Int := (σ.1 r j.toNat).toInt
theorem m_ofw {σ σ' : ST} {r : Nat} {i v : Int32} {A : Int} (e : σ' = q_si σ r i.toNatClampNeg v) (h : i.toInt = A) (h0 : 0 ≤ A) : ∀ j : Int, 0 ≤ j → m_of σ' r j = if j = A then v.toInt else m_of σ r j := by
  subst h
  intro j hj
  unfold m_of
  by_cases q : j = i.toInt
  · subst q
    rw [if_pos rfl]
    exact congrArg Int32.toInt (q_rd e)
  · rw [if_neg q]
    refine congrArg Int32.toInt (q_rdn e (Or.inr ?_))
    show j.toNat ≠ i.toInt.toNat
    omega
theorem m_ofo {σ σ' : ST} {r b f : Nat} {v : Int32} (e : σ' = q_si σ b f v) (h : r ≠ b) (j : Int) : m_of σ' r j = m_of σ r j := congrArg Int32.toInt (q_rdn e (Or.inl h))
/-- one kind laid -/
def m_l1 (f : Int → Int) (k n : Int) : Prop := ∀ j : Int, 0 ≤ j → j < 10 → f j = if j = k then n else 0
theorem m_l1.mk {f0 f : Int → Int} {k n v : Int} (z : ∀ j : Int, 0 ≤ j → j < 10 → f0 j = 0) (e : ∀ j : Int, 0 ≤ j → f j = if j = k then v else f0 j) (hv : v = n) : m_l1 f k n := by
  intro j a b
  rw [e j a, z j a b, hv]
theorem m_l1.ext {f f' : Int → Int} {k n : Int} (h : m_l1 f k n) (e : ∀ j : Int, f' j = f j) : m_l1 f' k n := fun j a b => by rw [e j]; exact h j a b
theorem m_S_zero {f : Int → Int} {n : Nat} (h : ∀ j : Int, 0 ≤ j → j < (n : Int) → f j = 0) : m_S f 0 n = 0 := by
  induction n with
  | zero => rfl
  | succ n ih =>
    show m_S f 0 n + f (0 + (n : Int)) = 0
    rw [ih (fun j a b => h j a (by omega)), h _ (by omega) (by omega)]
    rfl
theorem m_l1.sum {f : Int → Int} {k n : Int} (h : m_l1 f k n) (hk : 0 ≤ k ∧ k < 10) : m_S f 0 10 = n := by
  have w := m_S_upd (c := fun _ => 0) (c' := f) (b := 0) (A := k) (v := n) (n := 10) (fun j a b => h j a (by omega)) hk.1 (by omega)
  rw [m_S_zero (f := fun _ => (0 : Int)) (fun _ _ _ => rfl)] at w
  omega
theorem m_lo.one {c f : Int → Int} {p n : Int} (g : m_G c) (hp : 0 ≤ p ∧ p < 6) (h : m_l1 f (c 5) n) (hn : 1 ≤ n ∧ n ≤ 4) (hh : n ≤ c (34 + 10 * p + c 5)) : m_lo c f p := by
  have b := g.hd
  refine ⟨g, hp, fun k a0 a1 => ?_, by rw [h.sum (by omega)]; exact hn⟩
  have z := g.hand0 (j := 34 + 10 * p + k) (by omega) (by omega)
  rw [h k a0 a1]
  by_cases q : k = c 5
  · rw [if_pos q, q]
    omega
  · rw [if_neg q]
    omega
theorem m_lo.two {c f f2 : Int → Int} {p n o v : Int} (g : m_G c) (hp : 0 ≤ p ∧ p < 6) (h : m_l1 f (c 5) n) (e : ∀ j : Int, 0 ≤ j → f2 j = if j = o then v else f j) (hv : v = f o + 1) (hn : 0 ≤ n ∧ n ≤ 3) (hh : n ≤ c (34 + 10 * p + c 5)) (ho : 0 ≤ o ∧ o < 10) (h5 : o ≠ c 5) (h1 : 1 ≤ c (34 + 10 * p + o)) : m_lo c f2 p := by
  have b := g.hd
  have fo : f o = 0 := by rw [h o ho.1 ho.2, if_neg h5]
  have w := m_S_upd (c := f) (c' := f2) (b := 0) (A := o) (v := v) (n := 10) (fun j a b => e j a) ho.1 (by omega)
  rw [h.sum (by omega)] at w
  refine ⟨g, hp, fun k a0 a1 => ?_, by omega⟩
  have z := g.hand0 (j := 34 + 10 * p + k) (by omega) (by omega)
  rw [e k a0]
  by_cases q : k = o
  · rw [if_pos q, q]
    omega
  · rw [if_neg q, h k a0 a1]
    by_cases y : k = c 5
    · rw [if_pos y, y]
      omega
    · rw [if_neg y]
      omega
theorem m_W.shown {c c' : Int → Int} {n q v : Int} (h : m_W c n) (e : ∀ j : Int, 0 ≤ j → c' j = if j = 22 + q then v else c j) (hq : 0 ≤ q ∧ q < 6) (hv : v = c (22 + q) + 1) : m_W c' (n + 1) := by
  intro p h0 h1
  have w := h p h0 h1
  rw [e (28 + p) (by omega), if_neg (by omega), e (22 + p) (by omega)]
  by_cases z : p = q
  · subst z
    rw [if_pos rfl]
    omega
  · rw [if_neg (by omega)]
    omega
theorem m_W.lied {c c' : Int → Int} {n q v : Int} (h : m_W c n) (e : ∀ j : Int, 0 ≤ j → c' j = if j = 28 + q then v else c j) (hq : 0 ≤ q ∧ q < 6) (hv : 0 ≤ v ∧ v ≤ c (22 + q)) : m_W c' n := by
  intro p h0 h1
  have w := h p h0 h1
  rw [e (28 + p) (by omega), e (22 + p) (by omega), if_neg (by omega : ¬ 22 + p = 28 + q)]
  by_cases z : p = q
  · subst z
    rw [if_pos rfl]
    omega
  · rw [if_neg (by omega)]
    omega
end
/-! FROM 39z.nums.lean.txt -/
section
/-! numbers of the game: quotients, rests, products -/
theorem m_mulI {a b A B : Int} (h0 : 0 ≤ a) (h1 : a ≤ A) (h2 : 0 ≤ b) (h3 : b ≤ B) : 0 ≤ a * b ∧ a * b ≤ A * B ∧ a * b ≤ A * b ∧ a * b ≤ a * B :=
  ⟨Int.mul_nonneg h0 h2, Int.mul_le_mul h1 h3 h2 (by omega), Int.mul_le_mul_of_nonneg_right h1 h2, Int.mul_le_mul_of_nonneg_left h3 h0⟩
theorem m_div {x y z : Int32} (e : z = x / y) (hx : 0 ≤ x.toInt) (hy : 0 < y.toInt) : 0 ≤ z.toInt ∧ z.toInt ≤ x.toInt ∧ z.toInt = x.toInt / y.toInt := by
  have hr := q_rng x
  have h : z.toInt = x.toInt / y.toInt := by
    rw [e, Int32.toInt_div, Int.tdiv_eq_ediv_of_nonneg hx]
    have h1 := Int.ediv_nonneg hx (by omega : 0 ≤ y.toInt)
    have h2 := Int.ediv_le_self y.toInt hx
    exact Int.bmod_eq_of_le (by omega) (by omega)
  rw [h]
  exact ⟨Int.ediv_nonneg hx (by omega), Int.ediv_le_self _ hx, rfl⟩
theorem m_rem {x y z : Int32} (e : z = x - x / y * y) (hx : 0 ≤ x.toInt) (hy : 0 < y.toInt) : 0 ≤ z.toInt ∧ z.toInt < y.toInt ∧ z.toInt ≤ x.toInt ∧ (x.toInt < y.toInt → z.toInt = x.toInt) ∧ (x.toInt = y.toInt → z.toInt = 0) := by
  have hr := q_rng x
  have hd := m_div (x := x) (y := y) rfl hx hy
  have k1 := Int.emod_nonneg x.toInt (by omega : y.toInt ≠ 0)
  have k2 := Int.emod_lt_of_pos x.toInt hy
  have k3 : x.toInt / y.toInt * y.toInt = x.toInt - x.toInt % y.toInt := by
    have := Int.mul_ediv_add_emod x.toInt y.toInt
    rw [Int.mul_comm] at this
    omega
  have k4 : x.toInt % y.toInt ≤ x.toInt := by
    by_cases q : x.toInt < y.toInt
    · rw [Int.emod_eq_of_lt hx q]; exact Int.le_refl _
    · omega
  have hm : (x / y * y).toInt = x.toInt - x.toInt % y.toInt := by
    rw [Int32.toInt_mul, hd.2.2, k3]
    exact Int.bmod_eq_of_le (by omega) (by omega)
  have h : z.toInt = x.toInt % y.toInt := by
    rw [e, Int32.toInt_sub, hm]
    have w : x.toInt - (x.toInt - x.toInt % y.toInt) = x.toInt % y.toInt := by omega
    rw [w]
    exact Int.bmod_eq_of_le (by omega) (by omega)
  rw [h]
  exact ⟨k1, k2, k4, fun q => Int.emod_eq_of_lt hx q, fun q => by rw [q, Int.emod_self]⟩
/-- a step of the ways to choose -/
theorem m_chs {x y z : Int64} {a b i : Int} (e : z = x / y) (hx : x.toInt = a * b) (hy : y.toInt = i) (ha : 1 ≤ a) (hi : 1 ≤ i) (hib : i ≤ b) (hb : b ≤ 800) (hs : a ≤ 512000000) : a ≤ z.toInt ∧ z.toInt ≤ 800 * a := by
  have hm := m_mulI (a := a) (A := 512000000) (b := b) (B := 800) (by omega) hs (by omega) hb
  have hd0 : 0 ≤ a * b / i := Int.ediv_nonneg hm.1 (by omega)
  have hd1 : a * b / i ≤ a * b := Int.ediv_le_self _ hm.1
  have h : z.toInt = a * b / i := by
    rw [e, Int64.toInt_div, hx, hy, Int.tdiv_eq_ediv_of_nonneg hm.1]
    exact Int.bmod_eq_of_le (by omega) (by omega)
  rw [h]
  refine ⟨?_, by omega⟩
  rw [Int.le_ediv_iff_mul_le (by omega)]
  exact Int.mul_le_mul_of_nonneg_left hib (by omega)
theorem m_remabs {x y z : Int64} (e : z = x - x / y * y) (hy : y.toInt ≠ 0) : z.toInt.natAbs < y.toInt.natAbs := by
  have hl := Int64.le_toInt y
  have hu := Int64.toInt_lt y
  have h0 : (x.toInt.tmod y.toInt).natAbs < y.toInt.natAbs := by
    rw [Int.natAbs_tmod]
    exact Nat.mod_lt _ (by omega)
  have h : z.toInt = x.toInt.tmod y.toInt := by
    rw [e, Int64.toInt_sub, Int64.toInt_mul, Int64.toInt_div]
    rw [Int.sub_bmod_bmod, ← Int.sub_bmod_bmod, Int.bmod_mul_bmod, Int.sub_bmod_bmod]
    have w : x.toInt - x.toInt.tdiv y.toInt * y.toInt = x.toInt.tmod y.toInt := by
      have := Int.mul_tdiv_add_tmod x.toInt y.toInt
      rw [Int.mul_comm] at this
      omega
    rw [w]
    exact Int.bmod_eq_of_le (by omega) (by omega)
  rw [h]
  exact h0
theorem m_neg0 {x z : Int64} (e : z = -x) (h : z.toInt = 0) : x.toInt = 0 := by
  have h1 : z = 0 := Int64.toInt_inj.mp (by rw [h]; rfl)
  rw [h1] at e
  have h2 : x = 0 := by
    have := congrArg (fun w => -w) e
    simpa using this.symm
  rw [h2]
  rfl
theorem m_ll {σ σ' : ST} {a f : Nat} {v : Int64} (e : σ' = q_sl σ a f v) : σ'.2.1 a f = v := by
  rw [e]
  show (if a = a ∧ f = f then v else _) = v
  rw [if_pos ⟨rfl, rfl⟩]
theorem m_lln {σ σ' : ST} {a b f g : Nat} {v : Int64} (e : σ' = q_sl σ a f v) (h : b ≠ a ∨ g ≠ f) : σ'.2.1 b g = σ.2.1 b g := by
  rw [e]
  show (if b = a ∧ g = f then v else σ.2.1 b g) = _
  rw [if_neg]
  rintro ⟨h1, h2⟩
  rcases h with h | h
  · exact h h1
  · exact h h2
theorem m_lsi {σ σ' : ST} {a b f g : Nat} {v : Int32} (e : σ' = q_si σ a f v) : σ'.2.1 b g = σ.2.1 b g := by rw [e]; rfl
/-! what a game's method keeps beside: what was kept, and how many steps were done (field d) -/
def m_KD (d : Nat) (X : XW) (σ σ' : ST) : Prop := ∀ b g, (q_kd X b = 35 ∨ (q_kd X b = 12 ∧ g = d)) → σ'.1 b g = σ.1 b g
theorem m_KD.rf {d : Nat} {X : XW} {σ : ST} : m_KD d X σ σ := fun _ _ _ => rfl
theorem m_KD.tr {d : Nat} {X : XW} {σ σ' σ'' : ST} (h : m_KD d X σ σ') (h2 : m_KD d X σ' σ'') : m_KD d X σ σ'' := fun b g q => (h2 b g q).trans (h b g q)
theorem m_KD.si {d : Nat} {X : XW} {σ τ τ' : ST} {a f k : Nat} {v : Int32} (h : m_KD d X σ τ) (e : τ' = q_si τ a f v) (ha : q_kd X a = k) (hk : ¬ (k = 35 ∨ (k = 12 ∧ f = d))) : m_KD d X σ τ' := by
  intro b g q
  rw [q_rdn e, h b g q]
  by_cases w : b = a
  · subst w
    refine Or.inr (fun w2 => hk ?_)
    rw [ha, w2] at q
    exact q
  · exact Or.inl w
theorem m_KD.ar {d : Nat} {X : XW} {σ τ τ' : ST} {a f k : Nat} {v : Int32} (h : m_KD d X σ τ) (e : τ' = q_si τ a f v) (ha : q_kd X a = k) (h1 : k ≠ 35) (h2 : k ≠ 12) : m_KD d X σ τ' := h.si e ha (by rintro (q | q) <;> omega)
theorem m_KD.sl {d : Nat} {X : XW} {σ τ τ' : ST} {a f : Nat} {v : Int64} (h : m_KD d X σ τ) (e : τ' = q_sl τ a f v) : m_KD d X σ τ' := fun b g q => (q_rdl e).trans (h b g q)
theorem m_KD.no {d : Nat} {X : XW} {σ σ' : ST} (h : m_KD d X σ σ') (d' : Nat) (hd : ∀ b, q_kd X b = 12 → σ'.1 b d' = σ.1 b d') : m_KD d' X σ σ' := fun b g q => by
  rcases q with q | q
  · exact h b g (Or.inl q)
  · rw [q.2]; exact hd b q.1
theorem m_mulS {a b A B : Int} (h0 : -A ≤ a) (h1 : a ≤ A) (h2 : 0 ≤ b) (h3 : b ≤ B) : -(A * B) ≤ a * b ∧ a * b ≤ A * B ∧ (a = 0 → a * b = 0) ∧ (1 ≤ a → 1 ≤ b → 1 ≤ a * b) := by
  have hA : 0 ≤ A := by omega
  have e1 : A * b ≤ A * B := Int.mul_le_mul_of_nonneg_left h3 hA
  have e2 : a * b ≤ A * b := Int.mul_le_mul_of_nonneg_right h1 h2
  have e3 : (-A) * b ≤ a * b := Int.mul_le_mul_of_nonneg_right h0 h2
  have e4 : (-A) * b = -(A * b) := Int.neg_mul _ _
  refine ⟨by omega, by omega, fun q => by rw [q, Int.zero_mul], fun p q => ?_⟩
  have z : 1 * 1 ≤ a * b := Int.mul_le_mul p q (by decide) (by omega)
  omega
end
/-! FROM 40.look.a.lean.txt -/
section
section QS
variable {p : Program} {l : Launch} {e : Env} {R : Room} {s : State} {m : MethodId} {args : Array Value} {below : List Frame} {meth : Method} {c : Code} {H : Heap} {locs : List Loc} {cells slots : Nat} {Q : State → Prop} {cc : ByteArray} {X : XW} {n : Nat} {σ0 σ : ST} {H0 : Heap} {pc : Nat} {ls : Array Slot} {rest : List Value} {a : Nat}
theorem kv_X12_276 : q_okV RX12 276 RX12 yX12_handOf cX12_handOf 3 (some .int) 2 := ⟨(q_in_t8 (i := 139) (by first | rfl | decide +kernel) rfl), (q_in_t8 (i := 141) (by first | rfl | decide +kernel) rfl), (q_in_p (i := 82) (by decide +kernel) rfl), (q_in_t1 (i := 14) (by first | rfl | decide +kernel) rfl), (q_in_t8 (i := 142) (by first | rfl | decide +kernel) rfl), ⟨rfl, by decide, by decide, rfl⟩⟩
theorem ks_X12_279 : q_okS RX12 279 yX12_laid cX12_laid 1 (some .int) 1 := ⟨(q_in_t8 (i := 124) (by first | rfl | decide +kernel) rfl), (q_in_t8 (i := 125) (by first | rfl | decide +kernel) rfl), (q_in_t1 (i := 14) (by first | rfl | decide +kernel) rfl), (q_in_t8 (i := 126) (by first | rfl | decide +kernel) rfl), ⟨by decide, by decide, rfl⟩⟩
theorem kv_X12_296 : q_okV RX12 296 RX12 yX12_laidOf cX12_laidOf 7 (some .int) 2 := ⟨(q_in_t8 (i := 143) (by first | rfl | decide +kernel) rfl), (q_in_t8 (i := 145) (by first | rfl | decide +kernel) rfl), (q_in_p (i := 83) (by decide +kernel) rfl), (q_in_t1 (i := 14) (by first | rfl | decide +kernel) rfl), (q_in_t8 (i := 146) (by first | rfl | decide +kernel) rfl), ⟨rfl, by decide, by decide, rfl⟩⟩
end QS
end
/-! FROM 40.look.b00.lean.txt -/
section
set_option maxRecDepth 100000 in
set_option maxHeartbeats 4000000 in
theorem c_X12_isPlayerAt (l : Launch) (X : XW) (σ : ST) (a : Nat) (v1 : Int32) (ha : q_kd X a = 12) (hG : m_G (m_c X σ a)) : Met l yX12_isPlayerAt (q_ws yX12_isPlayerAt cX12_isPlayerAt 2 (some .boolean)) (q_rm 1 25) (q_P X σ [.ref a, .int v1]) (q_Qi X 9 σ (fun (r : Int32) (σ' : ST) => σ' = σ ∧ (0 ≤ r.toInt ∧ r.toInt ≤ 1) ∧ (r.toInt = 1 ↔ (0 ≤ v1.toInt ∧ v1.toInt < m_c X σ a 2)) ∧ r = F_X12_isPlayerAt X σ a v1)) 0 0 (q_reg X) := by
  refine q_met 9 (by first | exact rfl | decide +kernel) rfl (Nat.le_of_ble_eq_true rfl) (fun p e s m below meth c E hml hr hlk hI ls hl => ?_)
  have hx := E.1
  have hb := E.2.1
  have hl : lv_has ls 2 [(0, .ref a), (1, .int v1)] := hl
  have hh := hG.hd
  obtain ⟨out, hout⟩ : ∃ o, o = F_X12_isPlayerAt X σ a v1 := ⟨_, rfl⟩
  have hF := hout.symm
  unfold F_X12_isPlayerAt at hF
  refine lv_iload_n hx hb dX12_isPlayerAt_0 rfl (lv_at hl 1 rfl) ?_
  refine lv_i2l hx hb dX12_isPlayerAt_1 rfl ?_
  refine lv_topl (fun y_1 ey_1 => ?_)
  replace hF := q_letX hF ey_1
  have ggy_1 := q_rng v1
  have iy_1 : y_1.toInt = v1.toInt := by rw [ey_1]; exact (q_i2l _).trans rfl
  refine lv_lconst (v := 0) hx hb dX12_isPlayerAt_2 (by decide) ?_
  refine lv_aload_n hx hb dX12_isPlayerAt_3 rfl (lv_at hl 0 rfl) ?_
  refine gs_X12_35_12 E hI ha dX12_isPlayerAt_4 ?_
  refine lv_iconst (v := 2) hx hb dX12_isPlayerAt_7 (by decide) ?_
  refine q_iald E hI (q_tk (k' := 34) hI ha rfl (by decide)) ⟨by decide, rfl⟩ (by decide) (by rw [q_lnk (v := 4650) hI (q_tk (k' := 34) hI ha rfl (by decide)) rfl (by decide)]; decide) dX12_isPlayerAt_8 ?_
  refine lv_topi (fun f_2 ef_2 => ?_)
  replace hF := q_letX hF ef_2
  have if_2 : f_2.toInt = m_c X σ a 2 := m_rd ef_2 (by decide)
  refine lv_iconst (v := 1) hx hb dX12_isPlayerAt_9 (by decide) ?_
  refine lv_isub hx hb dX12_isPlayerAt_10 ?_
  refine lv_topi (fun z_3 ez_3 => ?_)
  replace hF := q_letX hF ez_3
  have iz_3 := q_subI (A := (m_c X σ a 2)) (B := 1) ez_3 if_2 (by decide) (by first | (clear ggy_1 iy_1; omega) | omega) (by first | (clear ggy_1 iy_1; omega) | omega)
  refine lv_i2l hx hb dX12_isPlayerAt_11 rfl ?_
  refine lv_topl (fun y_4 ey_4 => ?_)
  replace hF := q_letX hF ey_4
  have ggy_4 := q_rng z_3
  have iy_4 : y_4.toInt = z_3.toInt := by rw [ey_4]; exact (q_i2l _).trans rfl
  have kc_5 : (0 : Int64).toInt = 0 := rfl
  refine q_ci (q_runS (As := [.long y_1, .long 0, .long y_4]) (rest := []) E (hml.trans hl.1.symm) hI (c_X12_isIn l X σ y_1 (0 : Int64) y_4) ks_X12_94 rfl ⟨Nat.le_of_ble_eq_true rfl, Nat.le_of_ble_eq_true rfl⟩ ⟨Nat.le_refl _, Nat.le_refl _⟩ rfl (Nat.le_of_ble_eq_true rfl) dX12_isPlayerAt_12) hI (by decide) (fun r_6 σ_7 H locs hpσ_7 hkσ_7 hI => ?_)
  obtain ⟨ahpσ_7, bhpσ_7, chpσ_7, dhpσ_7⟩ := hpσ_7
  rw [ahpσ_7] at hI
  replace hF := q_letX hF dhpσ_7
  exact q_retz E hr hlk hI ⟨by omega, by omega⟩ ⟨rfl, ⟨by omega, by omega⟩, (by first | (clear ggy_4 ahpσ_7 dhpσ_7; omega) | omega), (hF.trans hout)⟩ dX12_isPlayerAt_15

set_option maxRecDepth 100000 in
set_option maxHeartbeats 4000000 in
theorem c_X12_isKindAt (l : Launch) (X : XW) (σ : ST) (a : Nat) (v1 : Int32) (ha : q_kd X a = 12) (hG : m_G (m_c X σ a)) : Met l yX12_isKindAt (q_ws yX12_isKindAt cX12_isKindAt 2 (some .boolean)) (q_rm 1 25) (q_P X σ [.ref a, .int v1]) (q_Qi X 9 σ (fun (r : Int32) (σ' : ST) => σ' = σ ∧ (0 ≤ r.toInt ∧ r.toInt ≤ 1) ∧ (r.toInt = 1 ↔ (0 ≤ v1.toInt ∧ v1.toInt < m_c X σ a 0)) ∧ r = F_X12_isKindAt X σ a v1)) 0 0 (q_reg X) := by
  refine q_met 9 (by first | exact rfl | decide +kernel) rfl (Nat.le_of_ble_eq_true rfl) (fun p e s m below meth c E hml hr hlk hI ls hl => ?_)
  have hx := E.1
  have hb := E.2.1
  have hl : lv_has ls 2 [(0, .ref a), (1, .int v1)] := hl
  have hh := hG.hd
  obtain ⟨out, hout⟩ : ∃ o, o = F_X12_isKindAt X σ a v1 := ⟨_, rfl⟩
  have hF := hout.symm
  unfold F_X12_isKindAt at hF
  refine lv_iload_n hx hb dX12_isKindAt_0 rfl (lv_at hl 1 rfl) ?_
  refine lv_i2l hx hb dX12_isKindAt_1 rfl ?_
  refine lv_topl (fun y_1 ey_1 => ?_)
  replace hF := q_letX hF ey_1
  have ggy_1 := q_rng v1
  have iy_1 : y_1.toInt = v1.toInt := by rw [ey_1]; exact (q_i2l _).trans rfl
  refine lv_lconst (v := 0) hx hb dX12_isKindAt_2 (by decide) ?_
  refine lv_aload_n hx hb dX12_isKindAt_3 rfl (lv_at hl 0 rfl) ?_
  refine gs_X12_35_12 E hI ha dX12_isKindAt_4 ?_
  refine lv_iconst (v := 0) hx hb dX12_isKindAt_7 (by decide) ?_
  refine q_iald E hI (q_tk (k' := 34) hI ha rfl (by decide)) ⟨by decide, rfl⟩ (by decide) (by rw [q_lnk (v := 4650) hI (q_tk (k' := 34) hI ha rfl (by decide)) rfl (by decide)]; decide) dX12_isKindAt_8 ?_
  refine lv_topi (fun f_2 ef_2 => ?_)
  replace hF := q_letX hF ef_2
  have if_2 : f_2.toInt = m_c X σ a 0 := m_rd ef_2 (by decide)
  refine lv_iconst (v := 1) hx hb dX12_isKindAt_9 (by decide) ?_
  refine lv_isub hx hb dX12_isKindAt_10 ?_
  refine lv_topi (fun z_3 ez_3 => ?_)
  replace hF := q_letX hF ez_3
  have iz_3 := q_subI (A := (m_c X σ a 0)) (B := 1) ez_3 if_2 (by decide) (by first | (clear ggy_1 iy_1; omega) | omega) (by first | (clear ggy_1 iy_1; omega) | omega)
  refine lv_i2l hx hb dX12_isKindAt_11 rfl ?_
  refine lv_topl (fun y_4 ey_4 => ?_)
  replace hF := q_letX hF ey_4
  have ggy_4 := q_rng z_3
  have iy_4 : y_4.toInt = z_3.toInt := by rw [ey_4]; exact (q_i2l _).trans rfl
  have kc_5 : (0 : Int64).toInt = 0 := rfl
  refine q_ci (q_runS (As := [.long y_1, .long 0, .long y_4]) (rest := []) E (hml.trans hl.1.symm) hI (c_X12_isIn l X σ y_1 (0 : Int64) y_4) ks_X12_94 rfl ⟨Nat.le_of_ble_eq_true rfl, Nat.le_of_ble_eq_true rfl⟩ ⟨Nat.le_refl _, Nat.le_refl _⟩ rfl (Nat.le_of_ble_eq_true rfl) dX12_isKindAt_12) hI (by decide) (fun r_6 σ_7 H locs hpσ_7 hkσ_7 hI => ?_)
  obtain ⟨ahpσ_7, bhpσ_7, chpσ_7, dhpσ_7⟩ := hpσ_7
  rw [ahpσ_7] at hI
  replace hF := q_letX hF dhpσ_7
  exact q_retz E hr hlk hI ⟨by omega, by omega⟩ ⟨rfl, ⟨by omega, by omega⟩, (by first | (clear ggy_4 ahpσ_7 dhpσ_7; omega) | omega), (hF.trans hout)⟩ dX12_isKindAt_15

set_option maxRecDepth 100000 in
set_option maxHeartbeats 4000000 in
theorem c_X12_isTray (l : Launch) (X : XW) (σ : ST) (a : Nat) (v1 : Int32) (ha : q_kd X a = 12) : Met l yX12_isTray (q_ws yX12_isTray cX12_isTray 2 (some .boolean)) (q_rm 1 25) (q_P X σ [.ref a, .int v1]) (q_Qi X 9 σ (fun (r : Int32) (σ' : ST) => σ' = σ ∧ (0 ≤ r.toInt ∧ r.toInt ≤ 1) ∧ (r.toInt = 1 ↔ (0 ≤ v1.toInt ∧ v1.toInt < 4)) ∧ r = F_X12_isTray X σ a v1)) 0 0 (q_reg X) := by
  refine q_met 9 (by first | exact rfl | decide +kernel) rfl (Nat.le_of_ble_eq_true rfl) (fun p e s m below meth c E hml hr hlk hI ls hl => ?_)
  have hx := E.1
  have hb := E.2.1
  have hl : lv_has ls 2 [(0, .ref a), (1, .int v1)] := hl
  obtain ⟨out, hout⟩ : ∃ o, o = F_X12_isTray X σ a v1 := ⟨_, rfl⟩
  have hF := hout.symm
  unfold F_X12_isTray at hF
  refine lv_iload_n hx hb dX12_isTray_0 rfl (lv_at hl 1 rfl) ?_
  refine lv_i2l hx hb dX12_isTray_1 rfl ?_
  refine lv_topl (fun y_1 ey_1 => ?_)
  replace hF := q_letX hF ey_1
  have ggy_1 := q_rng v1
  have iy_1 : y_1.toInt = v1.toInt := by rw [ey_1]; exact (q_i2l _).trans rfl
  refine lv_lconst (v := 0) hx hb dX12_isTray_2 (by decide) ?_
  refine lv_ldc2 (v := 3) hx hb E.2.2.1 (E.2.2.2.1 _ (q_in_t8 (i := 167) (by first | rfl | decide +kernel) rfl)) dX12_isTray_3 ?_
  have kc_2 : (0 : Int64).toInt = 0 := rfl
  have kc_3 : (3 : Int64).toInt = 3 := rfl
  refine q_ci (q_runS (As := [.long y_1, .long 0, .long 3]) (rest := []) E (hml.trans hl.1.symm) hI (c_X12_isIn l X σ y_1 (0 : Int64) (3 : Int64)) ks_X12_94 rfl ⟨Nat.le_of_ble_eq_true rfl, Nat.le_of_ble_eq_true rfl⟩ ⟨Nat.le_refl _, Nat.le_refl _⟩ rfl (Nat.le_of_ble_eq_true rfl) dX12_isTray_6) hI (by decide) (fun r_4 σ_5 H locs hpσ_5 hkσ_5 hI => ?_)
  obtain ⟨ahpσ_5, bhpσ_5, chpσ_5, dhpσ_5⟩ := hpσ_5
  rw [ahpσ_5] at hI
  replace hF := q_letX hF dhpσ_5
  exact q_retz E hr hlk hI ⟨by omega, by omega⟩ ⟨rfl, ⟨by omega, by omega⟩, (by first | (clear ahpσ_5 dhpσ_5; omega) | omega), (hF.trans hout)⟩ dX12_isTray_9

set_option maxRecDepth 100000 in
set_option maxHeartbeats 4000000 in
theorem c_X12_handOf (l : Launch) (X : XW) (σ : ST) (a : Nat) (v1 : Int32) (v2 : Int32) (ha : q_kd X a = 12) (h0 : 0 ≤ v1.toInt ∧ v1.toInt ≤ 5) (h1 : 0 ≤ v2.toInt ∧ v2.toInt ≤ 9) : Met l yX12_handOf (q_ws yX12_handOf cX12_handOf 3 (some .int)) (q_rm 0 0) (q_P X σ [.ref a, .int v1, .int v2]) (q_Qi X 9 σ (fun (r : Int32) (σ' : ST) => σ' = σ ∧ (r.toInt = m_c X σ a (34 + 10 * v1.toInt + v2.toInt)) ∧ r = F_X12_handOf X σ a v1 v2)) 0 0 (q_reg X) := by
  refine q_met 9 (by first | exact rfl | decide +kernel) rfl (Nat.le_of_ble_eq_true rfl) (fun p e s m below meth c E hml hr hlk hI ls hl => ?_)
  have hx := E.1
  have hb := E.2.1
  have hl : lv_has ls 3 [(0, .ref a), (1, .int v1), (2, .int v2)] := hl
  obtain ⟨out, hout⟩ : ∃ o, o = F_X12_handOf X σ a v1 v2 := ⟨_, rfl⟩
  have hF := hout.symm
  unfold F_X12_handOf at hF
  refine lv_aload_n hx hb dX12_handOf_0 rfl (lv_at hl 0 rfl) ?_
  refine gs_X12_35_12 E hI ha dX12_handOf_1 ?_
  refine lv_bipush (v := 34) hx hb dX12_handOf_4 (by decide) ?_
  refine lv_bipush (v := 10) hx hb dX12_handOf_6 (by decide) ?_
  refine lv_iload_n hx hb dX12_handOf_8 rfl (lv_at hl 1 rfl) ?_
  refine lv_imul hx hb dX12_handOf_9 ?_
  refine lv_topi (fun z_1 ez_1 => ?_)
  replace hF := q_letX hF ez_1
  have iz_1 := q_mulI (A := 10) (B := v1.toInt) ez_1 (by decide) rfl (by first | (clear h0 h1; omega) | omega) (by first | (clear h0 h1; omega) | omega)
  refine lv_iadd hx hb dX12_handOf_10 ?_
  refine lv_topi (fun z_2 ez_2 => ?_)
  replace hF := q_letX hF ez_2
  have iz_2 := q_addI (A := 34) (B := (10 * v1.toInt)) ez_2 (by decide) iz_1 (by first | (clear h0 h1 iz_1; omega) | omega) (by first | (clear h0 h1 iz_1; omega) | omega)
  refine lv_iload_n hx hb dX12_handOf_11 rfl (lv_at hl 2 rfl) ?_
  refine lv_iadd hx hb dX12_handOf_12 ?_
  refine lv_topi (fun z_3 ez_3 => ?_)
  replace hF := q_letX hF ez_3
  have iz_3 := q_addI (A := (34 + (10 * v1.toInt))) (B := v2.toInt) ez_3 iz_2 rfl (by first | (clear h0 h1 iz_1 iz_2; omega) | omega) (by first | (clear h0 h1 iz_1 iz_2; omega) | omega)
  refine q_iald E hI (q_tk (k' := 34) hI ha rfl (by decide)) ⟨by decide, rfl⟩ (by first | (clear h0 h1 iz_1 iz_2; omega) | omega) (by rw [q_lnk (v := 4650) hI (q_tk (k' := 34) hI ha rfl (by decide)) rfl (by decide)]; omega) dX12_handOf_13 ?_
  refine lv_topi (fun f_4 ef_4 => ?_)
  replace hF := q_letX hF ef_4
  have if_4 : f_4.toInt = m_c X σ a ((34 + (10 * v1.toInt)) + v2.toInt) := m_rd ef_4 iz_3
  exact q_reti E hr hlk hI ⟨rfl, if_4, (hF.trans hout)⟩ dX12_handOf_14

set_option maxRecDepth 100000 in
set_option maxHeartbeats 4000000 in
theorem c_X12_laid (l : Launch) (X : XW) (σ : ST) (v0 : Int32) (h0 : 0 ≤ v0.toInt ∧ v0.toInt ≤ 100) : Met l yX12_laid (q_ws yX12_laid cX12_laid 1 (some .int)) (q_rm 0 0) (q_P X σ [.int v0]) (q_Qi X 9 σ (fun (r : Int32) (σ' : ST) => σ' = σ ∧ (r.toInt = 94 + 7 * v0.toInt) ∧ r = F_X12_laid X σ v0)) 0 0 (q_reg X) := by
  refine q_met 9 (by first | exact rfl | decide +kernel) rfl (Nat.le_of_ble_eq_true rfl) (fun p e s m below meth c E hml hr hlk hI ls hl => ?_)
  have hx := E.1
  have hb := E.2.1
  have hl : lv_has ls 1 [(0, .int v0)] := hl
  obtain ⟨out, hout⟩ : ∃ o, o = F_X12_laid X σ v0 := ⟨_, rfl⟩
  have hF := hout.symm
  unfold F_X12_laid at hF
  refine lv_bipush (v := 94) hx hb dX12_laid_0 (by decide) ?_
  refine lv_bipush (v := 7) hx hb dX12_laid_2 (by decide) ?_
  refine lv_iload_n hx hb dX12_laid_4 rfl (lv_at hl 0 rfl) ?_
  refine lv_imul hx hb dX12_laid_5 ?_
  refine lv_topi (fun z_1 ez_1 => ?_)
  replace hF := q_letX hF ez_1
  have iz_1 := q_mulI (A := 7) (B := v0.toInt) ez_1 (by decide) rfl (by first | (clear h0; omega) | omega) (by first | (clear h0; omega) | omega)
  refine lv_iadd hx hb dX12_laid_6 ?_
  refine lv_topi (fun z_2 ez_2 => ?_)
  replace hF := q_letX hF ez_2
  have iz_2 := q_addI (A := 94) (B := (7 * v0.toInt)) ez_2 (by decide) iz_1 (by first | (clear h0 iz_1; omega) | omega) (by first | (clear h0 iz_1; omega) | omega)
  exact q_reti E hr hlk hI ⟨rfl, (by omega), (hF.trans hout)⟩ dX12_laid_7

set_option maxRecDepth 100000 in
set_option maxHeartbeats 4000000 in
theorem c_X12_cardsOf (l : Launch) (X : XW) (σ : ST) (a : Nat) (v1 : Int32) (ha : q_kd X a = 12) (hG : m_G (m_c X σ a)) (h0 : 0 ≤ v1.toInt ∧ v1.toInt ≤ 5) : Met l yX12_cardsOf (q_ws yX12_cardsOf cX12_cardsOf 4 (some .int)) (q_rm 1 22) (q_P X σ [.ref a, .int v1]) (q_Qi X 9 σ (fun (r : Int32) (σ' : ST) => σ' = σ ∧ (r.toInt = m_S (m_c X σ a) (34 + 10 * v1.toInt) 10) ∧ (0 ≤ r.toInt ∧ r.toInt ≤ 80) ∧ r = F_X12_cardsOf X σ a v1)) 0 0 (q_reg X) := by
  refine q_met 9 (by first | exact rfl | decide +kernel) rfl (Nat.le_of_ble_eq_true rfl) (fun p e s m below meth c E hml hr hlk hI ls hl => ?_)
  have hx := E.1
  have hb := E.2.1
  have hl : lv_has ls 4 [(0, .ref a), (1, .int v1)] := hl
  have hh := hG.hd
  obtain ⟨out, hout⟩ : ∃ o, o = F_X12_cardsOf X σ a v1 := ⟨_, rfl⟩
  have hF := hout.symm
  unfold F_X12_cardsOf at hF
  refine lv_iconst (v := 0) hx hb dX12_cardsOf_0 (by decide) ?_
  refine lv_istore_n (lv' := [(2, .int 0), (0, .ref a), (1, .int v1)]) hx hb dX12_cardsOf_1 rfl hl (by decide) rfl (fun ls hl => ?_)
  refine lv_iconst (v := 0) hx hb dX12_cardsOf_2 (by decide) ?_
  refine lv_istore_n (lv' := [(3, .int 0), (2, .int 0), (0, .ref a), (1, .int v1)]) hx hb dX12_cardsOf_3 rfl hl (by decide) rfl (fun ls hl => ?_)
  have L_4_3 : ∀ (k_3 : Nat) (x_1 : Int32) (x_2 : Int32) (H : Heap) (locs : List Loc) (ls : Array Slot), (2147483647 - x_2.toInt).toNat < k_3 → (0 ≤ x_2.toInt ∧ x_2.toInt ≤ 10) → (x_1.toInt = m_S (m_c X σ a) (34 + 10 * v1.toInt) x_2.toInt.toNat) → (F_X12_cardsOf_L4_1 X σ a v1 k_3 x_1 x_2 = out) → q_I X 9 σ s.heap locs σ H → lv_has ls 4 [(0, .ref a), (1, .int v1), (2, .int x_1), (3, .int x_2)] → W p l e (q_rm 1 22) s m ([.ref a, .int v1] : List Value).toArray below meth c H locs 0 0 (MQ below (q_Qi X 9 σ (fun (r : Int32) (σ' : ST) => σ' = σ ∧ (r.toInt = m_S (m_c X σ a) (34 + 10 * v1.toInt) 10) ∧ (0 ≤ r.toInt ∧ r.toInt ≤ 80) ∧ r = F_X12_cardsOf X σ a v1)) ([.ref a, .int v1] : List Value).toArray s 0 0 (q_reg X)) (F0 m 4 ls []) := by
    clear hF
    intro k_3
    induction k_3 with
    | zero =>
      intro x_1 x_2 H locs ls hms
      exact absurd hms (Nat.not_lt_zero _)
    | succ k_3 ih4 =>
      intro x_1 x_2 H locs ls hm4 hge4 hs4 hF hI hl
      replace hF := (F_X12_cardsOf_L4_1_s).symm.trans hF
      unfold F_X12_cardsOf_B4_1 at hF
      have sb := hG.S80 (p := v1.toInt) (k := x_2.toInt) (by first | (clear h0 hh hm4 hge4 hs4; omega) | omega) (by first | (clear h0 hh hm4 hge4 hs4; omega) | omega) (by first | (clear h0 hh hm4 hs4; omega) | omega) (by first | (clear h0 hh hm4 hs4; omega) | omega)
      have ps := m_S_succ (m_c X σ a) (34 + 10 * v1.toInt) x_2.toInt hge4.1
      refine lv_iload_n hx hb dX12_cardsOf_4 rfl (lv_at hl 3 rfl) ?_
      refine lv_bipush (v := 10) hx hb dX12_cardsOf_5 (by decide) ?_
      have gc_4_x_2 := q_rng x_2
      refine q_icmp_ge (A := x_2.toInt) (B := 10) E rfl (by decide) (tgt := 25) dX12_cardsOf_7 (by decide) (fun c_4 => ?_) (fun c_4 => ?_)
      · skip
        replace hF := q_ifn hF (Int.not_lt.mpr c_4)
        skip
        refine lv_iload_n hx hb dX12_cardsOf_25 rfl (lv_at hl 2 rfl) ?_
        exact q_reti E hr hlk hI ⟨rfl, (by have q : x_2.toInt.toNat = 10 := (by first | (clear h0 hh hm4 hs4 sb ps gc_4_x_2; omega) | omega); rw [q] at hs4; exact hs4), (by first | (clear h0 hh hm4 hge4 gc_4_x_2 c_4; omega) | omega), (hF.trans hout)⟩ dX12_cardsOf_26
      · skip
        replace hF := q_ifp hF c_4
        refine lv_iload_n hx hb dX12_cardsOf_10 rfl (lv_at hl 2 rfl) ?_
        refine lv_aload_n hx hb dX12_cardsOf_11 rfl (lv_at hl 0 rfl) ?_
        refine lv_iload_n hx hb dX12_cardsOf_12 rfl (lv_at hl 1 rfl) ?_
        refine lv_iload_n hx hb dX12_cardsOf_13 rfl (lv_at hl 3 rfl) ?_
        refine q_ci (q_runV (As := [.int v1, .int x_2]) (rest := [.int x_1]) E (hml.trans hl.1.symm) hI (c_X12_handOf l X σ a v1 x_2 ha (by omega) (by first | (clear h0 hh hm4 hs4 sb ps gc_4_x_2; omega) | omega)) kv_X12_276 ha ⟨rfl, by decide⟩ (show vwCl[11]? = some (RX12, TX12, 46) from rfl) rfl ⟨Nat.le_of_ble_eq_true rfl, Nat.le_of_ble_eq_true rfl⟩ ⟨Nat.le_refl _, Nat.le_refl _⟩ rfl (Nat.le_of_ble_eq_true rfl) dX12_cardsOf_14) hI (by decide) (fun r_5 σ_6 H locs hpσ_6 hkσ_6 hI => ?_)
        obtain ⟨ahpσ_6, bhpσ_6, chpσ_6⟩ := hpσ_6
        rw [ahpσ_6] at hI
        replace hF := q_letX hF chpσ_6
        have ir_5 : r_5.toInt = (m_c X σ a (34 + 10 * v1.toInt + x_2.toInt)) := (by first | exact bhpσ_6 | (rw [bhpσ_6]) | (simp only [bhpσ_6]))
        have hbr_5 := hG.h80 (p := v1.toInt) (k := x_2.toInt) (by first | (clear h0 hh hm4 hge4 hs4 sb ps gc_4_x_2 c_4 ahpσ_6 bhpσ_6 chpσ_6 ir_5; omega) | omega) (by first | (clear h0 hh hm4 hge4 hs4 sb ps gc_4_x_2 c_4 ahpσ_6 bhpσ_6 chpσ_6 ir_5; omega) | omega) (by first | (clear h0 hh hm4 hs4 sb ps gc_4_x_2 ahpσ_6 bhpσ_6 chpσ_6 ir_5; omega) | omega) (by omega)
        refine lv_iadd hx hb dX12_cardsOf_17 ?_
        refine lv_topi (fun z_7 ez_7 => ?_)
        replace hF := q_letX hF ez_7
        have iz_7 := q_addI (A := x_1.toInt) (B := (m_c X σ a (34 + 10 * v1.toInt + x_2.toInt))) ez_7 rfl ir_5 (by first | (clear h0 hh hm4 hge4 gc_4_x_2 c_4 ahpσ_6 chpσ_6 ir_5; omega) | omega) (by first | (clear h0 hh hm4 hge4 gc_4_x_2 c_4 ahpσ_6 chpσ_6 ir_5; omega) | omega)
        refine lv_istore_n (lv' := [(2, .int z_7), (0, .ref a), (1, .int v1), (3, .int x_2)]) hx hb dX12_cardsOf_18 rfl hl (by decide) rfl (fun ls hl => ?_)
        obtain ⟨z_8, ez_8⟩ : ∃ y : Int32, y = x_2 + 1 := ⟨_, rfl⟩
        replace hF := q_letX hF ez_8
        refine lv_iinc (v := z_8) (lv' := [(3, .int z_8), (2, .int z_7), (0, .ref a), (1, .int v1)]) hx hb dX12_cardsOf_19 hl (k := 3) rfl (by rw [ez_8]; rfl) (by decide) rfl (fun ls hl => ?_)
        have iz_8 : z_8.toInt = x_2.toInt + 1 := q_inc ez_8 (by first | (clear h0 hh hm4 hs4 sb ps gc_4_x_2 ahpσ_6 bhpσ_6 chpσ_6 ir_5 hbr_5 iz_7; omega) | omega)
        have pz := ps
        rw [← iz_8] at pz
        refine lv_goto (tgt := 4) hx hb dX12_cardsOf_22 (by decide) ?_
        exact ih4 z_7 z_8 _ _ ls (by first | (clear h0 hh hs4 sb ps gc_4_x_2 ahpσ_6 bhpσ_6 chpσ_6 ir_5 hbr_5 iz_7 pz; omega) | omega) (by first | (clear h0 hh hm4 hs4 sb ps gc_4_x_2 ahpσ_6 bhpσ_6 chpσ_6 ir_5 hbr_5 iz_7 pz; omega) | omega) (by first | (clear h0 hh hm4 hge4 sb gc_4_x_2 c_4 ahpσ_6 bhpσ_6 chpσ_6 ir_5 hbr_5 iz_8; omega) | omega) hF hI (lv_sub hl [2, 3, 1, 0] rfl)
  have kc_9 : (0 : Int32).toInt = 0 := rfl
  exact L_4_3 ((2147483647 - (0 : Int32).toInt).toNat + 1) 0 0 _ _ ls (Nat.lt_succ_self _) (by decide) rfl hF hI (lv_sub hl [2, 3, 1, 0] rfl)

set_option maxRecDepth 100000 in
set_option maxHeartbeats 4000000 in
theorem c_X12_heapMany (l : Launch) (X : XW) (σ : ST) (a : Nat) (ha : q_kd X a = 12) (hG : m_G (m_c X σ a)) : Met l yX12_heapMany (q_ws yX12_heapMany cX12_heapMany 3 (some .int)) (q_rm 1 20) (q_P X σ [.ref a]) (q_Qi X 9 σ (fun (r : Int32) (σ' : ST) => σ' = σ ∧ (r.toInt = m_L (m_c X σ a) (m_c X σ a 9).toNat) ∧ (0 ≤ r.toInt ∧ r.toInt ≤ 80) ∧ r = F_X12_heapMany X σ a)) 0 0 (q_reg X) := by
  refine q_met 9 (by first | exact rfl | decide +kernel) rfl (Nat.le_of_ble_eq_true rfl) (fun p e s m below meth c E hml hr hlk hI ls hl => ?_)
  have hx := E.1
  have hb := E.2.1
  have hl : lv_has ls 3 [(0, .ref a)] := hl
  have hh := hG.hd
  obtain ⟨out, hout⟩ : ∃ o, o = F_X12_heapMany X σ a := ⟨_, rfl⟩
  have hF := hout.symm
  unfold F_X12_heapMany at hF
  refine lv_iconst (v := 0) hx hb dX12_heapMany_0 (by decide) ?_
  refine lv_istore_n (lv' := [(1, .int 0), (0, .ref a)]) hx hb dX12_heapMany_1 rfl hl (by decide) rfl (fun ls hl => ?_)
  refine lv_iconst (v := 0) hx hb dX12_heapMany_2 (by decide) ?_
  refine lv_istore_n (lv' := [(2, .int 0), (1, .int 0), (0, .ref a)]) hx hb dX12_heapMany_3 rfl hl (by decide) rfl (fun ls hl => ?_)
  have L_4_3 : ∀ (k_3 : Nat) (x_1 : Int32) (x_2 : Int32) (H : Heap) (locs : List Loc) (ls : Array Slot), (2147483647 - x_2.toInt).toNat < k_3 → (0 ≤ x_2.toInt ∧ x_2.toInt ≤ m_c X σ a 9) → (x_1.toInt = m_L (m_c X σ a) x_2.toInt.toNat) → (F_X12_heapMany_L4_1 X σ a k_3 x_1 x_2 = out) → q_I X 9 σ s.heap locs σ H → lv_has ls 3 [(0, .ref a), (1, .int x_1), (2, .int x_2)] → W p l e (q_rm 1 20) s m ([.ref a] : List Value).toArray below meth c H locs 0 0 (MQ below (q_Qi X 9 σ (fun (r : Int32) (σ' : ST) => σ' = σ ∧ (r.toInt = m_L (m_c X σ a) (m_c X σ a 9).toNat) ∧ (0 ≤ r.toInt ∧ r.toInt ≤ 80) ∧ r = F_X12_heapMany X σ a)) ([.ref a] : List Value).toArray s 0 0 (q_reg X)) (F0 m 4 ls []) := by
    clear hF
    intro k_3
    induction k_3 with
    | zero =>
      intro x_1 x_2 H locs ls hms
      exact absurd hms (Nat.not_lt_zero _)
    | succ k_3 ih4 =>
      intro x_1 x_2 H locs ls hm4 hge4 hs4 hF hI hl
      replace hF := (F_X12_heapMany_L4_1_s).symm.trans hF
      unfold F_X12_heapMany_B4_1 at hF
      have sb := hG.L80 (k := x_2.toInt) (by first | (clear hh hm4 hs4; omega) | omega) (by first | (clear hh hm4 hs4; omega) | omega)
      have ps := m_L_succ (m_c X σ a) x_2.toInt hge4.1
      refine lv_iload_n hx hb dX12_heapMany_4 rfl (lv_at hl 2 rfl) ?_
      refine lv_aload_n hx hb dX12_heapMany_5 rfl (lv_at hl 0 rfl) ?_
      refine gs_X12_35_12 E hI ha dX12_heapMany_6 ?_
      refine lv_bipush (v := 9) hx hb dX12_heapMany_9 (by decide) ?_
      refine q_iald E hI (q_tk (k' := 34) hI ha rfl (by decide)) ⟨by decide, rfl⟩ (by decide) (by rw [q_lnk (v := 4650) hI (q_tk (k' := 34) hI ha rfl (by decide)) rfl (by decide)]; decide) dX12_heapMany_11 ?_
      refine lv_topi (fun f_4 ef_4 => ?_)
      replace hF := q_letX hF ef_4
      have if_4 : f_4.toInt = m_c X σ a 9 := m_rd ef_4 (by decide)
      have gc_5_x_2 := q_rng x_2
      have gc_5_f_4 := q_rng f_4
      refine q_icmp_ge (A := x_2.toInt) (B := f_4.toInt) E rfl rfl (tgt := 35) dX12_heapMany_12 (by decide) (fun c_5 => ?_) (fun c_5 => ?_)
      · skip
        replace hF := q_ifn hF (Int.not_lt.mpr c_5)
        skip
        refine lv_iload_n hx hb dX12_heapMany_35 rfl (lv_at hl 1 rfl) ?_
        exact q_reti E hr hlk hI ⟨rfl, (by have q : x_2.toInt = m_c X σ a 9 := (by first | (clear hh hm4 hs4 sb ps gc_5_x_2 gc_5_f_4; omega) | omega); rw [q] at hs4; exact hs4), (by first | (clear hh hm4 hge4 if_4 gc_5_x_2 gc_5_f_4 c_5; omega) | omega), (hF.trans hout)⟩ dX12_heapMany_36
      · skip
        replace hF := q_ifp hF c_5
        refine lv_iload_n hx hb dX12_heapMany_15 rfl (lv_at hl 1 rfl) ?_
        refine lv_aload_n hx hb dX12_heapMany_16 rfl (lv_at hl 0 rfl) ?_
        refine gs_X12_35_12 E hI ha dX12_heapMany_17 ?_
        refine lv_iload_n hx hb dX12_heapMany_20 rfl (lv_at hl 2 rfl) ?_
        refine q_ci (q_runS (As := [.int x_2]) (rest := [.ref (q_rf X a 20), .int x_1]) E (hml.trans hl.1.symm) hI (c_X12_laid l X σ x_2 (by first | (clear hm4 hs4 sb ps gc_5_f_4; omega) | omega)) ks_X12_279 rfl ⟨Nat.le_of_ble_eq_true rfl, Nat.le_of_ble_eq_true rfl⟩ ⟨Nat.le_refl _, Nat.le_refl _⟩ rfl (Nat.le_of_ble_eq_true rfl) dX12_heapMany_21) hI (by decide) (fun r_6 σ_7 H locs hpσ_7 hkσ_7 hI => ?_)
        obtain ⟨ahpσ_7, bhpσ_7, chpσ_7⟩ := hpσ_7
        rw [ahpσ_7] at hI
        replace hF := q_letX hF chpσ_7
        have ir_6 : r_6.toInt = (94 + 7 * x_2.toInt) := (by omega)
        refine lv_iconst (v := 2) hx hb dX12_heapMany_24 (by decide) ?_
        refine lv_iadd hx hb dX12_heapMany_25 ?_
        refine lv_topi (fun z_8 ez_8 => ?_)
        replace hF := q_letX hF ez_8
        have iz_8 := q_addI (A := (94 + 7 * x_2.toInt)) (B := 2) ez_8 ir_6 (by decide) (by first | (clear hh hm4 hs4 sb ps if_4 gc_5_f_4 c_5 ahpσ_7 bhpσ_7 chpσ_7 ir_6; omega) | omega) (by first | (clear hm4 hs4 sb ps gc_5_f_4 ahpσ_7 bhpσ_7 chpσ_7 ir_6; omega) | omega)
        refine q_iald E hI (q_tk (k' := 34) hI ha rfl (by decide)) ⟨by decide, rfl⟩ (by first | (clear hh hm4 hs4 sb ps if_4 gc_5_f_4 c_5 ahpσ_7 bhpσ_7 chpσ_7 ir_6; omega) | omega) (by rw [q_lnk (v := 4650) hI (q_tk (k' := 34) hI ha rfl (by decide)) rfl (by decide)]; omega) dX12_heapMany_26 ?_
        refine lv_topi (fun f_9 ef_9 => ?_)
        replace hF := q_letX hF ef_9
        have if_9 : f_9.toInt = m_c X σ a ((94 + 7 * x_2.toInt) + 2) := m_rd ef_9 iz_8
        have hbf_9 := (hG.2.2.1 x_2.toInt (by first | (clear hh hm4 hs4 sb ps if_4 gc_5_f_4 c_5 ahpσ_7 bhpσ_7 chpσ_7 ir_6 iz_8 if_9; omega) | omega) (by first | (clear hh hm4 hge4 hs4 sb ps gc_5_x_2 gc_5_f_4 ahpσ_7 bhpσ_7 chpσ_7 ir_6 iz_8 if_9; omega) | omega)).1
        refine lv_iadd hx hb dX12_heapMany_27 ?_
        refine lv_topi (fun z_10 ez_10 => ?_)
        replace hF := q_letX hF ez_10
        have iz_10 := q_addI (A := x_1.toInt) (B := (m_c X σ a ((94 + 7 * x_2.toInt) + 2))) ez_10 rfl if_9 (by first | (clear hh hm4 hge4 if_4 gc_5_x_2 gc_5_f_4 c_5 ahpσ_7 bhpσ_7 chpσ_7 ir_6 iz_8; omega) | omega) (by first | (clear hh hm4 hge4 if_4 gc_5_x_2 gc_5_f_4 c_5 ahpσ_7 bhpσ_7 chpσ_7 ir_6 iz_8; omega) | omega)
        refine lv_istore_n (lv' := [(1, .int z_10), (0, .ref a), (2, .int x_2)]) hx hb dX12_heapMany_28 rfl hl (by decide) rfl (fun ls hl => ?_)
        obtain ⟨z_11, ez_11⟩ : ∃ y : Int32, y = x_2 + 1 := ⟨_, rfl⟩
        replace hF := q_letX hF ez_11
        refine lv_iinc (v := z_11) (lv' := [(2, .int z_11), (1, .int z_10), (0, .ref a)]) hx hb dX12_heapMany_29 hl (k := 2) rfl (by rw [ez_11]; rfl) (by decide) rfl (fun ls hl => ?_)
        have iz_11 : z_11.toInt = x_2.toInt + 1 := q_inc ez_11 (by first | (clear hm4 hs4 sb ps gc_5_f_4 ahpσ_7 bhpσ_7 chpσ_7 ir_6 iz_8 if_9 hbf_9 iz_10; omega) | omega)
        have pz := ps
        rw [← iz_11] at pz
        refine lv_goto (tgt := 4) hx hb dX12_heapMany_32 (by decide) ?_
        exact ih4 z_10 z_11 _ _ ls (by first | (clear hs4 sb ps gc_5_f_4 ahpσ_7 bhpσ_7 chpσ_7 ir_6 iz_8 if_9 hbf_9 iz_10 pz; omega) | omega) (by first | (clear hh hm4 hs4 sb ps gc_5_f_4 ahpσ_7 bhpσ_7 chpσ_7 ir_6 iz_8 if_9 hbf_9 iz_10 pz; omega) | omega) (by first | (clear hh hm4 hge4 sb if_4 gc_5_x_2 gc_5_f_4 c_5 ahpσ_7 bhpσ_7 chpσ_7 ir_6 iz_8 if_9 hbf_9 iz_11; omega) | omega) hF hI (lv_sub hl [2, 1, 0] rfl)
  have kc_12 : (0 : Int32).toInt = 0 := rfl
  exact L_4_3 ((2147483647 - (0 : Int32).toInt).toNat + 1) 0 0 _ _ ls (Nat.lt_succ_self _) (by have q : (0 : Int32).toInt = 0 := rfl; omega) rfl hF hI (lv_sub hl [2, 1, 0] rfl)

set_option maxRecDepth 100000 in
set_option maxHeartbeats 4000000 in
theorem c_X12_laidOf (l : Launch) (X : XW) (σ : ST) (a : Nat) (v1 : Int32) (v2 : Int32) (ha : q_kd X a = 12) (hG : m_G (m_c X σ a)) : Met l yX12_laidOf (q_ws yX12_laidOf cX12_laidOf 7 (some .int)) (q_rm 1 20) (q_P X σ [.ref a, .int v1, .int v2]) (q_Qi X 9 σ (fun (r : Int32) (σ' : ST) => σ' = σ ∧ (r.toInt = m_A (m_c X σ a) v1.toInt v2.toInt (m_c X σ a 9).toNat) ∧ (0 ≤ r.toInt ∧ r.toInt ≤ 80) ∧ r = F_X12_laidOf X σ a v1 v2)) 0 0 (q_reg X) := by
  refine q_met 9 (by first | exact rfl | decide +kernel) rfl (Nat.le_of_ble_eq_true rfl) (fun p e s m below meth c E hml hr hlk hI ls hl => ?_)
  have hx := E.1
  have hb := E.2.1
  have hl : lv_has ls 7 [(0, .ref a), (1, .int v1), (2, .int v2)] := hl
  have hh := hG.hd
  obtain ⟨out, hout⟩ : ∃ o, o = F_X12_laidOf X σ a v1 v2 := ⟨_, rfl⟩
  have hF := hout.symm
  unfold F_X12_laidOf at hF
  refine lv_iconst (v := 0) hx hb dX12_laidOf_0 (by decide) ?_
  refine lv_istore_n (lv' := [(3, .int 0), (0, .ref a), (1, .int v1), (2, .int v2)]) hx hb dX12_laidOf_1 rfl hl (by decide) rfl (fun ls hl => ?_)
  refine lv_iconst (v := 0) hx hb dX12_laidOf_2 (by decide) ?_
  refine lv_istore (lv' := [(4, .int 0), (3, .int 0), (0, .ref a), (1, .int v1), (2, .int v2)]) hx hb dX12_laidOf_3 hl (by decide) rfl (fun ls hl => ?_)
  have L_5_3 : ∀ (k_3 : Nat) (x_1 : Int32) (x_2 : Int32) (H : Heap) (locs : List Loc) (ls : Array Slot), (2147483647 - x_2.toInt).toNat < k_3 → (0 ≤ x_2.toInt ∧ x_2.toInt ≤ m_c X σ a 9) → (x_1.toInt = m_A (m_c X σ a) v1.toInt v2.toInt x_2.toInt.toNat) → (F_X12_laidOf_L5_1 X σ a v1 v2 k_3 x_1 x_2 = out) → q_I X 9 σ s.heap locs σ H → lv_has ls 7 [(0, .ref a), (1, .int v1), (2, .int v2), (3, .int x_1), (4, .int x_2)] → W p l e (q_rm 1 20) s m ([.ref a, .int v1, .int v2] : List Value).toArray below meth c H locs 0 0 (MQ below (q_Qi X 9 σ (fun (r : Int32) (σ' : ST) => σ' = σ ∧ (r.toInt = m_A (m_c X σ a) v1.toInt v2.toInt (m_c X σ a 9).toNat) ∧ (0 ≤ r.toInt ∧ r.toInt ≤ 80) ∧ r = F_X12_laidOf X σ a v1 v2)) ([.ref a, .int v1, .int v2] : List Value).toArray s 0 0 (q_reg X)) (F0 m 5 ls []) := by
    clear hF
    intro k_3
    induction k_3 with
    | zero =>
      intro x_1 x_2 H locs ls hms
      exact absurd hms (Nat.not_lt_zero _)
    | succ k_3 ih5 =>
      intro x_1 x_2 H locs ls hm5 hge5 hs5 hF hI hl
      replace hF := (F_X12_laidOf_L5_1_s).symm.trans hF
      unfold F_X12_laidOf_B5_1 at hF
      have sb := hG.A_bd v1.toInt v2.toInt x_2.toInt.toNat (by first | (clear hm5 hs5; omega) | omega)
      have sl := hG.L80 (k := x_2.toInt) (by first | (clear hh hm5 hs5 sb; omega) | omega) (by first | (clear hh hm5 hs5 sb; omega) | omega)
      have ps := m_A_succ (m_c X σ a) v1.toInt v2.toInt x_2.toInt hge5.1
      refine lv_iload hx hb dX12_laidOf_5 (lv_at hl 4 rfl) ?_
      refine lv_aload_n hx hb dX12_laidOf_7 rfl (lv_at hl 0 rfl) ?_
      refine gs_X12_35_12 E hI ha dX12_laidOf_8 ?_
      refine lv_bipush (v := 9) hx hb dX12_laidOf_11 (by decide) ?_
      refine q_iald E hI (q_tk (k' := 34) hI ha rfl (by decide)) ⟨by decide, rfl⟩ (by decide) (by rw [q_lnk (v := 4650) hI (q_tk (k' := 34) hI ha rfl (by decide)) rfl (by decide)]; decide) dX12_laidOf_13 ?_
      refine lv_topi (fun f_4 ef_4 => ?_)
      replace hF := q_letX hF ef_4
      have if_4 : f_4.toInt = m_c X σ a 9 := m_rd ef_4 (by decide)
      have gc_5_x_2 := q_rng x_2
      have gc_5_f_4 := q_rng f_4
      refine q_icmp_ge (A := x_2.toInt) (B := f_4.toInt) E rfl rfl (tgt := 99) dX12_laidOf_14 (by decide) (fun c_5 => ?_) (fun c_5 => ?_)
      · skip
        replace hF := q_ifn hF (Int.not_lt.mpr c_5)
        skip
        refine lv_iload_n hx hb dX12_laidOf_99 rfl (lv_at hl 3 rfl) ?_
        exact q_reti E hr hlk hI ⟨rfl, (by have q : x_2.toInt = m_c X σ a 9 := (by first | (clear hh hm5 hs5 sb sl ps gc_5_x_2 gc_5_f_4; omega) | omega); rw [q] at hs5; exact hs5), (by first | (clear hh hm5 hge5 if_4 gc_5_x_2 gc_5_f_4 c_5; omega) | omega), (hF.trans hout)⟩ dX12_laidOf_100
      · skip
        replace hF := q_ifp hF c_5
        refine lv_iload hx hb dX12_laidOf_17 (lv_at hl 4 rfl) ?_
        refine q_ci (q_runS (As := [.int x_2]) (rest := []) E (hml.trans hl.1.symm) hI (c_X12_laid l X σ x_2 (by first | (clear hm5 hs5 sb sl ps gc_5_f_4; omega) | omega)) ks_X12_279 rfl ⟨Nat.le_of_ble_eq_true rfl, Nat.le_of_ble_eq_true rfl⟩ ⟨Nat.le_refl _, Nat.le_refl _⟩ rfl (Nat.le_of_ble_eq_true rfl) dX12_laidOf_19) hI (by decide) (fun r_6 σ_7 H locs hpσ_7 hkσ_7 hI => ?_)
        obtain ⟨ahpσ_7, bhpσ_7, chpσ_7⟩ := hpσ_7
        rw [ahpσ_7] at hI
        replace hF := q_letX hF chpσ_7
        have ir_6 : r_6.toInt = (94 + 7 * x_2.toInt) := (by omega)
        refine lv_istore (lv' := [(5, .int r_6), (0, .ref a), (1, .int v1), (2, .int v2), (3, .int x_1), (4, .int x_2)]) hx hb dX12_laidOf_22 hl (by decide) rfl (fun ls hl => ?_)
        refine lv_iload_n hx hb dX12_laidOf_24 rfl (lv_at hl 2 rfl) ?_
        have J_42_7 : ∀  (H : Heap) (locs : List Loc) (ls : Array Slot), (¬ (0 ≤ v1.toInt ∧ m_c X σ a (94 + 7 * x_2.toInt) ≠ v1.toInt)) → (F_X12_laidOf_J42_3 X r_6 σ a v2 x_2 (F_X12_laidOf_L5_1 X σ a v1 v2 k_3) x_1 = out) → q_I X 9 σ s.heap locs σ H → lv_has ls 7 [(0, .ref a), (1, .int v1), (2, .int v2), (3, .int x_1), (4, .int x_2), (5, .int r_6)] → W p l e (q_rm 1 20) s m ([.ref a, .int v1, .int v2] : List Value).toArray below meth c H locs 0 0 (MQ below (q_Qi X 9 σ (fun (r : Int32) (σ' : ST) => σ' = σ ∧ (r.toInt = m_A (m_c X σ a) v1.toInt v2.toInt (m_c X σ a 9).toNat) ∧ (0 ≤ r.toInt ∧ r.toInt ≤ 80) ∧ r = F_X12_laidOf X σ a v1 v2)) ([.ref a, .int v1, .int v2] : List Value).toArray s 0 0 (q_reg X)) (F0 m 42 ls []) := by
          clear hF
          intro  H locs ls j42 hF hI hl
          unfold F_X12_laidOf_J42_3 at hF
          rw [if_neg j42] at ps
          have hy := hG.2.2.1 x_2.toInt (by first | (clear hh hm5 hs5 sb sl ps if_4 gc_5_f_4 c_5 ahpσ_7 bhpσ_7 chpσ_7 ir_6 j42; omega) | omega) (by first | (clear hh hm5 hge5 hs5 sb sl ps gc_5_x_2 gc_5_f_4 ahpσ_7 bhpσ_7 chpσ_7 ir_6 j42; omega) | omega)
          have hy1 := hy.1
          refine lv_iconst (v := 0) hx hb dX12_laidOf_42 (by decide) ?_
          refine lv_istore (lv' := [(6, .int 0), (0, .ref a), (1, .int v1), (2, .int v2), (3, .int x_1), (4, .int x_2), (5, .int r_6)]) hx hb dX12_laidOf_43 hl (by decide) rfl (fun ls hl => ?_)
          have L_45_10 : ∀ (k_10 : Nat) (x_8 : Int32) (x_9 : Int32) (H : Heap) (locs : List Loc) (ls : Array Slot), (2147483647 - x_9.toInt).toNat < k_10 → (0 ≤ x_9.toInt ∧ x_9.toInt ≤ m_c X σ a (94 + 7 * x_2.toInt + 2)) → (x_8.toInt = m_A (m_c X σ a) v1.toInt v2.toInt x_2.toInt.toNat + m_K (m_c X σ a) (94 + 7 * x_2.toInt) v2.toInt x_9.toInt.toNat) → (F_X12_laidOf_L45_4 X r_6 σ a v2 x_2 (F_X12_laidOf_L5_1 X σ a v1 v2 k_3) k_10 x_8 x_9 = out) → q_I X 9 σ s.heap locs σ H → lv_has ls 7 [(0, .ref a), (1, .int v1), (2, .int v2), (3, .int x_8), (4, .int x_2), (5, .int r_6), (6, .int x_9)] → W p l e (q_rm 1 20) s m ([.ref a, .int v1, .int v2] : List Value).toArray below meth c H locs 0 0 (MQ below (q_Qi X 9 σ (fun (r : Int32) (σ' : ST) => σ' = σ ∧ (r.toInt = m_A (m_c X σ a) v1.toInt v2.toInt (m_c X σ a 9).toNat) ∧ (0 ≤ r.toInt ∧ r.toInt ≤ 80) ∧ r = F_X12_laidOf X σ a v1 v2)) ([.ref a, .int v1, .int v2] : List Value).toArray s 0 0 (q_reg X)) (F0 m 45 ls []) := by
            clear hF
            intro k_10
            induction k_10 with
            | zero =>
              intro x_8 x_9 H locs ls hms
              exact absurd hms (Nat.not_lt_zero _)
            | succ k_10 ih45 =>
              intro x_8 x_9 H locs ls hm45 hge45 hs45 hF hI hl
              replace hF := (F_X12_laidOf_L45_4_s).symm.trans hF
              unfold F_X12_laidOf_B45_4 at hF
              have kb := m_K_bd (m_c X σ a) (94 + 7 * x_2.toInt) v2.toInt x_9.toInt.toNat
              have ps2 := m_K_succ (m_c X σ a) (94 + 7 * x_2.toInt) v2.toInt x_9.toInt hge45.1
              refine lv_iload hx hb dX12_laidOf_45 (lv_at hl 6 rfl) ?_
              refine lv_aload_n hx hb dX12_laidOf_47 rfl (lv_at hl 0 rfl) ?_
              refine gs_X12_35_12 E hI ha dX12_laidOf_48 ?_
              refine lv_iload hx hb dX12_laidOf_51 (lv_at hl 5 rfl) ?_
              refine lv_iconst (v := 2) hx hb dX12_laidOf_53 (by decide) ?_
              refine lv_iadd hx hb dX12_laidOf_54 ?_
              refine lv_topi (fun z_11 ez_11 => ?_)
              replace hF := q_letX hF ez_11
              have iz_11 := q_addI (A := (94 + 7 * x_2.toInt)) (B := 2) ez_11 ir_6 (by decide) (by first | (clear hh hm5 hs5 sb sl ps if_4 gc_5_f_4 c_5 ahpσ_7 bhpσ_7 chpσ_7 ir_6 j42 hy hy1 hm45 hge45 hs45 kb ps2; omega) | omega) (by first | (clear hm5 hs5 sb sl ps gc_5_f_4 ahpσ_7 bhpσ_7 chpσ_7 ir_6 j42 hy hy1 hm45 hge45 hs45 kb ps2; omega) | omega)
              refine q_iald E hI (q_tk (k' := 34) hI ha rfl (by decide)) ⟨by decide, rfl⟩ (by first | (clear hh hm5 hs5 sb sl ps if_4 gc_5_f_4 c_5 ahpσ_7 bhpσ_7 chpσ_7 ir_6 j42 hy hy1 hm45 hge45 hs45 kb ps2; omega) | omega) (by rw [q_lnk (v := 4650) hI (q_tk (k' := 34) hI ha rfl (by decide)) rfl (by decide)]; omega) dX12_laidOf_55 ?_
              refine lv_topi (fun f_12 ef_12 => ?_)
              replace hF := q_letX hF ef_12
              have if_12 : f_12.toInt = m_c X σ a ((94 + 7 * x_2.toInt) + 2) := m_rd ef_12 iz_11
              have gc_13_x_9 := q_rng x_9
              have gc_13_f_12 := q_rng f_12
              refine q_icmp_ge (A := x_9.toInt) (B := f_12.toInt) E rfl rfl (tgt := 93) dX12_laidOf_56 (by decide) (fun c_13 => ?_) (fun c_13 => ?_)
              · skip
                replace hF := q_ifn hF (Int.not_lt.mpr c_13)
                have q6 : x_9.toInt = m_c X σ a (94 + 7 * x_2.toInt + 2) := (by first | (clear hh hm5 hge5 hs5 sb sl ps if_4 gc_5_x_2 gc_5_f_4 c_5 ahpσ_7 bhpσ_7 chpσ_7 ir_6 j42 hy hy1 hm45 hs45 kb ps2 iz_11 gc_13_x_9 gc_13_f_12; omega) | omega)
                rw [q6] at hs45
                unfold F_X12_laidOf_E93_5 at hF
                obtain ⟨z_14, ez_14⟩ : ∃ y : Int32, y = x_2 + 1 := ⟨_, rfl⟩
                replace hF := q_letX hF ez_14
                refine lv_iinc (v := z_14) (lv' := [(4, .int z_14), (0, .ref a), (1, .int v1), (2, .int v2), (3, .int x_8), (5, .int r_6), (6, .int x_9)]) hx hb dX12_laidOf_93 hl (k := 4) rfl (by rw [ez_14]; rfl) (by decide) rfl (fun ls hl => ?_)
                have iz_14 : z_14.toInt = x_2.toInt + 1 := q_inc ez_14 (by first | (clear hm5 hs5 sb sl ps gc_5_f_4 ahpσ_7 bhpσ_7 chpσ_7 ir_6 j42 hy hy1 hm45 hge45 hs45 kb ps2 iz_11 if_12 gc_13_x_9 gc_13_f_12 c_13; omega) | omega)
                have pz := ps
                rw [← iz_14] at pz
                refine lv_goto (tgt := 5) hx hb dX12_laidOf_96 (by decide) ?_
                exact ih5 x_8 z_14 _ _ ls (by first | (clear hs5 sb sl ps gc_5_f_4 ahpσ_7 bhpσ_7 chpσ_7 ir_6 hy1 hm45 hs45 kb ps2 iz_11 gc_13_x_9 gc_13_f_12 pz; omega) | omega) (by first | (clear hh hm5 hs5 sb sl ps gc_5_f_4 ahpσ_7 bhpσ_7 chpσ_7 ir_6 j42 hy hy1 hm45 hge45 hs45 kb ps2 iz_11 if_12 gc_13_x_9 gc_13_f_12 c_13 pz; omega) | omega) (by first | (clear hh hm5 hge5 hs5 sb sl if_4 gc_5_x_2 gc_5_f_4 c_5 ahpσ_7 bhpσ_7 chpσ_7 ir_6 j42 hy hy1 hm45 hge45 kb ps2 iz_11 if_12 gc_13_x_9 gc_13_f_12 c_13 iz_14; omega) | omega) hF hI (lv_sub hl [1, 2, 3, 4, 0] rfl)
              · skip
                replace hF := q_ifp hF c_13
                refine lv_iload_n hx hb dX12_laidOf_59 rfl (lv_at hl 3 rfl) ?_
                refine lv_iload_n hx hb dX12_laidOf_60 rfl (lv_at hl 2 rfl) ?_
                refine q_if_lt (A := v2.toInt) E rfl (tgt := 80) dX12_laidOf_61 (by decide) (fun c_15 => ?_) (fun c_15 => ?_)
                · skip
                  replace hF := q_ifp hF c_15
                  rw [if_pos (by first | (clear hh hm5 hge5 hs5 sb sl ps if_4 gc_5_x_2 gc_5_f_4 c_5 ahpσ_7 bhpσ_7 chpσ_7 ir_6 j42 hy hy1 hm45 hge45 hs45 kb ps2 iz_11 if_12 gc_13_x_9 gc_13_f_12 c_13; omega) | omega)] at ps2
                  refine lv_iconst (v := 1) hx hb dX12_laidOf_80 (by decide) ?_
                  refine lv_goto (tgt := 85) hx hb dX12_laidOf_81 (by decide) ?_
                  refine lv_iadd hx hb dX12_laidOf_85 ?_
                  refine lv_topi (fun z_16 ez_16 => ?_)
                  replace hF := q_letX hF ez_16
                  have iz_16 := q_addI (A := x_8.toInt) (B := 1) ez_16 rfl (by decide) (by first | (clear hh hm5 hge5 hs5 if_4 gc_5_x_2 gc_5_f_4 c_5 ahpσ_7 bhpσ_7 chpσ_7 ir_6 j42 hy hy1 hm45 hge45 iz_11 if_12 gc_13_x_9 gc_13_f_12 c_13 c_15; omega) | omega) (by first | (clear hh hm5 hge5 hs5 if_4 gc_5_x_2 gc_5_f_4 c_5 ahpσ_7 bhpσ_7 chpσ_7 ir_6 j42 hy1 hm45 hge45 iz_11 gc_13_x_9 gc_13_f_12 c_15; omega) | omega)
                  refine lv_istore_n (lv' := [(3, .int z_16), (0, .ref a), (1, .int v1), (2, .int v2), (4, .int x_2), (5, .int r_6), (6, .int x_9)]) hx hb dX12_laidOf_86 rfl hl (by decide) rfl (fun ls hl => ?_)
                  obtain ⟨z_17, ez_17⟩ : ∃ y : Int32, y = x_9 + 1 := ⟨_, rfl⟩
                  replace hF := q_letX hF ez_17
                  refine lv_iinc (v := z_17) (lv' := [(6, .int z_17), (3, .int z_16), (0, .ref a), (1, .int v1), (2, .int v2), (4, .int x_2), (5, .int r_6)]) hx hb dX12_laidOf_87 hl (k := 6) rfl (by rw [ez_17]; rfl) (by decide) rfl (fun ls hl => ?_)
                  have iz_17 : z_17.toInt = x_9.toInt + 1 := q_inc ez_17 (by first | (clear hh hm5 hge5 hs5 sb sl ps if_4 gc_5_x_2 gc_5_f_4 c_5 ahpσ_7 bhpσ_7 chpσ_7 ir_6 j42 hy1 hm45 hs45 kb ps2 iz_11 gc_13_f_12 c_15 iz_16; omega) | omega)
                  have pz2 := ps2
                  rw [← iz_17] at pz2
                  refine lv_goto (tgt := 45) hx hb dX12_laidOf_90 (by decide) ?_
                  exact ih45 z_16 z_17 _ _ ls (by first | (clear hh hm5 hge5 hs5 sb sl ps if_4 gc_5_x_2 gc_5_f_4 c_5 ahpσ_7 bhpσ_7 chpσ_7 ir_6 j42 hy1 hs45 kb ps2 iz_11 gc_13_f_12 c_15 iz_16 pz2; omega) | omega) (by first | (clear hh hm5 hge5 hs5 sb sl ps if_4 gc_5_x_2 gc_5_f_4 c_5 ahpσ_7 bhpσ_7 chpσ_7 ir_6 j42 hy hy1 hm45 hs45 kb ps2 iz_11 gc_13_f_12 c_15 iz_16 pz2; omega) | omega) (by first | (clear hh hm5 hge5 hs5 sb sl if_4 gc_5_x_2 gc_5_f_4 c_5 ahpσ_7 bhpσ_7 chpσ_7 ir_6 j42 hy hy1 hm45 hge45 kb iz_11 if_12 gc_13_x_9 gc_13_f_12 c_13 c_15 iz_17; omega) | omega) hF hI (lv_sub hl [2, 3, 4, 1, 5, 6, 0] rfl)
                · skip
                  replace hF := q_ifn hF (Int.not_lt.mpr c_15)
                  refine lv_aload_n hx hb dX12_laidOf_64 rfl (lv_at hl 0 rfl) ?_
                  refine gs_X12_35_12 E hI ha dX12_laidOf_65 ?_
                  refine lv_iload hx hb dX12_laidOf_68 (lv_at hl 5 rfl) ?_
                  refine lv_iconst (v := 3) hx hb dX12_laidOf_70 (by decide) ?_
                  refine lv_iadd hx hb dX12_laidOf_71 ?_
                  refine lv_topi (fun z_18 ez_18 => ?_)
                  replace hF := q_letX hF ez_18
                  have iz_18 := q_addI (A := (94 + 7 * x_2.toInt)) (B := 3) ez_18 ir_6 (by decide) (by first | (clear hh hm5 hs5 sb sl ps if_4 gc_5_f_4 c_5 ahpσ_7 bhpσ_7 chpσ_7 ir_6 j42 hy hy1 hm45 hge45 hs45 kb ps2 iz_11 if_12 gc_13_x_9 gc_13_f_12 c_13 c_15; omega) | omega) (by first | (clear hm5 hs5 sb sl ps gc_5_f_4 ahpσ_7 bhpσ_7 chpσ_7 ir_6 j42 hy hy1 hm45 hge45 hs45 kb ps2 iz_11 if_12 gc_13_x_9 gc_13_f_12 c_13 c_15; omega) | omega)
                  refine lv_iload hx hb dX12_laidOf_72 (lv_at hl 6 rfl) ?_
                  refine lv_iadd hx hb dX12_laidOf_74 ?_
                  refine lv_topi (fun z_19 ez_19 => ?_)
                  replace hF := q_letX hF ez_19
                  have iz_19 := q_addI (A := ((94 + 7 * x_2.toInt) + 3)) (B := x_9.toInt) ez_19 iz_18 rfl (by first | (clear hh hm5 hs5 sb sl ps if_4 gc_5_f_4 c_5 ahpσ_7 bhpσ_7 chpσ_7 ir_6 j42 hy hy1 hm45 hs45 kb ps2 iz_11 if_12 gc_13_f_12 c_13 c_15 iz_18; omega) | omega) (by first | (clear hm5 hge5 hs5 sb sl ps gc_5_x_2 gc_5_f_4 ahpσ_7 bhpσ_7 chpσ_7 ir_6 j42 hy1 hm45 hs45 kb ps2 iz_11 gc_13_f_12 c_15 iz_18; omega) | omega)
                  refine q_iald E hI (q_tk (k' := 34) hI ha rfl (by decide)) ⟨by decide, rfl⟩ (by first | (clear hh hm5 hs5 sb sl ps if_4 gc_5_f_4 c_5 ahpσ_7 bhpσ_7 chpσ_7 ir_6 j42 hy1 hm45 hs45 kb ps2 iz_11 gc_13_f_12 c_15 iz_18; omega) | omega) (by rw [q_lnk (v := 4650) hI (q_tk (k' := 34) hI ha rfl (by decide)) rfl (by decide)]; omega) dX12_laidOf_75 ?_
                  refine lv_topi (fun f_20 ef_20 => ?_)
                  replace hF := q_letX hF ef_20
                  have if_20 : f_20.toInt = m_c X σ a (((94 + 7 * x_2.toInt) + 3) + x_9.toInt) := m_rd ef_20 iz_19
                  refine lv_iload_n hx hb dX12_laidOf_76 rfl (lv_at hl 2 rfl) ?_
                  have gc_21_f_20 := q_rng f_20
                  have gc_21_v2 := q_rng v2
                  refine q_icmp_ne (A := f_20.toInt) (B := v2.toInt) E rfl rfl (tgt := 84) dX12_laidOf_77 (by decide) (fun c_21 => ?_) (fun c_21 => ?_)
                  · skip
                    replace hF := q_ifn hF c_21
                    rw [if_neg (by first | (clear hh hm5 hge5 hs5 sb sl ps if_4 gc_5_x_2 gc_5_f_4 c_5 ahpσ_7 bhpσ_7 chpσ_7 ir_6 j42 hy hy1 hm45 hge45 hs45 kb ps2 iz_11 if_12 gc_13_x_9 gc_13_f_12 c_13 iz_18 iz_19 gc_21_f_20; omega) | omega)] at ps2
                    refine lv_iconst (v := 0) hx hb dX12_laidOf_84 (by decide) ?_
                    refine lv_iadd hx hb dX12_laidOf_85 ?_
                    refine lv_topi (fun z_22 ez_22 => ?_)
                    replace hF := q_letX hF ez_22
                    have iz_22 := q_addI (A := x_8.toInt) (B := 0) ez_22 rfl (by decide) (by first | (clear hh hm5 hge5 hs5 if_4 gc_5_x_2 gc_5_f_4 c_5 ahpσ_7 bhpσ_7 chpσ_7 ir_6 j42 hy hy1 hm45 hge45 iz_11 if_12 gc_13_x_9 gc_13_f_12 c_13 c_15 iz_18 iz_19 if_20 gc_21_f_20 gc_21_v2 c_21; omega) | omega) (by first | (clear hh hm5 hge5 hs5 if_4 gc_5_x_2 gc_5_f_4 c_5 ahpσ_7 bhpσ_7 chpσ_7 ir_6 j42 hy1 hm45 iz_11 gc_13_f_12 c_15 iz_18 if_20 gc_21_f_20 gc_21_v2; omega) | omega)
                    refine lv_istore_n (lv' := [(3, .int z_22), (0, .ref a), (1, .int v1), (2, .int v2), (4, .int x_2), (5, .int r_6), (6, .int x_9)]) hx hb dX12_laidOf_86 rfl hl (by decide) rfl (fun ls hl => ?_)
                    obtain ⟨z_23, ez_23⟩ : ∃ y : Int32, y = x_9 + 1 := ⟨_, rfl⟩
                    replace hF := q_letX hF ez_23
                    refine lv_iinc (v := z_23) (lv' := [(6, .int z_23), (3, .int z_22), (0, .ref a), (1, .int v1), (2, .int v2), (4, .int x_2), (5, .int r_6)]) hx hb dX12_laidOf_87 hl (k := 6) rfl (by rw [ez_23]; rfl) (by decide) rfl (fun ls hl => ?_)
                    have iz_23 : z_23.toInt = x_9.toInt + 1 := q_inc ez_23 (by first | (clear hh hm5 hge5 hs5 sb sl ps if_4 gc_5_x_2 gc_5_f_4 c_5 ahpσ_7 bhpσ_7 chpσ_7 ir_6 j42 hy1 hm45 hs45 kb ps2 iz_11 gc_13_f_12 c_15 iz_18 if_20 gc_21_f_20 gc_21_v2 c_21 iz_22; omega) | omega)
                    have pz2 := ps2
                    rw [← iz_23] at pz2
                    refine lv_goto (tgt := 45) hx hb dX12_laidOf_90 (by decide) ?_
                    exact ih45 z_22 z_23 _ _ ls (by first | (clear hh hm5 hge5 hs5 sb sl ps if_4 gc_5_x_2 gc_5_f_4 c_5 ahpσ_7 bhpσ_7 chpσ_7 ir_6 j42 hy1 hs45 kb ps2 iz_11 gc_13_f_12 c_15 iz_18 if_20 gc_21_f_20 gc_21_v2 iz_22 pz2; omega) | omega) (by first | (clear hh hm5 hge5 hs5 sb sl ps if_4 gc_5_x_2 gc_5_f_4 c_5 ahpσ_7 bhpσ_7 chpσ_7 ir_6 j42 hy hy1 hm45 hs45 kb ps2 iz_11 gc_13_f_12 c_15 iz_18 if_20 gc_21_f_20 gc_21_v2 c_21 iz_22 pz2; omega) | omega) (by first | (clear hh hm5 hge5 hs5 sb sl if_4 gc_5_x_2 gc_5_f_4 c_5 ahpσ_7 bhpσ_7 chpσ_7 ir_6 j42 hy hy1 hm45 hge45 kb iz_11 if_12 gc_13_x_9 gc_13_f_12 c_13 c_15 iz_18 iz_19 if_20 gc_21_f_20 gc_21_v2 c_21 iz_23; omega) | omega) hF hI (lv_sub hl [2, 3, 4, 1, 5, 6, 0] rfl)
                  · skip
                    replace hF := q_ifp hF c_21
                    rw [if_pos (by first | (clear hh hm5 hge5 hs5 sb sl ps if_4 gc_5_x_2 gc_5_f_4 c_5 ahpσ_7 bhpσ_7 chpσ_7 ir_6 j42 hy hy1 hm45 hge45 hs45 kb ps2 iz_11 if_12 gc_13_x_9 gc_13_f_12 c_13 c_15 iz_18 iz_19 gc_21_f_20 gc_21_v2; omega) | omega)] at ps2
                    refine lv_iconst (v := 1) hx hb dX12_laidOf_80 (by decide) ?_
                    refine lv_goto (tgt := 85) hx hb dX12_laidOf_81 (by decide) ?_
                    refine lv_iadd hx hb dX12_laidOf_85 ?_
                    refine lv_topi (fun z_24 ez_24 => ?_)
                    replace hF := q_letX hF ez_24
                    have iz_24 := q_addI (A := x_8.toInt) (B := 1) ez_24 rfl (by decide) (by first | (clear hh hm5 hge5 hs5 if_4 gc_5_x_2 gc_5_f_4 c_5 ahpσ_7 bhpσ_7 chpσ_7 ir_6 j42 hy hy1 hm45 hge45 iz_11 if_12 gc_13_x_9 gc_13_f_12 c_13 c_15 iz_18 iz_19 if_20 gc_21_f_20 gc_21_v2 c_21; omega) | omega) (by first | (clear hh hm5 hge5 hs5 if_4 gc_5_x_2 gc_5_f_4 c_5 ahpσ_7 bhpσ_7 chpσ_7 ir_6 j42 hy1 hm45 iz_11 gc_13_f_12 c_15 iz_18 if_20 gc_21_f_20 gc_21_v2 c_21; omega) | omega)
                    refine lv_istore_n (lv' := [(3, .int z_24), (0, .ref a), (1, .int v1), (2, .int v2), (4, .int x_2), (5, .int r_6), (6, .int x_9)]) hx hb dX12_laidOf_86 rfl hl (by decide) rfl (fun ls hl => ?_)
                    obtain ⟨z_25, ez_25⟩ : ∃ y : Int32, y = x_9 + 1 := ⟨_, rfl⟩
                    replace hF := q_letX hF ez_25
                    refine lv_iinc (v := z_25) (lv' := [(6, .int z_25), (3, .int z_24), (0, .ref a), (1, .int v1), (2, .int v2), (4, .int x_2), (5, .int r_6)]) hx hb dX12_laidOf_87 hl (k := 6) rfl (by rw [ez_25]; rfl) (by decide) rfl (fun ls hl => ?_)
                    have iz_25 : z_25.toInt = x_9.toInt + 1 := q_inc ez_25 (by first | (clear hh hm5 hge5 hs5 sb sl ps if_4 gc_5_x_2 gc_5_f_4 c_5 ahpσ_7 bhpσ_7 chpσ_7 ir_6 j42 hy1 hm45 hs45 kb ps2 iz_11 gc_13_f_12 c_15 iz_18 if_20 gc_21_f_20 gc_21_v2 c_21 iz_24; omega) | omega)
                    have pz2 := ps2
                    rw [← iz_25] at pz2
                    refine lv_goto (tgt := 45) hx hb dX12_laidOf_90 (by decide) ?_
                    exact ih45 z_24 z_25 _ _ ls (by first | (clear hh hm5 hge5 hs5 sb sl ps if_4 gc_5_x_2 gc_5_f_4 c_5 ahpσ_7 bhpσ_7 chpσ_7 ir_6 j42 hy1 hs45 kb ps2 iz_11 gc_13_f_12 c_15 iz_18 if_20 gc_21_f_20 gc_21_v2 c_21 iz_24 pz2; omega) | omega) (by first | (clear hh hm5 hge5 hs5 sb sl ps if_4 gc_5_x_2 gc_5_f_4 c_5 ahpσ_7 bhpσ_7 chpσ_7 ir_6 j42 hy hy1 hm45 hs45 kb ps2 iz_11 gc_13_f_12 c_15 iz_18 if_20 gc_21_f_20 gc_21_v2 c_21 iz_24 pz2; omega) | omega) (by first | (clear hh hm5 hge5 hs5 sb sl if_4 gc_5_x_2 gc_5_f_4 c_5 ahpσ_7 bhpσ_7 chpσ_7 ir_6 j42 hy hy1 hm45 hge45 kb iz_11 if_12 gc_13_x_9 gc_13_f_12 c_13 c_15 iz_18 iz_19 if_20 gc_21_f_20 gc_21_v2 c_21 iz_25; omega) | omega) hF hI (lv_sub hl [2, 3, 4, 1, 5, 6, 0] rfl)
          have kc_26 : (0 : Int32).toInt = 0 := rfl
          exact L_45_10 ((2147483647 - (0 : Int32).toInt).toNat + 1) x_1 0 _ _ ls (Nat.lt_succ_self _) (by have q : (0 : Int32).toInt = 0 := rfl; omega) (by rw [hs5]; exact (Int.add_zero _).symm) hF hI (lv_sub hl [1, 2, 3, 4, 5, 6, 0] rfl)
        refine q_if_lt (A := v1.toInt) E rfl (tgt := 42) dX12_laidOf_25 (by decide) (fun c_27 => ?_) (fun c_27 => ?_)
        · skip
          replace hF := q_ifp hF c_27
          exact J_42_7 _ _ ls (by first | (clear hh hm5 hge5 hs5 sb sl ps if_4 gc_5_x_2 gc_5_f_4 c_5 ahpσ_7 bhpσ_7 chpσ_7 ir_6; omega) | omega) hF hI (lv_sub hl [1, 2, 3, 4, 5, 0] rfl)
        · skip
          replace hF := q_ifn hF (Int.not_lt.mpr c_27)
          refine lv_aload_n hx hb dX12_laidOf_28 rfl (lv_at hl 1 rfl) ?_
          refine gs_X12_35_12 E hI ha dX12_laidOf_29 ?_
          refine lv_iload hx hb dX12_laidOf_32 (lv_at hl 0 rfl) ?_
          refine q_iald E hI (q_tk (k' := 34) hI ha rfl (by decide)) ⟨by decide, rfl⟩ (by first | (clear hh hm5 hs5 sb sl ps if_4 gc_5_f_4 c_5 ahpσ_7 chpσ_7 ir_6 c_27; omega) | omega) (by rw [q_lnk (v := 4650) hI (q_tk (k' := 34) hI ha rfl (by decide)) rfl (by decide)]; omega) dX12_laidOf_34 ?_
          refine lv_topi (fun f_28 ef_28 => ?_)
          replace hF := q_letX hF ef_28
          have if_28 : f_28.toInt = m_c X σ a (94 + 7 * x_2.toInt) := m_rd ef_28 ir_6
          refine lv_iload_n hx hb dX12_laidOf_35 rfl (lv_at hl 2 rfl) ?_
          have gc_29_f_28 := q_rng f_28
          have gc_29_v1 := q_rng v1
          refine q_icmp_eq (A := f_28.toInt) (B := v1.toInt) E rfl rfl (tgt := 42) dX12_laidOf_36 (by decide) (fun c_29 => ?_) (fun c_29 => ?_)
          · skip
            replace hF := q_ifp hF c_29
            exact J_42_7 _ _ ls (by first | (clear hh hm5 hge5 hs5 sb sl ps if_4 gc_5_x_2 gc_5_f_4 c_5 ahpσ_7 bhpσ_7 chpσ_7 ir_6 c_27 gc_29_f_28 gc_29_v1; omega) | omega) hF hI (lv_sub hl [1, 2, 3, 4, 5, 0] rfl)
          · skip
            replace hF := q_ifn hF c_29
            rw [if_pos (by first | (clear hh hm5 hge5 hs5 sb sl ps if_4 gc_5_x_2 gc_5_f_4 c_5 ahpσ_7 bhpσ_7 chpσ_7 ir_6 gc_29_f_28; omega) | omega)] at ps
            refine lv_goto (tgt := 93) hx hb dX12_laidOf_39 (by decide) ?_
            obtain ⟨z_30, ez_30⟩ : ∃ y : Int32, y = x_2 + 1 := ⟨_, rfl⟩
            replace hF := q_letX hF ez_30
            refine lv_iinc (v := z_30) (lv' := [(4, .int z_30), (5, .int r_6), (0, .ref a), (1, .int v1), (2, .int v2), (3, .int x_1)]) hx hb dX12_laidOf_93 hl (k := 5) rfl (by rw [ez_30]; rfl) (by decide) rfl (fun ls hl => ?_)
            have iz_30 : z_30.toInt = x_2.toInt + 1 := q_inc ez_30 (by first | (clear hm5 hs5 sb sl ps gc_5_f_4 ahpσ_7 bhpσ_7 chpσ_7 ir_6 c_27 if_28 gc_29_f_28 gc_29_v1 c_29; omega) | omega)
            have pz := ps
            rw [← iz_30] at pz
            refine lv_goto (tgt := 5) hx hb dX12_laidOf_96 (by decide) ?_
            exact ih5 x_1 z_30 _ _ ls (by first | (clear hs5 sb sl ps gc_5_f_4 ahpσ_7 bhpσ_7 chpσ_7 ir_6 c_27 if_28 gc_29_f_28 gc_29_v1 pz; omega) | omega) (by first | (clear hh hm5 hs5 sb sl ps gc_5_f_4 ahpσ_7 bhpσ_7 chpσ_7 ir_6 c_27 if_28 gc_29_f_28 gc_29_v1 c_29 pz; omega) | omega) (by first | (clear hh hm5 hge5 sb sl if_4 gc_5_x_2 gc_5_f_4 c_5 ahpσ_7 bhpσ_7 chpσ_7 ir_6 c_27 if_28 gc_29_f_28 gc_29_v1 c_29 iz_30; omega) | omega) hF hI (lv_sub hl [2, 3, 4, 5, 0] rfl)
  have kc_31 : (0 : Int32).toInt = 0 := rfl
  exact L_5_3 ((2147483647 - (0 : Int32).toInt).toNat + 1) 0 0 _ _ ls (Nat.lt_succ_self _) (by have q : (0 : Int32).toInt = 0 := rfl; omega) rfl hF hI (lv_sub hl [2, 3, 4, 1, 0] rfl)

set_option maxRecDepth 100000 in
set_option maxHeartbeats 4000000 in
theorem c_X12_inGameOf (l : Launch) (X : XW) (σ : ST) (a : Nat) (v1 : Int32) (ha : q_kd X a = 12) (hG : m_G (m_c X σ a)) (h0 : 0 ≤ v1.toInt ∧ v1.toInt ≤ 9) : Met l yX12_inGameOf (q_ws yX12_inGameOf cX12_inGameOf 4 (some .int)) (q_rm 2 46) (q_P X σ [.ref a, .int v1]) (q_Qi X 9 σ (fun (r : Int32) (σ' : ST) => σ' = σ ∧ (r.toInt = m_I (m_c X σ a) v1.toInt) ∧ (0 ≤ r.toInt ∧ r.toInt ≤ 80) ∧ r = F_X12_inGameOf X σ a v1)) 0 0 (q_reg X) := by
  refine q_met 9 (by first | exact rfl | decide +kernel) rfl (Nat.le_of_ble_eq_true rfl) (fun p e s m below meth c E hml hr hlk hI ls hl => ?_)
  have hx := E.1
  have hb := E.2.1
  have hl : lv_has ls 4 [(0, .ref a), (1, .int v1)] := hl
  have hh := hG.hd
  obtain ⟨out, hout⟩ : ∃ o, o = F_X12_inGameOf X σ a v1 := ⟨_, rfl⟩
  have hF := hout.symm
  unfold F_X12_inGameOf at hF
  refine lv_aload_n hx hb dX12_inGameOf_0 rfl (lv_at hl 0 rfl) ?_
  refine lv_iconst (v := (-1)) hx hb dX12_inGameOf_1 (by decide) ?_
  refine lv_iload_n hx hb dX12_inGameOf_2 rfl (lv_at hl 1 rfl) ?_
  have kc_1 : ((-1) : Int32).toInt = (-1) := rfl
  refine q_ci (q_runV (As := [.int (-1), .int v1]) (rest := []) E (hml.trans hl.1.symm) hI (c_X12_laidOf l X σ a ((-1) : Int32) v1 ha hG) kv_X12_296 ha ⟨rfl, by decide⟩ (show vwCl[11]? = some (RX12, TX12, 46) from rfl) rfl ⟨Nat.le_of_ble_eq_true rfl, Nat.le_of_ble_eq_true rfl⟩ ⟨Nat.le_refl _, Nat.le_refl _⟩ rfl (Nat.le_of_ble_eq_true rfl) dX12_inGameOf_3) hI (by decide) (fun r_2 σ_3 H locs hpσ_3 hkσ_3 hI => ?_)
  obtain ⟨ahpσ_3, bhpσ_3, chpσ_3, dhpσ_3⟩ := hpσ_3
  rw [ahpσ_3] at hI
  replace hF := q_letX hF dhpσ_3
  have ir_2 : r_2.toInt = (m_A (m_c X σ a) (-1) v1.toInt (m_c X σ a 9).toNat) := (by first | exact bhpσ_3 | (rw [bhpσ_3]) | (simp only [bhpσ_3]))
  refine lv_istore_n (lv' := [(2, .int r_2), (0, .ref a), (1, .int v1)]) hx hb dX12_inGameOf_6 rfl hl (by decide) rfl (fun ls hl => ?_)
  refine lv_iconst (v := 0) hx hb dX12_inGameOf_7 (by decide) ?_
  refine lv_istore_n (lv' := [(3, .int 0), (2, .int r_2), (0, .ref a), (1, .int v1)]) hx hb dX12_inGameOf_8 rfl hl (by decide) rfl (fun ls hl => ?_)
  have L_9_6 : ∀ (k_6 : Nat) (x_4 : Int32) (x_5 : Int32) (H : Heap) (locs : List Loc) (ls : Array Slot), (2147483647 - x_5.toInt).toNat < k_6 → (0 ≤ x_5.toInt ∧ x_5.toInt ≤ m_c X σ a 2) → (x_4.toInt = m_A (m_c X σ a) (-1) v1.toInt (m_c X σ a 9).toNat + m_P (m_c X σ a) v1.toInt x_5.toInt.toNat) → (F_X12_inGameOf_L9_1 X σ a v1 k_6 x_4 x_5 = out) → q_I X 9 σ s.heap locs σ H → lv_has ls 4 [(0, .ref a), (1, .int v1), (2, .int x_4), (3, .int x_5)] → W p l e (q_rm 2 46) s m ([.ref a, .int v1] : List Value).toArray below meth c H locs 0 0 (MQ below (q_Qi X 9 σ (fun (r : Int32) (σ' : ST) => σ' = σ ∧ (r.toInt = m_I (m_c X σ a) v1.toInt) ∧ (0 ≤ r.toInt ∧ r.toInt ≤ 80) ∧ r = F_X12_inGameOf X σ a v1)) ([.ref a, .int v1] : List Value).toArray s 0 0 (q_reg X)) (F0 m 9 ls []) := by
    clear hF
    intro k_6
    induction k_6 with
    | zero =>
      intro x_4 x_5 H locs ls hms
      exact absurd hms (Nat.not_lt_zero _)
    | succ k_6 ih9 =>
      intro x_4 x_5 H locs ls hm9 hge9 hs9 hF hI hl
      replace hF := (F_X12_inGameOf_L9_1_s).symm.trans hF
      unfold F_X12_inGameOf_B9_1 at hF
      have sa := hG.A_bd (-1) v1.toInt (m_c X σ a 9).toNat (by first | (clear h0 kc_1 ahpσ_3 bhpσ_3 chpσ_3 dhpσ_3 ir_2 hm9 hge9 hs9; omega) | omega)
      have sb := hG.Pbd (k := v1.toInt) (by first | (clear h0 hh kc_1 ahpσ_3 bhpσ_3 chpσ_3 dhpσ_3 ir_2 hm9 hge9 hs9 sa; omega) | omega) (by first | (clear h0 hh kc_1 ahpσ_3 bhpσ_3 chpσ_3 dhpσ_3 ir_2 hm9 hge9 hs9 sa; omega) | omega) x_5.toInt.toNat (by first | (clear h0 kc_1 ahpσ_3 bhpσ_3 chpσ_3 dhpσ_3 ir_2 hm9 hs9 sa; omega) | omega)
      have sc := hG.Sall (10 * x_5.toInt.toNat) (by first | (clear h0 kc_1 ahpσ_3 bhpσ_3 chpσ_3 dhpσ_3 ir_2 hm9 hs9 sa sb; omega) | omega)
      have sd := hG.tot
      have ps := m_P_succ (m_c X σ a) v1.toInt x_5.toInt hge9.1
      refine lv_iload_n hx hb dX12_inGameOf_9 rfl (lv_at hl 3 rfl) ?_
      refine lv_aload_n hx hb dX12_inGameOf_10 rfl (lv_at hl 0 rfl) ?_
      refine gs_X12_35_12 E hI ha dX12_inGameOf_11 ?_
      refine lv_iconst (v := 2) hx hb dX12_inGameOf_14 (by decide) ?_
      refine q_iald E hI (q_tk (k' := 34) hI ha rfl (by decide)) ⟨by decide, rfl⟩ (by decide) (by rw [q_lnk (v := 4650) hI (q_tk (k' := 34) hI ha rfl (by decide)) rfl (by decide)]; decide) dX12_inGameOf_15 ?_
      refine lv_topi (fun f_7 ef_7 => ?_)
      replace hF := q_letX hF ef_7
      have if_7 : f_7.toInt = m_c X σ a 2 := m_rd ef_7 (by decide)
      have gc_8_x_5 := q_rng x_5
      have gc_8_f_7 := q_rng f_7
      refine q_icmp_ge (A := x_5.toInt) (B := f_7.toInt) E rfl rfl (tgt := 34) dX12_inGameOf_16 (by decide) (fun c_8 => ?_) (fun c_8 => ?_)
      · skip
        replace hF := q_ifn hF (Int.not_lt.mpr c_8)
        skip
        refine lv_iload_n hx hb dX12_inGameOf_34 rfl (lv_at hl 2 rfl) ?_
        exact q_reti E hr hlk hI ⟨rfl, (by have q : x_5.toInt = m_c X σ a 2 := (by first | (clear h0 hh kc_1 ahpσ_3 bhpσ_3 chpσ_3 dhpσ_3 ir_2 hm9 hs9 sa sb sc sd ps gc_8_x_5 gc_8_f_7; omega) | omega); rw [q] at hs9; exact hs9), (by have q : x_5.toInt = m_c X σ a 2 := (by first | (clear h0 hh kc_1 ahpσ_3 bhpσ_3 chpσ_3 dhpσ_3 ir_2 hm9 hs9 sa sb sc sd ps gc_8_x_5 gc_8_f_7; omega) | omega); rw [q] at hs9; have w := hG.I_bd (k := v1.toInt) (by first | (clear h0 hh kc_1 ahpσ_3 bhpσ_3 chpσ_3 dhpσ_3 ir_2 hm9 hge9 hs9 sa sb sc sd ps if_7 gc_8_x_5 gc_8_f_7 c_8; omega) | omega) (by first | (clear h0 hh kc_1 ahpσ_3 bhpσ_3 chpσ_3 dhpσ_3 ir_2 hm9 hge9 hs9 sa sb sc sd ps if_7 gc_8_x_5 gc_8_f_7 c_8; omega) | omega); unfold m_I at w; omega), (hF.trans hout)⟩ dX12_inGameOf_35
      · skip
        replace hF := q_ifp hF c_8
        refine lv_iload_n hx hb dX12_inGameOf_19 rfl (lv_at hl 2 rfl) ?_
        refine lv_aload_n hx hb dX12_inGameOf_20 rfl (lv_at hl 0 rfl) ?_
        refine lv_iload_n hx hb dX12_inGameOf_21 rfl (lv_at hl 3 rfl) ?_
        refine lv_iload_n hx hb dX12_inGameOf_22 rfl (lv_at hl 1 rfl) ?_
        refine q_ci (q_runV (As := [.int x_5, .int v1]) (rest := [.int x_4]) E (hml.trans hl.1.symm) hI (c_X12_handOf l X σ a x_5 v1 ha (by first | (clear h0 kc_1 ahpσ_3 bhpσ_3 chpσ_3 dhpσ_3 ir_2 hm9 hs9 sa sb sc sd ps gc_8_f_7; omega) | omega) (by omega)) kv_X12_276 ha ⟨rfl, by decide⟩ (show vwCl[11]? = some (RX12, TX12, 46) from rfl) rfl ⟨Nat.le_of_ble_eq_true rfl, Nat.le_of_ble_eq_true rfl⟩ ⟨Nat.le_refl _, Nat.le_refl _⟩ rfl (Nat.le_of_ble_eq_true rfl) dX12_inGameOf_23) hI (by decide) (fun r_9 σ_10 H locs hpσ_10 hkσ_10 hI => ?_)
        obtain ⟨ahpσ_10, bhpσ_10, chpσ_10⟩ := hpσ_10
        rw [ahpσ_10] at hI
        replace hF := q_letX hF chpσ_10
        have ir_9 : r_9.toInt = (m_c X σ a (34 + 10 * x_5.toInt + v1.toInt)) := (by first | exact bhpσ_10 | (rw [bhpσ_10]) | (simp only [bhpσ_10]))
        have hbr_9 := hG.h80 (p := x_5.toInt) (k := v1.toInt) (by first | (clear h0 hh kc_1 ahpσ_3 bhpσ_3 chpσ_3 dhpσ_3 ir_2 hm9 hs9 sa sb sc sd ps if_7 gc_8_f_7 c_8 ahpσ_10 bhpσ_10 chpσ_10 ir_9; omega) | omega) (by first | (clear h0 kc_1 ahpσ_3 bhpσ_3 chpσ_3 dhpσ_3 ir_2 hm9 hs9 sa sb sc sd ps gc_8_f_7 ahpσ_10 bhpσ_10 chpσ_10 ir_9; omega) | omega) (by first | (clear h0 hh kc_1 ahpσ_3 bhpσ_3 chpσ_3 dhpσ_3 ir_2 hm9 hge9 hs9 sa sb sc sd ps if_7 gc_8_x_5 gc_8_f_7 c_8 ahpσ_10 bhpσ_10 chpσ_10 ir_9; omega) | omega) (by first | (clear h0 hh kc_1 ahpσ_3 bhpσ_3 chpσ_3 dhpσ_3 ir_2 hm9 hge9 hs9 sa sb sc sd ps if_7 gc_8_x_5 gc_8_f_7 c_8 ahpσ_10 bhpσ_10 chpσ_10 ir_9; omega) | omega)
        refine lv_iadd hx hb dX12_inGameOf_26 ?_
        refine lv_topi (fun z_11 ez_11 => ?_)
        replace hF := q_letX hF ez_11
        have iz_11 := q_addI (A := x_4.toInt) (B := (m_c X σ a (34 + 10 * x_5.toInt + v1.toInt))) ez_11 rfl ir_9 (by first | (clear h0 hh kc_1 ahpσ_3 dhpσ_3 hm9 hge9 if_7 gc_8_x_5 gc_8_f_7 c_8 ahpσ_10 chpσ_10 ir_9; omega) | omega) (by first | (clear h0 hh kc_1 ahpσ_3 dhpσ_3 hm9 hge9 if_7 gc_8_x_5 gc_8_f_7 c_8 ahpσ_10 chpσ_10 ir_9; omega) | omega)
        refine lv_istore_n (lv' := [(2, .int z_11), (0, .ref a), (1, .int v1), (3, .int x_5)]) hx hb dX12_inGameOf_27 rfl hl (by decide) rfl (fun ls hl => ?_)
        obtain ⟨z_12, ez_12⟩ : ∃ y : Int32, y = x_5 + 1 := ⟨_, rfl⟩
        replace hF := q_letX hF ez_12
        refine lv_iinc (v := z_12) (lv' := [(3, .int z_12), (2, .int z_11), (0, .ref a), (1, .int v1)]) hx hb dX12_inGameOf_28 hl (k := 3) rfl (by rw [ez_12]; rfl) (by decide) rfl (fun ls hl => ?_)
        have iz_12 : z_12.toInt = x_5.toInt + 1 := q_inc ez_12 (by first | (clear h0 kc_1 ahpσ_3 bhpσ_3 chpσ_3 dhpσ_3 ir_2 hm9 hs9 sa sb sc sd ps gc_8_f_7 ahpσ_10 bhpσ_10 chpσ_10 ir_9 hbr_9 iz_11; omega) | omega)
        have pz := ps
        rw [← iz_12] at pz
        refine lv_goto (tgt := 9) hx hb dX12_inGameOf_31 (by decide) ?_
        exact ih9 z_11 z_12 _ _ ls (by first | (clear h0 kc_1 ahpσ_3 bhpσ_3 chpσ_3 dhpσ_3 ir_2 hs9 sa sb sc sd ps gc_8_f_7 ahpσ_10 bhpσ_10 chpσ_10 ir_9 hbr_9 iz_11 pz; omega) | omega) (by first | (clear h0 hh kc_1 ahpσ_3 bhpσ_3 chpσ_3 dhpσ_3 ir_2 hm9 hs9 sa sb sc sd ps gc_8_f_7 ahpσ_10 bhpσ_10 chpσ_10 ir_9 hbr_9 iz_11 pz; omega) | omega) (by first | (clear h0 hh kc_1 ahpσ_3 bhpσ_3 chpσ_3 dhpσ_3 ir_2 hm9 hge9 sa sb sc sd if_7 gc_8_x_5 gc_8_f_7 c_8 ahpσ_10 chpσ_10 ir_9 hbr_9 iz_12; omega) | omega) hF hI (lv_sub hl [2, 3, 1, 0] rfl)
  have kc_13 : (0 : Int32).toInt = 0 := rfl
  exact L_9_6 ((2147483647 - (0 : Int32).toInt).toNat + 1) r_2 0 _ _ ls (Nat.lt_succ_self _) (by have q : (0 : Int32).toInt = 0 := rfl; omega) (by have q : m_P (m_c X σ a) v1.toInt (0 : Int32).toInt.toNat = 0 := rfl; omega) hF hI (lv_sub hl [2, 3, 1, 0] rfl)

set_option maxRecDepth 100000 in
set_option maxHeartbeats 4000000 in
theorem c_X12_sortOf (l : Launch) (X : XW) (σ : ST) (a : Nat) (v1 : Int32) (ha : q_kd X a = 12) (hG : m_G (m_c X σ a)) (h0 : 0 ≤ v1.toInt ∧ v1.toInt < m_c X σ a 9) : Met l yX12_sortOf (q_ws yX12_sortOf cX12_sortOf 5 (some .int)) (q_rm 1 20) (q_P X σ [.ref a, .int v1]) (q_Qi X 9 σ (fun (r : Int32) (σ' : ST) => σ' = σ ∧ (0 ≤ r.toInt ∧ r.toInt ≤ 2) ∧ r = F_X12_sortOf X σ a v1)) 0 0 (q_reg X) := by
  refine q_met 9 (by first | exact rfl | decide +kernel) rfl (Nat.le_of_ble_eq_true rfl) (fun p e s m below meth c E hml hr hlk hI ls hl => ?_)
  have hx := E.1
  have hb := E.2.1
  have hl : lv_has ls 5 [(0, .ref a), (1, .int v1)] := hl
  have hh := hG.hd
  obtain ⟨out, hout⟩ : ∃ o, o = F_X12_sortOf X σ a v1 := ⟨_, rfl⟩
  have hF := hout.symm
  unfold F_X12_sortOf at hF
  refine lv_iload_n hx hb dX12_sortOf_0 rfl (lv_at hl 1 rfl) ?_
  refine q_ci (q_runS (As := [.int v1]) (rest := []) E (hml.trans hl.1.symm) hI (c_X12_laid l X σ v1 (by first | (clear h0; omega) | omega)) ks_X12_279 rfl ⟨Nat.le_of_ble_eq_true rfl, Nat.le_of_ble_eq_true rfl⟩ ⟨Nat.le_refl _, Nat.le_refl _⟩ rfl (Nat.le_of_ble_eq_true rfl) dX12_sortOf_1) hI (by decide) (fun r_1 σ_2 H locs hpσ_2 hkσ_2 hI => ?_)
  obtain ⟨ahpσ_2, bhpσ_2, chpσ_2⟩ := hpσ_2
  rw [ahpσ_2] at hI
  replace hF := q_letX hF chpσ_2
  have ir_1 : r_1.toInt = (94 + 7 * v1.toInt) := (by omega)
  have hy := (hG.2.2.1 v1.toInt (by first | (clear h0 hh ahpσ_2 bhpσ_2 chpσ_2 ir_1; omega) | omega) (by first | (clear h0 hh ahpσ_2 bhpσ_2 chpσ_2 ir_1; omega) | omega)).1
  have hlw := bhpσ_2
  refine lv_istore_n (lv' := [(2, .int r_1), (0, .ref a), (1, .int v1)]) hx hb dX12_sortOf_4 rfl hl (by decide) rfl (fun ls hl => ?_)
  refine lv_iconst (v := 0) hx hb dX12_sortOf_5 (by decide) ?_
  refine lv_istore_n (lv' := [(3, .int 0), (2, .int r_1), (0, .ref a), (1, .int v1)]) hx hb dX12_sortOf_6 rfl hl (by decide) rfl (fun ls hl => ?_)
  refine lv_iconst (v := 0) hx hb dX12_sortOf_7 (by decide) ?_
  refine lv_istore (lv' := [(4, .int 0), (3, .int 0), (2, .int r_1), (0, .ref a), (1, .int v1)]) hx hb dX12_sortOf_8 hl (by decide) rfl (fun ls hl => ?_)
  have L_10_5 : ∀ (k_5 : Nat) (x_3 : Int32) (x_4 : Int32) (H : Heap) (locs : List Loc) (ls : Array Slot), (2147483647 - x_4.toInt).toNat < k_5 → (0 ≤ x_4.toInt ∧ 0 ≤ x_3.toInt ∧ x_3.toInt ≤ x_4.toInt) → (F_X12_sortOf_L10_1 X r_1 σ a k_5 x_3 x_4 = out) → q_I X 9 σ s.heap locs σ H → lv_has ls 5 [(0, .ref a), (1, .int v1), (2, .int r_1), (3, .int x_3), (4, .int x_4)] → W p l e (q_rm 1 20) s m ([.ref a, .int v1] : List Value).toArray below meth c H locs 0 0 (MQ below (q_Qi X 9 σ (fun (r : Int32) (σ' : ST) => σ' = σ ∧ (0 ≤ r.toInt ∧ r.toInt ≤ 2) ∧ r = F_X12_sortOf X σ a v1)) ([.ref a, .int v1] : List Value).toArray s 0 0 (q_reg X)) (F0 m 10 ls []) := by
    clear hF
    intro k_5
    induction k_5 with
    | zero =>
      intro x_3 x_4 H locs ls hms
      exact absurd hms (Nat.not_lt_zero _)
    | succ k_5 ih10 =>
      intro x_3 x_4 H locs ls hm10 hge10 hF hI hl
      replace hF := (F_X12_sortOf_L10_1_s).symm.trans hF
      unfold F_X12_sortOf_B10_1 at hF
      refine lv_iload hx hb dX12_sortOf_10 (lv_at hl 4 rfl) ?_
      refine lv_aload_n hx hb dX12_sortOf_12 rfl (lv_at hl 0 rfl) ?_
      refine gs_X12_35_12 E hI ha dX12_sortOf_13 ?_
      refine lv_iload_n hx hb dX12_sortOf_16 rfl (lv_at hl 2 rfl) ?_
      refine lv_iconst (v := 2) hx hb dX12_sortOf_17 (by decide) ?_
      refine lv_iadd hx hb dX12_sortOf_18 ?_
      refine lv_topi (fun z_6 ez_6 => ?_)
      replace hF := q_letX hF ez_6
      have iz_6 := q_addI (A := (94 + 7 * v1.toInt)) (B := 2) ez_6 ir_1 (by decide) (by first | (clear h0 hh ahpσ_2 bhpσ_2 chpσ_2 ir_1 hy hm10 hge10; omega) | omega) (by first | (clear h0 ahpσ_2 bhpσ_2 chpσ_2 ir_1 hy hm10 hge10; omega) | omega)
      refine q_iald E hI (q_tk (k' := 34) hI ha rfl (by decide)) ⟨by decide, rfl⟩ (by first | (clear h0 hh ahpσ_2 bhpσ_2 chpσ_2 ir_1 hy hm10 hge10; omega) | omega) (by rw [q_lnk (v := 4650) hI (q_tk (k' := 34) hI ha rfl (by decide)) rfl (by decide)]; omega) dX12_sortOf_19 ?_
      refine lv_topi (fun f_7 ef_7 => ?_)
      replace hF := q_letX hF ef_7
      have if_7 : f_7.toInt = m_c X σ a ((94 + 7 * v1.toInt) + 2) := m_rd ef_7 iz_6
      have gc_8_x_4 := q_rng x_4
      have gc_8_f_7 := q_rng f_7
      refine q_icmp_ge (A := x_4.toInt) (B := f_7.toInt) E rfl rfl (tgt := 59) dX12_sortOf_20 (by decide) (fun c_8 => ?_) (fun c_8 => ?_)
      · skip
        replace hF := q_ifn hF (Int.not_lt.mpr c_8)
        unfold F_X12_sortOf_E59_2 at hF
        refine lv_iload_n hx hb dX12_sortOf_59 rfl (lv_at hl 3 rfl) ?_
        refine lv_aload_n hx hb dX12_sortOf_60 rfl (lv_at hl 0 rfl) ?_
        refine gs_X12_35_12 E hI ha dX12_sortOf_61 ?_
        refine lv_iload_n hx hb dX12_sortOf_64 rfl (lv_at hl 2 rfl) ?_
        refine lv_iconst (v := 2) hx hb dX12_sortOf_65 (by decide) ?_
        refine lv_iadd hx hb dX12_sortOf_66 ?_
        refine lv_topi (fun z_9 ez_9 => ?_)
        replace hF := q_letX hF ez_9
        have iz_9 := q_addI (A := (94 + 7 * v1.toInt)) (B := 2) ez_9 ir_1 (by decide) (by first | (clear h0 hh ahpσ_2 bhpσ_2 chpσ_2 ir_1 hy hm10 hge10 iz_6 if_7 gc_8_x_4 gc_8_f_7 c_8; omega) | omega) (by first | (clear h0 ahpσ_2 bhpσ_2 chpσ_2 ir_1 hy hm10 hge10 iz_6 if_7 gc_8_x_4 gc_8_f_7 c_8; omega) | omega)
        refine q_iald E hI (q_tk (k' := 34) hI ha rfl (by decide)) ⟨by decide, rfl⟩ (by first | (clear h0 hh ahpσ_2 bhpσ_2 chpσ_2 ir_1 hy hm10 hge10 iz_6 if_7 gc_8_x_4 gc_8_f_7 c_8; omega) | omega) (by rw [q_lnk (v := 4650) hI (q_tk (k' := 34) hI ha rfl (by decide)) rfl (by decide)]; omega) dX12_sortOf_67 ?_
        refine lv_topi (fun f_10 ef_10 => ?_)
        replace hF := q_letX hF ef_10
        have if_10 : f_10.toInt = m_c X σ a ((94 + 7 * v1.toInt) + 2) := m_rd ef_10 iz_9
        have gc_11_x_3 := q_rng x_3
        have gc_11_f_10 := q_rng f_10
        refine q_icmp_ne (A := x_3.toInt) (B := f_10.toInt) E rfl rfl (tgt := 75) dX12_sortOf_68 (by decide) (fun c_11 => ?_) (fun c_11 => ?_)
        · skip
          replace hF := q_ifn hF c_11
          refine lv_iload_n hx hb dX12_sortOf_75 rfl (lv_at hl 3 rfl) ?_
          refine q_if_ne (A := x_3.toInt) E rfl (tgt := 83) dX12_sortOf_76 (by decide) (fun c_12 => ?_) (fun c_12 => ?_)
          · skip
            replace hF := q_ifn hF c_12
            refine lv_iconst (v := 1) hx hb dX12_sortOf_83 (by decide) ?_
            have hrv : (1 : Int32).toInt = 1 := rfl
            exact q_reti E hr hlk hI ⟨rfl, (by first | (clear h0 hh ahpσ_2 bhpσ_2 chpσ_2 ir_1 hy hm10 hge10 iz_6 if_7 gc_8_x_4 gc_8_f_7 c_8 iz_9 if_10 gc_11_x_3 gc_11_f_10 c_11 c_12; omega) | omega), (hF.trans hout)⟩ dX12_sortOf_84
          · skip
            replace hF := q_ifp hF c_12
            refine lv_iconst (v := 2) hx hb dX12_sortOf_79 (by decide) ?_
            refine lv_goto (tgt := 84) hx hb dX12_sortOf_80 (by decide) ?_
            have hrv : (2 : Int32).toInt = 2 := rfl
            exact q_reti E hr hlk hI ⟨rfl, (by first | (clear h0 hh ahpσ_2 bhpσ_2 chpσ_2 ir_1 hy hm10 hge10 iz_6 if_7 gc_8_x_4 gc_8_f_7 c_8 iz_9 if_10 gc_11_x_3 gc_11_f_10 c_11 c_12; omega) | omega), (hF.trans hout)⟩ dX12_sortOf_84
        · skip
          replace hF := q_ifp hF c_11
          refine lv_iconst (v := 0) hx hb dX12_sortOf_71 (by decide) ?_
          refine lv_goto (tgt := 84) hx hb dX12_sortOf_72 (by decide) ?_
          have hrv : (0 : Int32).toInt = 0 := rfl
          exact q_reti E hr hlk hI ⟨rfl, (by first | (clear h0 hh ahpσ_2 bhpσ_2 chpσ_2 ir_1 hy hm10 hge10 iz_6 if_7 gc_8_x_4 gc_8_f_7 c_8 iz_9 if_10 gc_11_x_3 gc_11_f_10 c_11; omega) | omega), (hF.trans hout)⟩ dX12_sortOf_84
      · skip
        replace hF := q_ifp hF c_8
        refine lv_iload_n hx hb dX12_sortOf_23 rfl (lv_at hl 3 rfl) ?_
        refine lv_aload_n hx hb dX12_sortOf_24 rfl (lv_at hl 0 rfl) ?_
        refine gs_X12_35_12 E hI ha dX12_sortOf_25 ?_
        refine lv_iload_n hx hb dX12_sortOf_28 rfl (lv_at hl 2 rfl) ?_
        refine lv_iconst (v := 3) hx hb dX12_sortOf_29 (by decide) ?_
        refine lv_iadd hx hb dX12_sortOf_30 ?_
        refine lv_topi (fun z_13 ez_13 => ?_)
        replace hF := q_letX hF ez_13
        have iz_13 := q_addI (A := (94 + 7 * v1.toInt)) (B := 3) ez_13 ir_1 (by decide) (by first | (clear h0 hh ahpσ_2 bhpσ_2 chpσ_2 ir_1 hy hm10 hge10 iz_6 if_7 gc_8_x_4 gc_8_f_7 c_8; omega) | omega) (by first | (clear h0 ahpσ_2 bhpσ_2 chpσ_2 ir_1 hy hm10 hge10 iz_6 if_7 gc_8_x_4 gc_8_f_7 c_8; omega) | omega)
        refine lv_iload hx hb dX12_sortOf_31 (lv_at hl 4 rfl) ?_
        refine lv_iadd hx hb dX12_sortOf_33 ?_
        refine lv_topi (fun z_14 ez_14 => ?_)
        replace hF := q_letX hF ez_14
        have iz_14 := q_addI (A := ((94 + 7 * v1.toInt) + 3)) (B := x_4.toInt) ez_14 iz_13 rfl (by first | (clear h0 hh ahpσ_2 bhpσ_2 chpσ_2 ir_1 hy hm10 iz_6 if_7 gc_8_f_7 c_8 iz_13; omega) | omega) (by first | (clear h0 ahpσ_2 bhpσ_2 chpσ_2 ir_1 hm10 iz_6 gc_8_f_7 iz_13; omega) | omega)
        refine q_iald E hI (q_tk (k' := 34) hI ha rfl (by decide)) ⟨by decide, rfl⟩ (by first | (clear h0 hh ahpσ_2 bhpσ_2 chpσ_2 ir_1 hm10 iz_6 gc_8_f_7 iz_13; omega) | omega) (by rw [q_lnk (v := 4650) hI (q_tk (k' := 34) hI ha rfl (by decide)) rfl (by decide)]; omega) dX12_sortOf_34 ?_
        refine lv_topi (fun f_15 ef_15 => ?_)
        replace hF := q_letX hF ef_15
        have if_15 : f_15.toInt = m_c X σ a (((94 + 7 * v1.toInt) + 3) + x_4.toInt) := m_rd ef_15 iz_14
        refine lv_aload_n hx hb dX12_sortOf_35 rfl (lv_at hl 0 rfl) ?_
        refine gs_X12_35_12 E hI ha dX12_sortOf_36 ?_
        refine lv_iload_n hx hb dX12_sortOf_39 rfl (lv_at hl 2 rfl) ?_
        refine lv_iconst (v := 1) hx hb dX12_sortOf_40 (by decide) ?_
        refine lv_iadd hx hb dX12_sortOf_41 ?_
        refine lv_topi (fun z_16 ez_16 => ?_)
        replace hF := q_letX hF ez_16
        have iz_16 := q_addI (A := (94 + 7 * v1.toInt)) (B := 1) ez_16 ir_1 (by decide) (by first | (clear h0 hh ahpσ_2 bhpσ_2 chpσ_2 ir_1 hy hm10 hge10 iz_6 if_7 gc_8_x_4 gc_8_f_7 c_8 iz_13 iz_14 if_15; omega) | omega) (by first | (clear h0 ahpσ_2 bhpσ_2 chpσ_2 ir_1 hy hm10 hge10 iz_6 if_7 gc_8_x_4 gc_8_f_7 c_8 iz_13 iz_14 if_15; omega) | omega)
        refine q_iald E hI (q_tk (k' := 34) hI ha rfl (by decide)) ⟨by decide, rfl⟩ (by first | (clear h0 hh ahpσ_2 bhpσ_2 chpσ_2 ir_1 hy hm10 hge10 iz_6 if_7 gc_8_x_4 gc_8_f_7 c_8 iz_13 iz_14 if_15; omega) | omega) (by rw [q_lnk (v := 4650) hI (q_tk (k' := 34) hI ha rfl (by decide)) rfl (by decide)]; omega) dX12_sortOf_42 ?_
        refine lv_topi (fun f_17 ef_17 => ?_)
        replace hF := q_letX hF ef_17
        have if_17 : f_17.toInt = m_c X σ a ((94 + 7 * v1.toInt) + 1) := m_rd ef_17 iz_16
        have gc_18_f_15 := q_rng f_15
        have gc_18_f_17 := q_rng f_17
        refine q_icmp_ne (A := f_15.toInt) (B := f_17.toInt) E rfl rfl (tgt := 50) dX12_sortOf_43 (by decide) (fun c_18 => ?_) (fun c_18 => ?_)
        · skip
          replace hF := q_ifn hF c_18
          refine lv_iconst (v := 0) hx hb dX12_sortOf_50 (by decide) ?_
          refine lv_iadd hx hb dX12_sortOf_51 ?_
          refine lv_topi (fun z_19 ez_19 => ?_)
          replace hF := q_letX hF ez_19
          have iz_19 := q_addI (A := x_3.toInt) (B := 0) ez_19 rfl (by decide) (by first | (clear h0 hh ahpσ_2 bhpσ_2 chpσ_2 ir_1 hy hm10 iz_6 if_7 gc_8_x_4 gc_8_f_7 c_8 iz_13 iz_14 if_15 iz_16 if_17 gc_18_f_15 gc_18_f_17 c_18; omega) | omega) (by first | (clear h0 hh ahpσ_2 bhpσ_2 chpσ_2 ir_1 hy hm10 iz_6 if_7 gc_8_f_7 c_8 iz_13 if_15 iz_16 if_17 gc_18_f_15 gc_18_f_17 c_18; omega) | omega)
          refine lv_istore_n (lv' := [(3, .int z_19), (0, .ref a), (1, .int v1), (2, .int r_1), (4, .int x_4)]) hx hb dX12_sortOf_52 rfl hl (by decide) rfl (fun ls hl => ?_)
          obtain ⟨z_20, ez_20⟩ : ∃ y : Int32, y = x_4 + 1 := ⟨_, rfl⟩
          replace hF := q_letX hF ez_20
          refine lv_iinc (v := z_20) (lv' := [(4, .int z_20), (3, .int z_19), (0, .ref a), (1, .int v1), (2, .int r_1)]) hx hb dX12_sortOf_53 hl (k := 4) rfl (by rw [ez_20]; rfl) (by decide) rfl (fun ls hl => ?_)
          have iz_20 : z_20.toInt = x_4.toInt + 1 := q_inc ez_20 (by first | (clear h0 hh ahpσ_2 bhpσ_2 chpσ_2 ir_1 hm10 iz_6 gc_8_f_7 iz_13 if_15 iz_16 if_17 gc_18_f_15 gc_18_f_17 c_18 iz_19; omega) | omega)
          refine lv_goto (tgt := 10) hx hb dX12_sortOf_56 (by decide) ?_
          exact ih10 z_19 z_20 _ _ ls (by first | (clear h0 hh ahpσ_2 bhpσ_2 chpσ_2 ir_1 iz_6 gc_8_f_7 iz_13 if_15 iz_16 if_17 gc_18_f_15 gc_18_f_17 iz_19; omega) | omega) (by first | (clear h0 hh ahpσ_2 bhpσ_2 chpσ_2 ir_1 hy hm10 iz_6 if_7 gc_8_f_7 c_8 iz_13 if_15 iz_16 if_17 gc_18_f_15 gc_18_f_17 c_18; omega) | omega) hF hI (lv_sub hl [2, 3, 4, 1, 0] rfl)
        · skip
          replace hF := q_ifp hF c_18
          refine lv_iconst (v := 1) hx hb dX12_sortOf_46 (by decide) ?_
          refine lv_goto (tgt := 51) hx hb dX12_sortOf_47 (by decide) ?_
          refine lv_iadd hx hb dX12_sortOf_51 ?_
          refine lv_topi (fun z_21 ez_21 => ?_)
          replace hF := q_letX hF ez_21
          have iz_21 := q_addI (A := x_3.toInt) (B := 1) ez_21 rfl (by decide) (by first | (clear h0 hh ahpσ_2 bhpσ_2 chpσ_2 ir_1 hy hm10 iz_6 if_7 gc_8_x_4 gc_8_f_7 c_8 iz_13 iz_14 if_15 iz_16 if_17 gc_18_f_15 gc_18_f_17 c_18; omega) | omega) (by first | (clear h0 hh ahpσ_2 bhpσ_2 chpσ_2 ir_1 hm10 iz_6 gc_8_f_7 iz_13 if_15 iz_16 if_17 gc_18_f_15 gc_18_f_17 c_18; omega) | omega)
          refine lv_istore_n (lv' := [(3, .int z_21), (0, .ref a), (1, .int v1), (2, .int r_1), (4, .int x_4)]) hx hb dX12_sortOf_52 rfl hl (by decide) rfl (fun ls hl => ?_)
          obtain ⟨z_22, ez_22⟩ : ∃ y : Int32, y = x_4 + 1 := ⟨_, rfl⟩
          replace hF := q_letX hF ez_22
          refine lv_iinc (v := z_22) (lv' := [(4, .int z_22), (3, .int z_21), (0, .ref a), (1, .int v1), (2, .int r_1)]) hx hb dX12_sortOf_53 hl (k := 4) rfl (by rw [ez_22]; rfl) (by decide) rfl (fun ls hl => ?_)
          have iz_22 : z_22.toInt = x_4.toInt + 1 := q_inc ez_22 (by first | (clear h0 hh ahpσ_2 bhpσ_2 chpσ_2 ir_1 hm10 iz_6 gc_8_f_7 iz_13 if_15 iz_16 if_17 gc_18_f_15 gc_18_f_17 c_18 iz_21; omega) | omega)
          refine lv_goto (tgt := 10) hx hb dX12_sortOf_56 (by decide) ?_
          exact ih10 z_21 z_22 _ _ ls (by first | (clear h0 hh ahpσ_2 bhpσ_2 chpσ_2 ir_1 iz_6 gc_8_f_7 iz_13 if_15 iz_16 if_17 gc_18_f_15 gc_18_f_17 c_18 iz_21; omega) | omega) (by first | (clear h0 hh ahpσ_2 bhpσ_2 chpσ_2 ir_1 hy hm10 iz_6 if_7 gc_8_f_7 c_8 iz_13 if_15 iz_16 if_17 gc_18_f_15 gc_18_f_17 c_18; omega) | omega) hF hI (lv_sub hl [2, 3, 4, 1, 0] rfl)
  have kc_23 : (0 : Int32).toInt = 0 := rfl
  exact L_10_5 ((2147483647 - (0 : Int32).toInt).toNat + 1) 0 0 _ _ ls (Nat.lt_succ_self _) (by decide) hF hI (lv_sub hl [3, 4, 2, 1, 0] rfl)
end
/-! FROM 41.know.a.lean.txt -/
section
section QS
variable {p : Program} {l : Launch} {e : Env} {R : Room} {s : State} {m : MethodId} {args : Array Value} {below : List Frame} {meth : Method} {c : Code} {H : Heap} {locs : List Loc} {cells slots : Nat} {Q : State → Prop} {cc : ByteArray} {X : XW} {n : Nat} {σ0 σ : ST} {H0 : Heap} {pc : Nat} {ls : Array Slot} {rest : List Value} {a : Nat}
theorem kv_X12_302 : q_okV RX12 302 RX12 yX12_inGameOf cX12_inGameOf 4 (some .int) 1 := ⟨(q_in_t8 (i := 159) (by first | rfl | decide +kernel) rfl), (q_in_t8 (i := 161) (by first | rfl | decide +kernel) rfl), (q_in_p (i := 85) (by decide +kernel) rfl), (q_in_t1 (i := 14) (by first | rfl | decide +kernel) rfl), (q_in_t8 (i := 162) (by first | rfl | decide +kernel) rfl), ⟨rfl, by decide, by decide, rfl⟩⟩
theorem kv_X12_333 : q_okV RX12 333 RX12 yX12_knownOf cX12_knownOf 3 (some .int) 2 := ⟨(q_in_t8 (i := 229) (by first | rfl | decide +kernel) rfl), (q_in_t8 (i := 231) (by first | rfl | decide +kernel) rfl), (q_in_p (i := 94) (by decide +kernel) rfl), (q_in_t1 (i := 14) (by first | rfl | decide +kernel) rfl), (q_in_t8 (i := 232) (by first | rfl | decide +kernel) rfl), ⟨rfl, by decide, by decide, rfl⟩⟩
theorem kv_X12_336 : q_okV RX12 336 RX12 yX12_unknownOf cX12_unknownOf 3 (some .int) 2 := ⟨(q_in_t9 (i := 1) (by first | rfl | decide +kernel) rfl), (q_in_t9 (i := 3) (by first | rfl | decide +kernel) rfl), (q_in_p (i := 96) (by decide +kernel) rfl), (q_in_t1 (i := 14) (by first | rfl | decide +kernel) rfl), (q_in_t9 (i := 4) (by first | rfl | decide +kernel) rfl), ⟨rfl, by decide, by decide, rfl⟩⟩
theorem ks_X12_68 : q_okS RX12 68 yJ9_abs_067f4 cJ9_abs_067f4 2 (some .long) 1 := ⟨(q_in_t9 (i := 32) (by first | rfl | decide +kernel) rfl), (q_in_t5 (i := 224) (by first | rfl | decide +kernel) rfl), (q_in_t1 (i := 5) (by first | rfl | decide +kernel) rfl), (q_in_t5 (i := 225) (by first | rfl | decide +kernel) rfl), ⟨by decide, by decide, rfl⟩⟩
theorem ps_X12_65_12 (E : q_E p c cc s m args RX12 X) (hI : q_I X n σ0 H0 locs σ H) (ha : q_kd X a = 12) {v : Int64} (hdg : decode cc pc = .ok (.putfield 65, 3)) (kk : ∀ (H1 : Heap) (locs1 : List Loc) (σ1 : ST), σ1 = q_sl σ a 2 v → q_I X n σ0 H0 locs1 σ1 H1 → W p l e R s m args below meth c H1 locs1 cells slots Q (F0 m (pc + 3) ls rest)) : W p l e R s m args below meth c H locs cells slots Q (F0 m pc ls (.long v :: .ref a :: rest)) :=
  q_putl E hI ha ⟨rfl, by decide⟩ (show vwCl[11]? = some (RX12, TX12, 46) from rfl) q_inX12 tyX12_ok nmX12 (f := 2) (by decide) (q_in_t6 (i := 227) (by first | rfl | decide +kernel) rfl) (Or.inl rfl) rfl rfl rfl hdg (fun H1 l1 h => kk H1 l1 _ rfl h)
theorem ps_X12_7_12 (E : q_E p c cc s m args RX12 X) (hI : q_I X n σ0 H0 locs σ H) (ha : q_kd X a = 12) {v : Int64} (hdg : decode cc pc = .ok (.putfield 7, 3)) (kk : ∀ (H1 : Heap) (locs1 : List Loc) (σ1 : ST), σ1 = q_sl σ a 3 v → q_I X n σ0 H0 locs1 σ1 H1 → W p l e R s m args below meth c H1 locs1 cells slots Q (F0 m (pc + 3) ls rest)) : W p l e R s m args below meth c H locs cells slots Q (F0 m pc ls (.long v :: .ref a :: rest)) :=
  q_putl E hI ha ⟨rfl, by decide⟩ (show vwCl[11]? = some (RX12, TX12, 46) from rfl) q_inX12 tyX12_ok nmX12 (f := 3) (by decide) (q_in_t6 (i := 228) (by first | rfl | decide +kernel) rfl) (Or.inl rfl) rfl rfl rfl hdg (fun H1 l1 h => kk H1 l1 _ rfl h)
theorem kv_X12_319 : q_okV RX12 319 RX12 yX12_behindOf cX12_behindOf 2 (some .int) 1 := ⟨(q_in_t8 (i := 204) (by first | rfl | decide +kernel) rfl), (q_in_t8 (i := 206) (by first | rfl | decide +kernel) rfl), (q_in_p (i := 91) (by decide +kernel) rfl), (q_in_t1 (i := 14) (by first | rfl | decide +kernel) rfl), (q_in_t8 (i := 207) (by first | rfl | decide +kernel) rfl), ⟨rfl, by decide, by decide, rfl⟩⟩
theorem kv_X12_367 : q_okV RX12 367 RX12 yX12_waitsOf cX12_waitsOf 3 (some .int) 1 := ⟨(q_in_t9 (i := 62) (by first | rfl | decide +kernel) rfl), (q_in_t9 (i := 64) (by first | rfl | decide +kernel) rfl), (q_in_p (i := 101) (by decide +kernel) rfl), (q_in_t1 (i := 14) (by first | rfl | decide +kernel) rfl), (q_in_t9 (i := 65) (by first | rfl | decide +kernel) rfl), ⟨rfl, by decide, by decide, rfl⟩⟩
theorem kv_X12_315 : q_okV RX12 315 RX12 yX12_nextKind cX12_nextKind 3 (some .int) 1 := ⟨(q_in_t8 (i := 200) (by first | rfl | decide +kernel) rfl), (q_in_t8 (i := 202) (by first | rfl | decide +kernel) rfl), (q_in_p (i := 90) (by decide +kernel) rfl), (q_in_t1 (i := 14) (by first | rfl | decide +kernel) rfl), (q_in_t8 (i := 203) (by first | rfl | decide +kernel) rfl), ⟨rfl, by decide, by decide, rfl⟩⟩
theorem kv_X12_290 : q_okV RX12 290 RX12 yX12_isPlayerAt cX12_isPlayerAt 2 (some .boolean) 1 := ⟨(q_in_t8 (i := 131) (by first | rfl | decide +kernel) rfl), (q_in_t8 (i := 133) (by first | rfl | decide +kernel) rfl), (q_in_p (i := 80) (by decide +kernel) rfl), (q_in_t1 (i := 14) (by first | rfl | decide +kernel) rfl), (q_in_t8 (i := 134) (by first | rfl | decide +kernel) rfl), ⟨rfl, by decide, by decide, rfl⟩⟩
theorem kv_X12_287 : q_okV RX12 287 RX12 yX12_heapMany cX12_heapMany 3 (some .int) 0 := ⟨(q_in_t8 (i := 120) (by first | rfl | decide +kernel) rfl), (q_in_t8 (i := 122) (by first | rfl | decide +kernel) rfl), (q_in_p (i := 79) (by decide +kernel) rfl), (q_in_t1 (i := 14) (by first | rfl | decide +kernel) rfl), (q_in_t8 (i := 123) (by first | rfl | decide +kernel) rfl), ⟨rfl, by decide, by decide, rfl⟩⟩
theorem kv_X12_293 : q_okV RX12 293 RX12 yX12_cardsOf cX12_cardsOf 4 (some .int) 1 := ⟨(q_in_t8 (i := 135) (by first | rfl | decide +kernel) rfl), (q_in_t8 (i := 137) (by first | rfl | decide +kernel) rfl), (q_in_p (i := 81) (by decide +kernel) rfl), (q_in_t1 (i := 14) (by first | rfl | decide +kernel) rfl), (q_in_t8 (i := 138) (by first | rfl | decide +kernel) rfl), ⟨rfl, by decide, by decide, rfl⟩⟩
end QS
end
