/-! cards laid, taken; another kind -/
theorem m_S_sub {c' c f : Int → Int} {b : Int} {n : Nat} (h : ∀ t : Int, 0 ≤ t → t < (n : Int) → c' (b + t) = c (b + t) - f t) : m_S c' b n = m_S c b n - m_S f 0 n := by
  induction n with
  | zero => rfl
  | succ n ih =>
    show m_S c' b n + c' (b + (n : Int)) = m_S c b n + c (b + (n : Int)) - (m_S f 0 n + f (0 + (n : Int)))
    rw [ih (fun t a b => h t a (by omega)), h (n : Int) (by omega) (by omega), Int.zero_add]
    omega
def m_lo (c0 f : Int → Int) (p : Int) : Prop := m_G c0 ∧ (0 ≤ p ∧ p < 6) ∧ (∀ k : Int, 0 ≤ k → k < 10 → 0 ≤ f k ∧ f k ≤ c0 (34 + 10 * p + k)) ∧ (1 ≤ m_S f 0 10 ∧ m_S f 0 10 ≤ 4)
theorem m_lo.part {c0 f : Int → Int} {p : Int} (h : m_lo c0 f p) (n : Nat) (hn : n ≤ 10) : 0 ≤ m_S f 0 n ∧ m_S f 0 n ≤ m_S f 0 10 := by
  have a : ∀ b : Int, 0 ≤ b → ∀ m : Nat, b + (m : Int) ≤ 10 → 0 ≤ m_S f b m := fun b hb m hm => m_S_nn (fun j x y => (h.2.2.1 j (by omega) (by omega)).1)
  have w := m_S_add f 0 n (10 - n)
  have e : n + (10 - n) = 10 := by omega
  rw [e] at w
  have z := a (0 + (n : Int)) (by omega) (10 - n) (by omega)
  have z2 := a 0 (by omega) n (by omega)
  omega
theorem m_lo.c9 {c0 f : Int → Int} {p : Int} (h : m_lo c0 f p) : 0 ≤ c0 9 ∧ c0 9 ≤ 79 := by
  have g := h.1
  have b := g.hd.2.2.2.2.2.2.1
  have t := g.tot
  have l := (g.Lle (c0 9).toNat (by omega)).1
  have s := g.Shand h.2.1.1 h.2.1.2 (n := 10) (by omega)
  have q : m_S f 0 10 ≤ m_S c0 (34 + 10 * p) 10 := by
    have d := m_S_sub (c' := fun j => c0 j - f (j - (34 + 10 * p))) (c := c0) (f := f) (b := 34 + 10 * p) (n := 10) (fun t a b => by
      have e : 34 + 10 * p + t - (34 + 10 * p) = t := by omega
      show c0 (34 + 10 * p + t) - f (34 + 10 * p + t - (34 + 10 * p)) = _
      rw [e])
    have z : 0 ≤ m_S (fun j => c0 j - f (j - (34 + 10 * p))) (34 + 10 * p) 10 := m_S_nn (fun j x y => by
      have w := h.2.2.1 (j - (34 + 10 * p)) (by omega) (by omega)
      have e : 34 + 10 * p + (j - (34 + 10 * p)) = j := by omega
      rw [e] at w
      show 0 ≤ c0 j - f (j - (34 + 10 * p))
      omega)
    omega
  have u := h.2.2.2.1
  omega
theorem m_lo.kind {c0 f : Int → Int} {p k : Int} (h : m_lo c0 f p) (h0 : 0 ≤ k) (h1 : k < 10) (h2 : 0 < f k) : k < c0 0 := by
  have a := h.2.2.1 k h0 h1
  have b := (h.1.2.1 p k h.2.1.1 h.2.1.2 h0 h1).2
  by_cases q : c0 0 ≤ k
  · have := b q
    omega
  · omega
def m_ld (c0 c f : Int → Int) (p k i : Int) : Prop :=
  (∀ j : Int, 0 ≤ j → ¬ (34 + 10 * p ≤ j ∧ j < 34 + 10 * p + k) → ¬ (94 + 7 * c0 9 ≤ j ∧ j < 101 + 7 * c0 9) → c j = c0 j) ∧ (∀ t : Int, 0 ≤ t → t < k → c (34 + 10 * p + t) = c0 (34 + 10 * p + t) - f t) ∧ c (94 + 7 * c0 9) = p ∧ ∀ t : Int, 0 ≤ t → t < m_S f 0 k.toNat + i → 0 ≤ c (94 + 7 * c0 9 + 3 + t) ∧ c (94 + 7 * c0 9 + 3 + t) < c0 0
theorem m_ld.start {c0 c1 c f : Int → Int} {p v w : Int} (h : m_lo c0 f p) (e1 : ∀ j : Int, 0 ≤ j → c1 j = if j = 94 + 7 * c0 9 then w else c0 j) (hw : w = p) (e : ∀ j : Int, 0 ≤ j → c j = if j = 94 + 7 * c0 9 + 1 then v else c1 j) : m_ld c0 c f p 0 0 := by
  have b := h.c9
  refine ⟨fun j h0 h1 h2 => ?_, fun t h0 h1 => by omega, ?_, fun t h0 h1 => ?_⟩
  · rw [e j h0, if_neg (by omega), e1 j h0, if_neg (by omega)]
  · rw [e _ (by omega), if_neg (by omega), e1 _ (by omega), if_pos rfl, hw]
  · have z : m_S f 0 (0 : Int).toNat = 0 := rfl
    omega
theorem m_ld.card {c0 c c' f : Int → Int} {p k i n v : Int} (h : m_ld c0 c f p k i) (hl : m_lo c0 f p) (hk : 0 ≤ k ∧ k < 10) (hi : 0 ≤ i ∧ i < f k) (e : ∀ j : Int, 0 ≤ j → c' j = if j = 94 + 7 * c0 9 + 3 + n then v else c j) (hv : v = k) (hn : n = m_S f 0 k.toNat + i) : m_ld c0 c' f p k (i + 1) := by
  have b := hl.c9
  have u := hl.part k.toNat (by omega)
  have u2 := hl.part (k + 1).toNat (by omega)
  rw [m_S_succ _ _ _ hk.1, Int.zero_add] at u2
  have u3 := hl.2.2.2
  have kc := hl.kind hk.1 hk.2 (by omega)
  obtain ⟨h1, h2, h3, h4⟩ := h
  refine ⟨fun j a0 a1 a2 => ?_, fun t a0 a1 => ?_, ?_, fun t a0 a1 => ?_⟩
  · rw [e j a0, if_neg (by omega)]; exact h1 j a0 a1 a2
  · rw [e _ (by have := hl.2.1; omega), if_neg (by have := hl.2.1; omega)]; exact h2 t a0 a1
  · rw [e _ (by omega), if_neg (by omega)]; exact h3
  · rw [e _ (by omega)]
    by_cases q : t = n
    · rw [if_pos (by omega), hv]
      exact ⟨hk.1, kc⟩
    · rw [if_neg (by omega)]
      exact h4 t a0 (by omega)
theorem m_ld.hand {c0 c c' f : Int → Int} {p k i v : Int} (h : m_ld c0 c f p k i) (hl : m_lo c0 f p) (hk : 0 ≤ k ∧ k < 10) (hi : i = f k) (e : ∀ j : Int, 0 ≤ j → c' j = if j = 34 + 10 * p + k then v else c j) (hv : v = c (34 + 10 * p + k) - f k) : m_ld c0 c' f p (k + 1) 0 := by
  have b := hl.c9
  have hp := hl.2.1
  obtain ⟨h1, h2, h3, h4⟩ := h
  refine ⟨fun j a0 a1 a2 => ?_, fun t a0 a1 => ?_, ?_, fun t a0 a1 => ?_⟩
  · rw [e j a0, if_neg (by omega)]; exact h1 j a0 (by omega) a2
  · rw [e _ (by omega)]
    by_cases q : t = k
    · subst q
      rw [if_pos rfl, hv, h1 _ (by omega) (by omega) (by omega)]
    · rw [if_neg (by omega)]; exact h2 t a0 (by omega)
  · rw [e _ (by omega), if_neg (by omega)]; exact h3
  · rw [e _ (by omega), if_neg (by omega)]
    rw [m_S_succ _ _ _ hk.1, Int.zero_add] at a1
    exact h4 t a0 (by omega)
theorem m_ld.done {c0 c c1 c2 c' f : Int → Int} {p T v9 v7 : Int} (h : m_ld c0 c f p 10 0) (hl : m_lo c0 f p) (h6 : c0 6 = p) (hT : T = m_S f 0 10) (e1 : ∀ j : Int, 0 ≤ j → c1 j = if j = 94 + 7 * c0 9 + 2 then T else c j) (e2 : ∀ j : Int, 0 ≤ j → c2 j = if j = 9 then v9 else c1 j) (h9 : v9 = c0 9 + 1) (e : ∀ j : Int, 0 ≤ j → c' j = if j = 7 then v7 else c2 j) (h7 : v7 = 1) :
    m_G c' ∧ (∀ j : Int, 0 ≤ j → (j < 7 ∨ j = 8 ∨ (10 ≤ j ∧ j < 34) ∨ 654 ≤ j) → c' j = c0 j) ∧ c' 9 = c0 9 + 1 ∧ c' 7 = 1 ∧ c' 6 = p := by
  have b := hl.c9
  have hp := hl.2.1
  have ho := hl.2.2.1
  have hs := hl.2.2.2
  have g := hl.1
  have hd := g.hd
  obtain ⟨h1, h2, h3, h4⟩ := h
  have q : ∀ j : Int, 0 ≤ j → j ≠ 7 → j ≠ 9 → ¬ (34 + 10 * p ≤ j ∧ j < 44 + 10 * p) → ¬ (94 + 7 * c0 9 ≤ j ∧ j < 101 + 7 * c0 9) → c' j = c0 j := by
    intro j a0 a1 a2 a3 a4
    rw [e j a0, if_neg a1, e2 j a0, if_neg a2, e1 j a0, if_neg (by omega)]
    exact h1 j a0 (by omega) a4
  have qw : ∀ j : Int, 0 ≤ j → j ≠ 7 → j ≠ 9 → j ≠ 94 + 7 * c0 9 + 2 → c' j = c j := by
    intro j a0 a1 a2 a3
    rw [e j a0, if_neg a1, e2 j a0, if_neg a2, e1 j a0, if_neg a3]
  have qh : ∀ t : Int, 0 ≤ t → t < 10 → c' (34 + 10 * p + t) = c0 (34 + 10 * p + t) - f t := by
    intro t a0 a1
    rw [qw _ (by omega) (by omega) (by omega) (by omega)]
    exact h2 t a0 a1
  have e9 : c' 9 = c0 9 + 1 := by rw [e 9 (by decide), if_neg (by decide), e2 9 (by decide), if_pos rfl, h9]
  have e7 : c' 7 = 1 := by rw [e 7 (by decide), if_pos rfl, h7]
  have eT : c' (94 + 7 * c0 9 + 2) = T := by rw [e _ (by omega), if_neg (by omega), e2 _ (by omega), if_neg (by omega), e1 _ (by omega), if_pos rfl]
  have eb : c' (94 + 7 * c0 9) = p := by rw [qw _ (by omega) (by omega) (by omega) (by omega)]; exact h3
  have r : ∀ j : Int, 0 ≤ j → (j < 7 ∨ j = 8 ∨ (10 ≤ j ∧ j < 34) ∨ 654 ≤ j) → c' j = c0 j := fun j a0 a1 => q j a0 (by omega) (by omega) (by omega) (by omega)
  have e0 : c' 0 = c0 0 := r 0 (by decide) (by decide)
  have e6 : c' 6 = c0 6 := r 6 (by decide) (by decide)
  obtain ⟨gH, gD, gY, gT, gO, gQ⟩ := g
  refine ⟨⟨?_, ?_, ?_, ?_, ?_, ?_⟩, r, e9, e7, e6.trans h6⟩
  · unfold m_H
    rw [e0, r 2 (by decide) (by decide), r 4 (by decide) (by decide), r 5 (by decide) (by decide), e6, e7, e9]
    omega
  · intro p' k a0 a1 a2 a3
    rw [e0]
    by_cases w : p' = p
    · subst w
      have z := gD p' k a0 a1 a2 a3
      have o := ho k a2 a3
      rw [qh k a2 a3]
      refine ⟨by omega, fun y => ?_⟩
      have := z.2 y
      omega
    · rw [q _ (by omega) (by omega) (by omega) (by omega) (by omega)]
      exact gD p' k a0 a1 a2 a3
  · intro i a0 a1
    rw [e9] at a1
    rw [e0]
    by_cases w : i = c0 9
    · subst w
      rw [eT]
      refine ⟨by omega, fun t t0 t1 => ?_⟩
      rw [qw _ (by omega) (by omega) (by omega) (by omega)]
      have z : m_S f 0 (10 : Int).toNat = m_S f 0 10 := rfl
      exact h4 t t0 (by omega)
    · have y := gY i a0 (by omega)
      rw [q (94 + 7 * i + 2) (by omega) (by omega) (by omega) (by omega) (by omega)]
      refine ⟨y.1, fun t t0 t1 => ?_⟩
      rw [q (94 + 7 * i + 3 + t) (by omega) (by omega) (by omega) (by omega) (by omega)]
      exact y.2 t t0 t1
  · unfold m_T at gT ⊢
    have s := m_S_hand (c := c0) (c' := c') hp (fun j a0 a1 a2 => q j (by omega) (by omega) (by omega) (by omega) (by omega))
    have s2 := m_S_sub (c' := c') (c := c0) (f := f) (b := 34 + 10 * p) (n := 10) (fun t a0 a1 => qh t a0 (by omega))
    rw [e9, m_L_succ _ _ b.1, eT, m_L_ext (c := c0) (c' := c') (fun i a0 a1 => q _ (by omega) (by omega) (by omega) (by omega) (by omega))]
    omega
  · intro _
    rw [e9, e6]
    have z : (94 : Int) + 7 * (c0 9 + 1 - 1) = 94 + 7 * c0 9 := by omega
    rw [z, eb, h6]
  · have e5 : c' 655 = c0 655 := r 655 (by decide) (by decide)
    have b5 := gQ.1
    refine ⟨by rw [e5]; exact gQ.1, fun s a0 a1 => ?_⟩
    rw [e5] at a1 ⊢
    exact (gQ.2 s a0 a1).ext (fun j x y => r j (by omega) (by omega))
/-! taking the heap -/
def m_tk (c0 c : Int → Int) (p k i : Int) : Prop :=
  (∀ j : Int, 0 ≤ j → ¬ (34 + 10 * p ≤ j ∧ j < 44 + 10 * p) → c j = c0 j) ∧ (∀ t : Int, 0 ≤ t → t < 10 → 0 ≤ c (34 + 10 * p + t) ∧ (c0 0 ≤ t → c (34 + 10 * p + t) = 0)) ∧ m_S c (34 + 10 * p) 10 = m_S c0 (34 + 10 * p) 10 + m_L c0 k.toNat + i
theorem m_tk.start {c0 : Int → Int} {p : Int} (g : m_G c0) (hp : 0 ≤ p ∧ p < 6) : m_tk c0 c0 p 0 0 := by
  refine ⟨fun _ _ _ => rfl, fun t a b => g.2.1 p t hp.1 hp.2 a b, ?_⟩
  have z : m_L c0 (0 : Int).toNat = 0 := rfl
  omega
theorem m_tk.card {c0 c c' : Int → Int} {p k i d v : Int} (h : m_tk c0 c p k i) (hp : 0 ≤ p ∧ p < 6) (hd : 0 ≤ d ∧ d < c0 0) (h10 : c0 0 ≤ 10) (e : ∀ j : Int, 0 ≤ j → c' j = if j = 34 + 10 * p + d then v else c j) (hv : v = c (34 + 10 * p + d) + 1) : m_tk c0 c' p k (i + 1) := by
  obtain ⟨h1, h2, h3⟩ := h
  refine ⟨fun j a0 a1 => ?_, fun t a0 a1 => ?_, ?_⟩
  · rw [e j a0, if_neg (by omega)]; exact h1 j a0 a1
  · rw [e _ (by omega)]
    have z := h2 t a0 a1
    by_cases q : t = d
    · subst q
      rw [if_pos rfl, hv]
      exact ⟨by omega, fun y => by omega⟩
    · rw [if_neg (by omega)]; exact z
  · rw [m_S_upd (c := c) (c' := c') (A := 34 + 10 * p + d) (v := v) (fun j a0 a1 => e j (by omega)) (by omega) (by omega), h3, hv]
    omega
theorem m_tk.lay {c0 c : Int → Int} {p k i : Int} (h : m_tk c0 c p k i) (hk : 0 ≤ k) (hi : i = c0 (94 + 7 * k + 2)) : m_tk c0 c p (k + 1) 0 := by
  obtain ⟨h1, h2, h3⟩ := h
  refine ⟨h1, h2, ?_⟩
  rw [h3, m_L_succ _ _ hk, hi]
  omega
theorem m_tk.done {c0 c c' : Int → Int} {p v : Int} (h : m_tk c0 c p (c0 9) 0) (g : m_G c0) (hp : 0 ≤ p ∧ p < 6) (h7 : c0 7 = 0) (e : ∀ j : Int, 0 ≤ j → c' j = if j = 9 then v else c j) (hv : v = 0) :
    m_G c' ∧ (∀ j : Int, 0 ≤ j → (j < 9 ∨ (10 ≤ j ∧ j < 34) ∨ 654 ≤ j) → c' j = c0 j) ∧ c' 9 = 0 := by
  have hd := g.hd
  obtain ⟨h1, h2, h3⟩ := h
  have q : ∀ j : Int, 0 ≤ j → j ≠ 9 → ¬ (34 + 10 * p ≤ j ∧ j < 44 + 10 * p) → c' j = c0 j := by
    intro j a0 a1 a2
    rw [e j a0, if_neg a1]; exact h1 j a0 a2
  have e9 : c' 9 = 0 := by rw [e 9 (by decide), if_pos rfl, hv]
  have r : ∀ j : Int, 0 ≤ j → (j < 9 ∨ (10 ≤ j ∧ j < 34) ∨ 654 ≤ j) → c' j = c0 j := fun j a0 a1 => q j a0 (by omega) (by omega)
  have e0 : c' 0 = c0 0 := r 0 (by decide) (by decide)
  obtain ⟨gH, gD, gY, gT, gO, gQ⟩ := g
  refine ⟨⟨?_, ?_, ?_, ?_, ?_, ?_⟩, r, e9⟩
  · unfold m_H
    rw [e0, r 2 (by decide) (by decide), r 4 (by decide) (by decide), r 5 (by decide) (by decide), r 6 (by decide) (by decide), r 7 (by decide) (by decide), e9]
    omega
  · intro p' k a0 a1 a2 a3
    rw [e0]
    by_cases w : p' = p
    · subst w
      rw [e _ (by omega), if_neg (by omega)]
      exact h2 k a2 a3
    · rw [q _ (by omega) (by omega) (by omega)]
      exact gD p' k a0 a1 a2 a3
  · intro i a0 a1
    rw [e9] at a1
    omega
  · unfold m_T at gT ⊢
    have s := m_S_hand (c := c0) (c' := c') hp (fun j a0 a1 a2 => q j (by omega) (by omega) (by omega))
    have s2 : m_S c' (34 + 10 * p) 10 = m_S c (34 + 10 * p) 10 := m_S_ext (fun j a0 a1 => by rw [e j (by omega), if_neg (by omega)])
    have z : m_L c' (0 : Int).toNat = 0 := rfl
    rw [e9, z]
    omega
  · intro w
    rw [r 7 (by decide) (by decide)] at w
    omega
  · have e5 : c' 655 = c0 655 := r 655 (by decide) (by decide)
    have b5 := gQ.1
    refine ⟨by rw [e5]; exact gQ.1, fun s a0 a1 => ?_⟩
    rw [e5] at a1 ⊢
    exact (gQ.2 s a0 a1).ext (fun j x y => r j (by omega) (by omega))
/-! another kind: b the best of the kinds below k -/
def m_ok (c : Int → Int) (p b k : Int) : Prop := (b = -1 ∧ ∀ t : Int, 0 ≤ t → t < k → t ≠ c 5 → c (34 + 10 * p + t) ≤ 0) ∨ (0 ≤ b ∧ b < k ∧ b ≠ c 5 ∧ 1 ≤ c (34 + 10 * p + b))
theorem m_ok.start (c : Int → Int) (p : Int) : m_ok c p (-1) 0 := Or.inl ⟨rfl, fun t a b => by omega⟩
theorem m_ok.skip {c : Int → Int} {p b k : Int} (h : m_ok c p b k) (hk : k = c 5 ∨ c (34 + 10 * p + k) ≤ 0) : m_ok c p b (k + 1) := by
  rcases h with ⟨h1, h2⟩ | ⟨h1, h2, h3, h4⟩
  · refine Or.inl ⟨h1, fun t a0 a1 a2 => ?_⟩
    by_cases q : t = k
    · subst q
      rcases hk with w | w
      · exact absurd w a2
      · exact w
    · exact h2 t a0 (by omega) a2
  · exact Or.inr ⟨h1, by omega, h3, h4⟩
theorem m_ok.old {c : Int → Int} {p b k : Int} (h : m_ok c p b k) (hb : 0 ≤ b) : m_ok c p b (k + 1) := by
  rcases h with ⟨h1, h2⟩ | ⟨h1, h2, h3, h4⟩
  · omega
  · exact Or.inr ⟨h1, by omega, h3, h4⟩
theorem m_ok.set {c : Int → Int} {p k : Int} (h0 : 0 ≤ k) (h5 : k ≠ c 5) (h1 : 1 ≤ c (34 + 10 * p + k)) : m_ok c p k (k + 1) := Or.inr ⟨h0, by omega, h5, h1⟩
/-- with cards, but none of the kind to be said, there is another kind -/
theorem m_ok.some {c : Int → Int} {p b : Int} (h : m_ok c p b (c 0)) (g : m_G c) (hp : 0 ≤ p ∧ p < 6) (hs : m_S c (34 + 10 * p) 10 ≠ 0) (h5 : c (34 + 10 * p + c 5) ≤ 0) : 0 ≤ b := by
  rcases h with ⟨h1, h2⟩ | ⟨h1, h2⟩
  · exfalso
    refine hs ?_
    have z : ∀ t : Int, 0 ≤ t → t < 10 → c (34 + 10 * p + t) = 0 := by
      intro t a0 a1
      have d := g.2.1 p t hp.1 hp.2 a0 a1
      by_cases q : c 0 ≤ t
      · exact d.2 q
      · by_cases w : t = c 5
        · subst w
          omega
        · have := h2 t a0 (by omega) w
          omega
    have y : ∀ n : Nat, n ≤ 10 → m_S c (34 + 10 * p) n = 0 := by
      intro n hn
      induction n with
      | zero => rfl
      | succ n ih =>
        show m_S c (34 + 10 * p) n + c (34 + 10 * p + (n : Int)) = 0
        rw [ih (by omega), z _ (by omega) (by omega)]
        rfl
    exact y 10 (by omega)
  · exact h1
theorem m_tk.le {c0 c : Int → Int} {p k i : Int} (h : m_tk c0 c p k i) (g : m_G c0) (hp : 0 ≤ p ∧ p < 6) (hk : 0 ≤ k ∧ k ≤ c0 9) (hi : 0 ≤ i ∧ i ≤ 4) (j : Int) (h0 : 34 + 10 * p ≤ j) (h1 : j < 44 + 10 * p) : 0 ≤ c j ∧ c j ≤ 84 := by
  obtain ⟨_, h2, h3⟩ := h
  have nn : ∀ j : Int, 34 + 10 * p ≤ j → j < 44 + 10 * p → 0 ≤ c j := by
    intro j a b
    have z := (h2 (j - (34 + 10 * p)) (by omega) (by omega)).1
    have e : 34 + 10 * p + (j - (34 + 10 * p)) = j := by omega
    rw [e] at z
    exact z
  have a := m_S_ge (c := c) (b := 34 + 10 * p) (A := j) (n := 10) (fun j a b => nn j a (by omega)) h0 (by omega)
  have l := g.Lall hk.1 hk.2
  have s := g.Shand hp.1 hp.2 (n := 10) (by omega)
  have t := g.tot
  have z := nn j h0 h1
  omega
/-- the array of cards to be laid -/
def m_of (σ : ST) (r : Nat) (j : Int) : Int := (σ.1 r j.toNat).toInt
theorem m_ofw {σ σ' : ST} {r : Nat} {i v : Int32} {A : Int} (e : σ' = q_si σ r i.toNatClampNeg v) (h : i.toInt = A) (h0 : 0 ≤ A) : ∀ j : Int, 0 ≤ j → m_of σ' r j = if j = A then v.toInt else m_of σ r j := by
  subst h
  intro j hj
  unfold m_of
  by_cases q : j = i.toInt
  · subst q
    rw [if_pos rfl]
    exact congrArg Int32.toInt (q_rd e)
  · rw [if_neg q]
    refine congrArg Int32.toInt (q_rdn e (Or.inr ?_))
    show j.toNat ≠ i.toInt.toNat
    omega
theorem m_ofo {σ σ' : ST} {r b f : Nat} {v : Int32} (e : σ' = q_si σ b f v) (h : r ≠ b) (j : Int) : m_of σ' r j = m_of σ r j := congrArg Int32.toInt (q_rdn e (Or.inl h))
/-- one kind laid -/
def m_l1 (f : Int → Int) (k n : Int) : Prop := ∀ j : Int, 0 ≤ j → j < 10 → f j = if j = k then n else 0
theorem m_l1.mk {f0 f : Int → Int} {k n v : Int} (z : ∀ j : Int, 0 ≤ j → j < 10 → f0 j = 0) (e : ∀ j : Int, 0 ≤ j → f j = if j = k then v else f0 j) (hv : v = n) : m_l1 f k n := by
  intro j a b
  rw [e j a, z j a b, hv]
theorem m_l1.ext {f f' : Int → Int} {k n : Int} (h : m_l1 f k n) (e : ∀ j : Int, f' j = f j) : m_l1 f' k n := fun j a b => by rw [e j]; exact h j a b
theorem m_S_zero {f : Int → Int} {n : Nat} (h : ∀ j : Int, 0 ≤ j → j < (n : Int) → f j = 0) : m_S f 0 n = 0 := by
  induction n with
  | zero => rfl
  | succ n ih =>
    show m_S f 0 n + f (0 + (n : Int)) = 0
    rw [ih (fun j a b => h j a (by omega)), h _ (by omega) (by omega)]
    rfl
theorem m_l1.sum {f : Int → Int} {k n : Int} (h : m_l1 f k n) (hk : 0 ≤ k ∧ k < 10) : m_S f 0 10 = n := by
  have w := m_S_upd (c := fun _ => 0) (c' := f) (b := 0) (A := k) (v := n) (n := 10) (fun j a b => h j a (by omega)) hk.1 (by omega)
  rw [m_S_zero (f := fun _ => (0 : Int)) (fun _ _ _ => rfl)] at w
  omega
theorem m_lo.one {c f : Int → Int} {p n : Int} (g : m_G c) (hp : 0 ≤ p ∧ p < 6) (h : m_l1 f (c 5) n) (hn : 1 ≤ n ∧ n ≤ 4) (hh : n ≤ c (34 + 10 * p + c 5)) : m_lo c f p := by
  have b := g.hd
  refine ⟨g, hp, fun k a0 a1 => ?_, by rw [h.sum (by omega)]; exact hn⟩
  have z := g.hand0 (j := 34 + 10 * p + k) (by omega) (by omega)
  rw [h k a0 a1]
  by_cases q : k = c 5
  · rw [if_pos q, q]
    omega
  · rw [if_neg q]
    omega
theorem m_lo.two {c f f2 : Int → Int} {p n o v : Int} (g : m_G c) (hp : 0 ≤ p ∧ p < 6) (h : m_l1 f (c 5) n) (e : ∀ j : Int, 0 ≤ j → f2 j = if j = o then v else f j) (hv : v = f o + 1) (hn : 0 ≤ n ∧ n ≤ 3) (hh : n ≤ c (34 + 10 * p + c 5)) (ho : 0 ≤ o ∧ o < 10) (h5 : o ≠ c 5) (h1 : 1 ≤ c (34 + 10 * p + o)) : m_lo c f2 p := by
  have b := g.hd
  have fo : f o = 0 := by rw [h o ho.1 ho.2, if_neg h5]
  have w := m_S_upd (c := f) (c' := f2) (b := 0) (A := o) (v := v) (n := 10) (fun j a b => e j a) ho.1 (by omega)
  rw [h.sum (by omega)] at w
  refine ⟨g, hp, fun k a0 a1 => ?_, by omega⟩
  have z := g.hand0 (j := 34 + 10 * p + k) (by omega) (by omega)
  rw [e k a0]
  by_cases q : k = o
  · rw [if_pos q, q]
    omega
  · rw [if_neg q, h k a0 a1]
    by_cases y : k = c 5
    · rw [if_pos y, y]
      omega
    · rw [if_neg y]
      omega
theorem m_W.shown {c c' : Int → Int} {n q v : Int} (h : m_W c n) (e : ∀ j : Int, 0 ≤ j → c' j = if j = 22 + q then v else c j) (hq : 0 ≤ q ∧ q < 6) (hv : v = c (22 + q) + 1) : m_W c' (n + 1) := by
  intro p h0 h1
  have w := h p h0 h1
  rw [e (28 + p) (by omega), if_neg (by omega), e (22 + p) (by omega)]
  by_cases z : p = q
  · subst z
    rw [if_pos rfl]
    omega
  · rw [if_neg (by omega)]
    omega
theorem m_W.lied {c c' : Int → Int} {n q v : Int} (h : m_W c n) (e : ∀ j : Int, 0 ≤ j → c' j = if j = 28 + q then v else c j) (hq : 0 ≤ q ∧ q < 6) (hv : 0 ≤ v ∧ v ≤ c (22 + q)) : m_W c' n := by
  intro p h0 h1
  have w := h p h0 h1
  rw [e (28 + p) (by omega), e (22 + p) (by omega), if_neg (by omega : ¬ 22 + p = 28 + q)]
  by_cases z : p = q
  · subst z
    rw [if_pos rfl]
    omega
  · rw [if_neg (by omega)]
    omega
