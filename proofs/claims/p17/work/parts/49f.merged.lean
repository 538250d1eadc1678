/-! FROM 49f.rglay.lean.txt -/
/-! CARDS LAID DOWN: the games stay the same -/
theorem gm_Kx {c c' : Int → Int} {w k : Int} {n : Nat} (h : ∀ j : Int, w + 3 ≤ j → j < w + 3 + (n : Int) → c' j = c j) : m_K c' w k n = m_K c w k n := by
  induction n with
  | zero => rfl
  | succ n ih =>
    show m_K c' w k n + (if k < 0 ∨ c' (w + 3 + (n : Int)) = k then 1 else 0) = m_K c w k n + (if k < 0 ∨ c (w + 3 + (n : Int)) = k then 1 else 0)
    rw [ih (fun j a b => h j a (by omega)), h _ (by omega) (by omega)]
/-- the layings below n are the same -/
theorem gm_Lx {c c' : Int → Int} {n : Nat} (h4 : ∀ i : Int, 0 ≤ i → i < (n : Int) → c (94 + 7 * i + 2) ≤ 4) (h : ∀ j : Int, 94 ≤ j → j < 94 + 7 * (n : Int) → c' j = c j) : m_L c' n = m_L c n ∧ ∀ p k : Int, m_A c' p k n = m_A c p k n := by
  induction n with
  | zero => exact ⟨rfl, fun _ _ => rfl⟩
  | succ n ih =>
    obtain ⟨i1, i2⟩ := ih (fun i a b => h4 i a (by omega)) (fun j a b => h j a (by omega))
    have s4 := h4 (n : Int) (by omega) (by omega)
    refine ⟨?_, fun p k => ?_⟩
    · show m_L c' n + c' (94 + 7 * (n : Int) + 2) = m_L c n + c (94 + 7 * (n : Int) + 2)
      rw [i1, h _ (by omega) (by omega)]
    · show m_A c' p k n + (if 0 ≤ p ∧ c' (94 + 7 * (n : Int)) ≠ p then 0 else m_K c' (94 + 7 * (n : Int)) k (c' (94 + 7 * (n : Int) + 2)).toNat) = m_A c p k n + (if 0 ≤ p ∧ c (94 + 7 * (n : Int)) ≠ p then 0 else m_K c (94 + 7 * (n : Int)) k (c (94 + 7 * (n : Int) + 2)).toNat)
      rw [i2 p k, h _ (by omega) (by omega), h (94 + 7 * (n : Int) + 2) (by omega) (by omega), gm_Kx (c := c) (fun j a b => h j (by omega) (by omega))]
theorem gl_K {c l : Int → Int} {w k : Int} (nn : ∀ t : Int, 0 ≤ t → t < 10 → 0 ≤ l t) (hk : 0 ≤ k ∧ k < 10) (hq : ∀ t q : Int, 0 ≤ t → t < 10 → m_S l 0 t.toNat ≤ q → q < m_S l 0 t.toNat + l t → c (w + 3 + q) = t) (t : Nat) (ht : t ≤ 10) : m_K c w k (m_S l 0 t).toNat = if k < (t : Int) then l k else 0 := by
  induction t with
  | zero =>
    rw [if_neg (by omega)]
    rfl
  | succ t ih =>
    have i1 := ih (by omega)
    have et : ((t : Int)).toNat = t := by omega
    have lt := nn (t : Int) (by omega) (by omega)
    have s0 : 0 ≤ m_S l 0 t := m_S_nn (fun j a b => nn j a (by omega))
    have hs : m_S l 0 (t + 1) = m_S l 0 t + l (t : Int) := by
      show m_S l 0 t + l (0 + (t : Int)) = _
      rw [Int.zero_add]
    have st : ∀ i : Nat, (i : Int) ≤ l (t : Int) → m_K c w k ((m_S l 0 t).toNat + i) = m_K c w k (m_S l 0 t).toNat + (if (t : Int) = k then (i : Int) else 0) := by
      intro i
      induction i with
      | zero =>
        intro _
        show m_K c w k (m_S l 0 t).toNat = _
        split <;> omega
      | succ i ih2 =>
        intro hi
        have i2 := ih2 (by omega)
        have hc := hq (t : Int) (m_S l 0 t + (i : Int)) (by omega) (by omega) (by rw [et]; omega) (by rw [et]; omega)
        have ec : (((m_S l 0 t).toNat + i : Nat) : Int) = m_S l 0 t + (i : Int) := by omega
        show m_K c w k ((m_S l 0 t).toNat + i) + (if k < 0 ∨ c (w + 3 + (((m_S l 0 t).toNat + i : Nat) : Int)) = k then 1 else 0) = _
        rw [i2, ec, hc]
        by_cases q : (t : Int) = k
        · rw [if_pos q, if_pos q, if_pos (Or.inr q)]; omega
        · rw [if_neg q, if_neg q, if_neg (by omega)]; omega
    have hf := st (l (t : Int)).toNat (by omega)
    have es : (m_S l 0 (t + 1)).toNat = (m_S l 0 t).toNat + (l (t : Int)).toNat := by omega
    rw [es, hf, i1]
    by_cases q : (t : Int) = k
    · rw [if_pos q, if_neg (by omega), if_pos (by omega), ← q]; omega
    · rw [if_neg q]
      by_cases q2 : k < (t : Int)
      · rw [if_pos q2, if_pos (by omega)]; omega
      · rw [if_neg q2, if_neg (by omega)]; rfl
theorem gl_P {c c' l : Int → Int} {p k : Int} (hp : 0 ≤ p) (h1 : c' (34 + 10 * p + k) = c (34 + 10 * p + k) - l k) (h2 : ∀ q : Int, 0 ≤ q → q < 6 → q ≠ p → c' (34 + 10 * q + k) = c (34 + 10 * q + k)) (n : Nat) (hn : n ≤ 6) : m_P c' k n = m_P c k n - (if p < (n : Int) then l k else 0) := by
  induction n with
  | zero =>
    rw [if_neg (by omega)]
    rfl
  | succ n ih =>
    have i1 := ih (by omega)
    show m_P c' k n + c' (34 + 10 * (n : Int) + k) = m_P c k n + c (34 + 10 * (n : Int) + k) - _
    rw [i1]
    by_cases q : (n : Int) = p
    · rw [q, h1, if_neg (by omega), if_pos (by omega)]; omega
    · rw [h2 (n : Int) (by omega) (by omega) q]
      by_cases q2 : p < (n : Int)
      · rw [if_pos q2, if_pos (by omega)]; omega
      · rw [if_neg q2, if_neg (by omega)]; omega
theorem gl_cut {l : Int → Int} (n m : Nat) (h : ∀ t : Int, (n : Int) ≤ t → t < ((n + m : Nat) : Int) → l t = 0) : m_S l 0 (n + m) = m_S l 0 n := by
  induction m with
  | zero => rfl
  | succ m ih =>
    show m_S l 0 (n + m) + l (0 + ((n + m : Nat) : Int)) = _
    rw [ih (fun t a b => h t a (by omega)), h _ (by omega) (by omega)]
    omega
theorem rg.lay {V V' : Nat → Int → Int} {c c' l : Int → Int} {p : Int} (R : rg V c) (hl : m_lo c l p) (h6 : c 6 = p) (v : gl_v V V' l p (c 9) (c 0)) (r : gl_r c c' l p) : rg (y_up V' 0 7 1) c' := by
  have b9 := hl.c9
  have hp := hl.2.1
  have hG := hl.1
  obtain ⟨b0, b2, b4, b5, b6, b7, b9', b79⟩ := hG.1
  have nn : ∀ t : Int, 0 ≤ t → t < 10 → 0 ≤ l t := fun t a b => (hl.2.2.1 t a b).1
  have zl : ∀ t : Int, c 0 ≤ t → t < 10 → l t = 0 := fun t a b => by
    have z := hl.2.2.1 t (by omega) b
    have y := (hG.2.1 p t hp.1 hp.2 (by omega) b).2 a
    omega
  have hN : m_S l 0 (c 0).toNat = m_S l 0 10 := by
    have z := gl_cut (l := l) (c 0).toNat (10 - (c 0).toNat) (fun t a b => zl t (by omega) (by omega))
    have e : (c 0).toNat + (10 - (c 0).toNat) = 10 := by omega
    rw [e] at z
    exact z.symm
  obtain ⟨⟨t1, t2, t3, t4, t5, t6⟩, ⟨s1, s2, s3, s4⟩, hpp, ⟨g1, g2⟩, ⟨l1, l2, l3⟩, ⟨a1, a2⟩⟩ := R
  obtain ⟨P1, ⟨P2, P2b⟩, P3, P4, P5, P6, P7, ⟨P8, P8b, P8c⟩, P9, P10⟩ := v
  obtain ⟨r1, r2, r3, r4, r5, r6, r7, r8⟩ := r
  rw [hN] at P2b P6 P8c
  have d : ∀ j : Int, 0 ≤ j → j < 34 → j ≠ 9 → j ≠ 7 → c' j = c j := fun j j0 j1 j2 j3 => r1 j j0 (by omega) (by omega) j2 j3
  have dl : ∀ j : Int, 94 ≤ j → j < 94 + 7 * c 9 → c' j = c j := fun j j0 j1 => r1 j (by omega) (by omega) (by omega) (by omega) (by omega)
  have u : ∀ (id : Nat) (j : Int), id ≠ 0 → y_up V' 0 7 1 id j = V' id j := fun id j h => y_up_ne (Or.inl h)
  have w : ∀ (id : Nat) (j : Int), id ≠ 0 → id ≠ 2 → id ≠ 7 → id ≠ 8 → id ≠ 9 → id ≠ 14 → id ≠ 15 → id ≠ 16 → id ≠ 17 → y_up V' 0 7 1 id j = V id j := fun id j q0 q2 q7 q8 q9 q14 q15 q16 q17 => (u id j q0).trans (P1 id j q2 q7 q8 q9 q14 q15 q16 q17)
  have w0 : ∀ j : Int, j ≠ 7 → y_up V' 0 7 1 0 j = V 0 j := fun j h => (y_up_ne (Or.inr h)).trans (P1 0 j (by decide) (by decide) (by decide) (by decide) (by decide) (by decide) (by decide) (by decide))
  have Lx := gm_Lx (c := c) (c' := c') (n := (c 9).toNat) (fun i i0 i1 => ((hG.2.2.1 i i0 (by omega)).1).2) (fun j j0 j1 => dl j j0 (by omega))
  have e9 : (c' 9).toNat = (c 9 + 1).toNat := by rw [r6]
  have kk : ∀ k : Int, 0 ≤ k → k < 10 → m_K c' (94 + 7 * c 9) k (c' (94 + 7 * c 9 + 2)).toNat = l k := by
    intro k k0 k1
    have z := gl_K (c := c') (w := 94 + 7 * c 9) nn ⟨k0, k1⟩ r8 10 (Nat.le_refl 10)
    rw [if_pos (by omega)] at z
    rw [r5]
    exact z
  refine ⟨⟨?_, ?_, ?_, ?_, ?_, ?_⟩, ⟨?_, ?_, ?_, ?_⟩, fun q q0 q1 => ⟨?_, ?_, ?_, ?_⟩, ⟨fun j j0 j1 => ?_, fun q q0 q1 => ?_⟩, ⟨?_, ?_, fun k k0 k1 => ?_⟩, ⟨fun q k q0 q1 k0 k1 => ?_, fun k k0 k1 => ?_⟩⟩
  · rw [w 1 0 (by decide) (by decide) (by decide) (by decide) (by decide) (by decide) (by decide) (by decide) (by decide), d 0 (by decide) (by decide) (by decide) (by decide)]; exact t1
  · rw [w 1 1 (by decide) (by decide) (by decide) (by decide) (by decide) (by decide) (by decide) (by decide) (by decide), d 1 (by decide) (by decide) (by decide) (by decide)]; exact t2
  · rw [w 1 2 (by decide) (by decide) (by decide) (by decide) (by decide) (by decide) (by decide) (by decide) (by decide), d 3 (by decide) (by decide) (by decide) (by decide)]; exact t3
  · rw [w 1 3 (by decide) (by decide) (by decide) (by decide) (by decide) (by decide) (by decide) (by decide) (by decide), d 4 (by decide) (by decide) (by decide) (by decide)]; exact t4
  · rw [w 1 4 (by decide) (by decide) (by decide) (by decide) (by decide) (by decide) (by decide) (by decide) (by decide), d 2 (by decide) (by decide) (by decide) (by decide)]; exact t5
  · rw [d 3 (by decide) (by decide) (by decide) (by decide)]; exact t6
  · rw [w0 4 (by decide), d 5 (by decide) (by decide) (by decide) (by decide)]; exact s1
  · rw [w0 5 (by decide), d 2 (by decide) (by decide) (by decide) (by decide), d 6 (by decide) (by decide) (by decide) (by decide)]; exact s2
  · rw [w0 6 (by decide), d 8 (by decide) (by decide) (by decide) (by decide)]; exact s3
  · rw [y_up_eq, r7]
  · rw [w 10 q (by decide) (by decide) (by decide) (by decide) (by decide) (by decide) (by decide) (by decide) (by decide), d _ (by omega) (by omega) (by omega) (by omega)]; exact (hpp q q0 q1).1
  · rw [w 11 q (by decide) (by decide) (by decide) (by decide) (by decide) (by decide) (by decide) (by decide) (by decide), d _ (by omega) (by omega) (by omega) (by omega)]; exact (hpp q q0 q1).2.1
  · rw [w 12 q (by decide) (by decide) (by decide) (by decide) (by decide) (by decide) (by decide) (by decide) (by decide), d _ (by omega) (by omega) (by omega) (by omega)]; exact (hpp q q0 q1).2.2.1
  · rw [w 13 q (by decide) (by decide) (by decide) (by decide) (by decide) (by decide) (by decide) (by decide) (by decide), d _ (by omega) (by omega) (by omega) (by omega)]; exact (hpp q q0 q1).2.2.2
  · rw [u 7 j (by decide)]
    by_cases e : 10 * p ≤ j ∧ j < 10 * p + 10
    · obtain ⟨t, ht⟩ : ∃ t, t = j - 10 * p := ⟨_, rfl⟩
      have ej : j = 10 * p + t := by omega
      subst ej
      have ec : (34 : Int) + (10 * p + t) = 34 + 10 * p + t := by omega
      have gg := g1 (10 * p + t) j0 j1
      rw [ec] at gg
      rw [ec, r2 t (by omega) (by omega)]
      by_cases e2 : t < c 0
      · rw [(P4 t (by omega) e2).1, gg]
      · rw [(P3 _ (by omega)).1, gg, zl t (by omega) (by omega)]; omega
    · rw [(P3 _ (by omega)).1, r1 _ (by omega) (by omega) (by omega) (by omega) (by omega)]
      exact g1 j j0 j1
  · rw [u 9 q (by decide)]
    by_cases e : q = p
    · rw [e, P6, g2 p hp.1 hp.2, m_S_sub (c' := c') (c := c) (f := l) (b := 34 + 10 * p) (n := 10) (fun t a b => r2 t a (by omega))]
    · rw [P5 q e, g2 q q0 q1]
      exact (m_S_ext (fun j x y => r1 j (by omega) (by omega) (by omega) (by omega) (by omega))).symm
  · rw [u 2 0 (by decide), P2, r6]
  · rw [u 2 1 (by decide), P2b, l2, e9, m_L_succ c' (c 9) b9.1, Lx.1, r5]
  · rw [u 14 k (by decide), u 15 k (by decide), u 16 k (by decide)]
    rw [r6] at k1
    by_cases e : k = c 9
    · subst e
      rw [P8, P8b, P8c, r3, r4, r5]
      refine ⟨rfl, s1, rfl, hp, fun i i0 i1 => ?_⟩
      obtain ⟨t, x0, x1, x2, x3⟩ := gl_at 10 i i0 i1
      have tk := hl.kind x0 (by omega) (by omega)
      rw [u 17 _ (by decide), P10 t i x0 tk x2 x3, r8 t i x0 (by omega) x2 x3]
    · have z := P7 k e
      obtain ⟨y1, y2, y3, y5, y4⟩ := l3 k k0 (by omega)
      have z4 := ((hG.2.2.1 k k0 (by omega)).1).2
      rw [z.1, z.2.1, z.2.2, dl _ (by omega) (by omega), dl _ (by omega) (by omega), dl _ (by omega) (by omega)]
      refine ⟨y1, y2, y3, y5, fun i i0 i1 => ?_⟩
      rw [u 17 _ (by decide), P9 _ (by omega), dl _ (by omega) (by omega)]
      exact y4 i i0 i1
  · rw [u 8 _ (by decide), e9, m_A_succ c' q k (c 9) b9.1, Lx.2, r3]
    by_cases e : q = p
    · subst e
      rw [if_neg (fun z => z.2 rfl), kk k k0 k1]
      by_cases e2 : k < c 0
      · rw [(P4 k k0 e2).2, a1 q k q0 q1 k0 k1]
      · rw [(P3 _ (by omega)).2, a1 q k q0 q1 k0 k1, zl k (by omega) k1]; omega
    · rw [if_pos ⟨q0, fun z => e z.symm⟩, (P3 _ (by omega)).2, a1 q k q0 q1 k0 k1]; omega
  · rw [w 4 k (by decide) (by decide) (by decide) (by decide) (by decide) (by decide) (by decide) (by decide) (by decide), a2 k k0 k1]
    unfold m_I
    rw [e9, d 2 (by decide) (by decide) (by decide) (by decide), m_A_succ c' (-1) k (c 9) b9.1, Lx.2, if_neg (fun z => absurd z.1 (by decide)), kk k k0 k1, gl_P (l := l) hp.1 (r2 k k0 k1) (fun q q0 q1 q2 => r1 _ (by omega) (by omega) (by omega) (by omega) (by omega)) (c 2).toNat (by omega), if_pos (by omega)]
    omega
