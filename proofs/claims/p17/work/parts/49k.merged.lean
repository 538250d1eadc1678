/-! FROM 49k.look.lean.txt -/
/-! WHAT IS LOOKED UP -/
/-- the relation speaks of what a copy takes along -/
theorem rg.x {V V' : Nat → Int → Int} {c c' : Int → Int} (R : rg V c) (hG : m_G c) (hV : ∀ (id : Nat) (i : Int), y_in y_all id i → V' id i = V id i) (hc : ∀ j : Int, 0 ≤ j → j < 654 → c' j = c j) : rg V' c' := by
  obtain ⟨⟨t1, t2, t3, t4, t5, t6⟩, ⟨s1, s2, s3, s4⟩, hpp, ⟨g1, g2⟩, ⟨l1, l2, l3⟩, ⟨a1, a2⟩⟩ := R
  obtain ⟨b0, b2, b4, b5, b6, b7, b9, b79⟩ := hG.1
  have cell : ∀ (id f : Nat), (id, f) ∈ y_all → f ≠ 99 → V' id (f : Int) = V id (f : Int) := fun id f h h9 => hV id _ ⟨(id, f), h, rfl, Or.inr ⟨h9, rfl⟩⟩
  have row : ∀ (id : Nat) (i : Int), (id, 99) ∈ y_all → 0 ≤ i → i < ((y_gn id : Nat) : Int) → V' id i = V id i := fun id i h i0 i1 => hV id i ⟨(id, 99), h, rfl, Or.inl ⟨rfl, i0, i1⟩⟩
  have n4 : ((y_gn 4 : Nat) : Int) = 10 := rfl
  have n7 : ((y_gn 7 : Nat) : Int) = 60 := rfl
  have n8 : ((y_gn 8 : Nat) : Int) = 60 := rfl
  have n9 : ((y_gn 9 : Nat) : Int) = 6 := rfl
  have n10 : ((y_gn 10 : Nat) : Int) = 6 := rfl
  have n11 : ((y_gn 11 : Nat) : Int) = 6 := rfl
  have n12 : ((y_gn 12 : Nat) : Int) = 6 := rfl
  have n13 : ((y_gn 13 : Nat) : Int) = 6 := rfl
  have n14 : ((y_gn 14 : Nat) : Int) = 80 := rfl
  have n15 : ((y_gn 15 : Nat) : Int) = 80 := rfl
  have n16 : ((y_gn 16 : Nat) : Int) = 80 := rfl
  have n17 : ((y_gn 17 : Nat) : Int) = 320 := rfl
  have e9 : c' 9 = c 9 := hc 9 (by decide) (by decide)
  have e2 : c' 2 = c 2 := hc 2 (by decide) (by decide)
  have Lx := gm_Lx (c := c) (c' := c') (n := (c 9).toNat) (fun i i0 i1 => ((hG.2.2.1 i i0 (by omega)).1).2) (fun j j0 j1 => hc j (by omega) (by omega))
  have Px : ∀ (k : Int) (n : Nat), 0 ≤ k → k < 10 → n ≤ 6 → m_P c' k n = m_P c k n := by
    intro k n k0 k1
    induction n with
    | zero => intro _; rfl
    | succ n ih =>
      intro hn
      show m_P c' k n + c' (34 + 10 * (n : Int) + k) = m_P c k n + c (34 + 10 * (n : Int) + k)
      rw [ih (by omega), hc _ (by omega) (by omega)]
  refine ⟨⟨?_, ?_, ?_, ?_, ?_, ?_⟩, ⟨?_, ?_, ?_, ?_⟩, fun q q0 q1 => ⟨?_, ?_, ?_, ?_⟩, ⟨fun j j0 j1 => ?_, fun q q0 q1 => ?_⟩, ⟨?_, ?_, fun k k0 k1 => ?_⟩, ⟨fun q k q0 q1 k0 k1 => ?_, fun k k0 k1 => ?_⟩⟩
  · rw [hc 0 (by decide) (by decide)]; exact (cell 1 0 (by decide) (by decide)).trans t1
  · rw [hc 1 (by decide) (by decide)]; exact (cell 1 1 (by decide) (by decide)).trans t2
  · rw [hc 3 (by decide) (by decide)]; exact (cell 1 2 (by decide) (by decide)).trans t3
  · rw [hc 4 (by decide) (by decide)]; exact (cell 1 3 (by decide) (by decide)).trans t4
  · rw [e2]; exact (cell 1 4 (by decide) (by decide)).trans t5
  · rw [hc 3 (by decide) (by decide)]; exact t6
  · rw [hc 5 (by decide) (by decide)]; exact (cell 0 4 (by decide) (by decide)).trans s1
  · rw [e2, hc 6 (by decide) (by decide)]; exact (cell 0 5 (by decide) (by decide)).trans s2
  · rw [hc 8 (by decide) (by decide)]; exact ⟨(cell 0 6 (by decide) (by decide)).trans s3.1, s3.2⟩
  · rw [hc 7 (by decide) (by decide)]; exact (cell 0 7 (by decide) (by decide)).trans s4
  · rw [row 10 q (by decide) q0 (by omega), hc _ (by omega) (by omega)]; exact (hpp q q0 q1).1
  · rw [row 11 q (by decide) q0 (by omega), hc _ (by omega) (by omega)]; exact (hpp q q0 q1).2.1
  · rw [row 12 q (by decide) q0 (by omega), hc _ (by omega) (by omega)]; exact (hpp q q0 q1).2.2.1
  · rw [row 13 q (by decide) q0 (by omega), hc _ (by omega) (by omega)]; exact (hpp q q0 q1).2.2.2
  · rw [row 7 j (by decide) j0 (by omega), hc _ (by omega) (by omega)]; exact g1 j j0 j1
  · rw [row 9 q (by decide) q0 (by omega), g2 q q0 q1]
    exact (m_S_ext (fun j x y => hc j (by omega) (by omega))).symm
  · rw [e9]; exact (cell 2 0 (by decide) (by decide)).trans l1
  · rw [e9, Lx.1]; exact (cell 2 1 (by decide) (by decide)).trans l2
  · rw [e9] at k1
    obtain ⟨y1, y2, y3, y5, y4⟩ := l3 k k0 k1
    have z4 := ((hG.2.2.1 k k0 k1).1).2
    rw [row 14 k (by decide) k0 (by omega), row 15 k (by decide) k0 (by omega), row 16 k (by decide) k0 (by omega), hc (94 + 7 * k) (by omega) (by omega), hc (94 + 7 * k + 1) (by omega) (by omega), hc (94 + 7 * k + 2) (by omega) (by omega)]
    refine ⟨y1, y2, y3, y5, fun i i0 i1 => ?_⟩
    rw [row 17 _ (by decide) (by omega) (by omega), hc _ (by omega) (by omega)]
    exact y4 i i0 i1
  · rw [row 8 _ (by decide) (by omega) (by omega), e9, Lx.2]; exact a1 q k q0 q1 k0 k1
  · rw [row 4 k (by decide) k0 (by omega), a2 k k0 k1]
    unfold m_I
    rw [e9, e2, Lx.2, Px k _ k0 k1 (by omega)]
/-- what a copy doesn't take along doesn't count -/
theorem rg.w {V V' : Nat → Int → Int} {c : Int → Int} (R : rg V c) (hG : m_G c) (hV : ∀ (id : Nat) (i : Int), id ≠ 23 → id ≠ 24 → (id ≠ 0 ∨ i ≤ 7) → V' id i = V id i) : rg V' c := by
  have a : ∀ e ∈ y_all, e.1 ≠ 23 ∧ e.1 ≠ 24 ∧ (e.1 ≠ 0 ∨ e.2 ≤ 7) := by decide
  refine R.x hG (fun id i h => ?_) (fun _ _ _ => rfl)
  obtain ⟨e, h1, h2, h3⟩ := h
  obtain ⟨x1, x2, x3⟩ := a e h1
  subst h2
  refine hV _ i x1 x2 ?_
  rcases x3 with x3 | x3
  · exact Or.inl x3
  · rcases h3 with h3 | h3
    · exact absurd h3.1 (by omega)
    · exact Or.inr (by omega)
section GK
variable {X : XW} {lb : Nat → Nat} {C a o : Nat} {σ τ σ0 τ0 : ST} {V V0 : Nat → Int → Int} {c c0 : Int → Int}
theorem lk_player (w : y_W X lb (q_rf X C 8) o σ0 σ V) (v : Int32) : (F_X11_isPlayer X σ C v).toInt = if 0 ≤ v.toInt ∧ v.toInt < V 1 4 then 1 else 0 := by
  have e : (σ.1 (q_rf X (q_rf X C 8) 0) 4).toInt = V 1 4 := w.rd (id := 1) (by decide) 4 rfl
  unfold F_X11_isPlayer
  by_cases q : v.toInt < 0
  · rw [if_pos q, if_neg (by omega)]; rfl
  · rw [if_neg q, q_letE, e]
    by_cases q2 : v.toInt < V 1 4
    · rw [if_pos q2, if_pos ⟨by omega, q2⟩]; rfl
    · rw [if_neg q2, if_neg (fun z => q2 z.2)]; rfl
theorem lk_kind (w : y_W X lb (q_rf X C 8) o σ0 σ V) (v : Int32) : (F_X11_isKind X σ C v).toInt = if 0 ≤ v.toInt ∧ v.toInt < V 1 0 then 1 else 0 := by
  have e : (σ.1 (q_rf X (q_rf X C 8) 0) 0).toInt = V 1 0 := w.rd (id := 1) (by decide) 0 rfl
  unfold F_X11_isKind
  by_cases q : v.toInt < 0
  · rw [if_pos q, if_neg (by omega)]; rfl
  · rw [if_neg q, q_letE, e]
    by_cases q2 : v.toInt < V 1 0
    · rw [if_pos q2, if_pos ⟨by omega, q2⟩]; rfl
    · rw [if_neg q2, if_neg (fun z => q2 z.2)]; rfl
theorem lk_kindNone (w : y_W X lb (q_rf X C 8) o σ0 σ V) (v : Int32) : (F_X11_isKindOrNone X σ C v).toInt = if v.toInt = -1 ∨ (0 ≤ v.toInt ∧ v.toInt < V 1 0) then 1 else 0 := by
  unfold F_X11_isKindOrNone
  by_cases q : v.toInt = -1
  · rw [if_pos q, if_pos (Or.inl q)]; rfl
  · rw [if_neg q, q_letE, lk_kind w]
    by_cases q2 : 0 ≤ v.toInt ∧ v.toInt < V 1 0
    · rw [if_pos q2, if_neg (by decide), if_pos (Or.inr q2)]; rfl
    · rw [if_neg q2, if_pos rfl, if_neg (by omega)]; rfl
theorem lk_playerAt (hc : m_c X τ a = c) (h2 : 0 ≤ c 2 ∧ c 2 ≤ 6) (v : Int32) : (F_X12_isPlayerAt X τ a v).toInt = if 0 ≤ v.toInt ∧ v.toInt < c 2 then 1 else 0 := by
  have one : (1 : Int32).toInt = 1 := rfl
  have z0 : (0 : Int64).toInt = 0 := rfl
  have r2 : (τ.1 (q_rf X a 20) (2 : Int32).toNatClampNeg).toInt = c 2 := gm_cell (A := 2) hc rfl
  unfold F_X12_isPlayerAt
  rw [q_letE, q_letE, q_letE, q_letE, q_letE, tm_isIn, ar_i2l, ar_i2l, z0, ar_sub, r2, one, ar_wr (by omega) (by omega)]
  by_cases q : 0 ≤ v.toInt ∧ v.toInt < c 2
  · rw [if_pos q, if_pos (by omega)]
  · rw [if_neg q, if_neg (by omega)]
theorem lk_kindAt (hc : m_c X τ a = c) (h0 : 2 ≤ c 0 ∧ c 0 ≤ 10) (v : Int32) : (F_X12_isKindAt X τ a v).toInt = if 0 ≤ v.toInt ∧ v.toInt < c 0 then 1 else 0 := by
  have one : (1 : Int32).toInt = 1 := rfl
  have z0 : (0 : Int64).toInt = 0 := rfl
  have r2 : (τ.1 (q_rf X a 20) (0 : Int32).toNatClampNeg).toInt = c 0 := gm_cell (A := 0) hc rfl
  unfold F_X12_isKindAt
  rw [q_letE, q_letE, q_letE, q_letE, q_letE, tm_isIn, ar_i2l, ar_i2l, z0, ar_sub, r2, one, ar_wr (by omega) (by omega)]
  by_cases q : 0 ≤ v.toInt ∧ v.toInt < c 0
  · rw [if_pos q, if_pos (by omega)]
  · rw [if_neg q, if_neg (by omega)]
theorem lk_six (v : Int32) : (F_X11_isSixteenths X σ v).toInt = if 0 ≤ v.toInt ∧ v.toInt ≤ 16 then 1 else 0 := by
  unfold F_X11_isSixteenths
  by_cases q : v.toInt < 0
  · rw [if_pos q, if_neg (by omega)]; rfl
  · rw [if_neg q]
    by_cases q2 : 16 < v.toInt
    · rw [if_pos q2, if_neg (by omega)]; rfl
    · rw [if_neg q2, if_pos (by omega)]; rfl
theorem lk_sixAt (v : Int32) : (F_X12_isIn X τ v.toInt64 (0 : Int64) (16 : Int64)).toInt = if 0 ≤ v.toInt ∧ v.toInt ≤ 16 then 1 else 0 := by
  have z0 : (0 : Int64).toInt = 0 := rfl
  have z16 : (16 : Int64).toInt = 16 := rfl
  rw [tm_isIn, ar_i2l, z0, z16]
/-- all cards in the heap -/
theorem lk_heapL (hc : m_c X τ a = c) (hG : m_G c) (fu : Nat) : ∀ x y : Int32, (2147483647 - y.toInt).toNat < fu → 0 ≤ y.toInt → y.toInt ≤ c 9 → x.toInt = m_L c y.toInt.toNat → (F_X12_heapMany_L4_1 X τ a fu x y).toInt = m_L c (c 9).toNat := by
  have b9 := hG.1.2.2.2.2.2.2.1
  have e2 : (2 : Int32).toInt = 2 := rfl
  have r9 : (τ.1 (q_rf X a 20) (9 : Int32).toNatClampNeg).toInt = c 9 := gm_cell (A := 9) hc rfl
  induction fu with
  | zero => intro x y h; exact absurd h (Nat.not_lt_zero _)
  | succ fu ih =>
    intro x y hf y0 y1 hx
    rw [F_X12_heapMany_L4_1_s]
    unfold F_X12_heapMany_B4_1
    rw [q_letE (τ.1 (q_rf X a 20) (9 : Int32).toNatClampNeg), r9]
    by_cases q : y.toInt < c 9
    · have y4 := (hG.2.2.1 y.toInt y0 q).1
      have l80 := hG.L80 y0 y1
      have hl := gm_laid (X := X) (τ := τ) (v := y) rfl ⟨y0, by omega⟩
      have ei : (F_X12_laid X τ y + 2).toInt = 94 + 7 * y.toInt + 2 := by rw [ar_add, hl, e2, ar_wr (by omega) (by omega)]
      have r2 : (τ.1 (q_rf X a 20) (F_X12_laid X τ y + 2).toNatClampNeg).toInt = c (94 + 7 * y.toInt + 2) := gm_cell hc ei
      have ey : (y + 1).toInt = y.toInt + 1 := y_inc (by omega)
      rw [if_pos q, q_letE (F_X12_laid X τ y), q_letE (F_X12_laid X τ y + 2), q_letE (τ.1 (q_rf X a 20) (F_X12_laid X τ y + 2).toNatClampNeg), q_letE, q_letE]
      refine ih _ _ (by omega) (by omega) (by omega) ?_
      rw [ar_add, r2, hx, ey, m_L_succ c y.toInt y0, ar_wr (by omega) (by omega)]
    · have ey : y.toInt = c 9 := by omega
      rw [if_neg q, hx, ey]
theorem lk_heap (hc : m_c X τ a = c) (hG : m_G c) : (F_X12_heapMany X τ a).toInt = m_L c (c 9).toNat := by
  have z0 : (0 : Int32).toInt = 0 := rfl
  unfold F_X12_heapMany
  exact lk_heapL hc hG _ 0 0 (by decide) (by decide) (by rw [z0]; exact hG.1.2.2.2.2.2.2.1.1) (by rw [z0]; rfl)
end GK
