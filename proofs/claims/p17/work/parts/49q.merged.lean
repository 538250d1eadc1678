/-! FROM 49q.altable.lean.txt -/
/-! A TABLE: all stays the same -/
/-- a new game -/
theorem rb.new {V : Nat → Int → Int} {r c w t c' w' : Int → Int} (h : tb_R V r c w t) (hc : ∀ j : Int, 0 ≤ j → j < 930 → c' j = m_fin c (3720 + j)) (hw : ∀ j : Int, 0 ≤ j → j < 6 → w' j = w (24 + j)) : rb V c' w' := by
  obtain ⟨⟨⟨n1, n2, n3, n4, n5⟩, n6, n7, n8, n9⟩, ⟨z1, z2, z3, z4, z5, z6, z7, z8, z9, z10, z11⟩, nm, ⟨h1, h2, h3⟩, mn, k1, k2, k3⟩ := h
  obtain ⟨b0, b1, b2, b3, b4, x5, x42, x54, xs, x14, xk⟩ := mn
  have d : ∀ j : Int, 0 ≤ j → j < 930 → j ≠ 6 → j ≠ 8 → c' j = c (3720 + j) := fun j j0 j1 j6 j8 => by
    rw [hc j j0 j1]
    unfold m_fin
    rw [m_up_ne (by omega), m_up_ne (by omega)]
  have d8 : c' 8 = -1 := by
    rw [hc 8 (by decide) (by decide)]
    unfold m_fin
    rw [m_up_ne (by decide)]
    exact m_up_eq _ _ _
  have d6 : c' 6 = if c 3722 = 0 then -1 else 0 := by
    rw [hc 6 (by decide) (by decide)]
    exact m_up_eq _ _ _
  have e2 : c' 2 = c 3722 := d 2 (by decide) (by decide) (by decide) (by decide)
  have e9 : c' 9 = 0 := (d 9 (by decide) (by decide) (by decide) (by decide)).trans (x5 3729 (by decide) (by decide))
  have n9' : (c' 9).toNat = 0 := by rw [e9]; rfl
  have hand : ∀ j : Int, 0 ≤ j → j < 60 → c' (34 + j) = c (3754 + j) := fun j j0 j1 => by
    rw [d _ (by omega) (by omega) (by omega) (by omega)]
    congr 1
    omega
  refine ⟨⟨⟨?_, ?_, ?_, ?_, ?_, ?_⟩, ⟨?_, ?_, ⟨?_, ?_⟩, ?_⟩, fun p p0 p1 => ⟨?_, ?_, ?_, ?_⟩, ⟨fun j j0 j1 => ?_, fun p p0 p1 => ?_⟩, ⟨?_, ?_, fun k k0 kk => by omega⟩, ⟨fun p k p0 p1 k0 kk => ?_, fun k k0 kk => ?_⟩⟩, ?_, ⟨?_, ?_, ?_, ?_, 0, ?_⟩⟩
  · rw [d 0 (by decide) (by decide) (by decide) (by decide)]; exact n1
  · rw [d 1 (by decide) (by decide) (by decide) (by decide)]; exact n2
  · rw [d 3 (by decide) (by decide) (by decide) (by decide)]; exact n3
  · rw [d 4 (by decide) (by decide) (by decide) (by decide)]; exact n4
  · rw [e2]; exact n5
  · rw [d 3 (by decide) (by decide) (by decide) (by decide)]; exact b3
  · rw [d 5 (by decide) (by decide) (by decide) (by decide)]; exact z3.trans (x5 3725 (by decide) (by decide)).symm
  · rw [e2, d6, z4]
    by_cases q : c 3722 = 0
    · rw [if_pos q]
    · rw [if_neg q, if_neg q]
  · rw [d8]; exact z5
  · rw [d8]; decide
  · rw [d 7 (by decide) (by decide) (by decide) (by decide)]; exact z6.trans (x5 3727 (by decide) (by decide)).symm
  · rw [d _ (by omega) (by omega) (by omega) (by omega)]
    have z := (n9 p p0 p1).1
    have e : (3730 : Int) + p = 3720 + (10 + p) := by omega
    rw [e] at z
    exact z
  · rw [d _ (by omega) (by omega) (by omega) (by omega)]
    have z := (n9 p p0 p1).2
    have e : (3736 : Int) + p = 3720 + (16 + p) := by omega
    rw [e] at z
    exact z
  · rw [d _ (by omega) (by omega) (by omega) (by omega), (z2 p p0 p1).1]
    exact (x42 _ (by omega) (by omega)).symm
  · rw [d _ (by omega) (by omega) (by omega) (by omega), (z2 p p0 p1).2]
    exact (x42 _ (by omega) (by omega)).symm
  · rw [hand j j0 j1]; exact n7 j j0 j1
  · rw [n8 p p0 p1]
    have sh : ∀ n : Nat, n ≤ 10 → m_S c (3754 + 10 * p) n = m_S c' (34 + 10 * p) n := by
      intro n
      induction n with
      | zero => intro _; rfl
      | succ n ih =>
        intro hn
        show m_S c (3754 + 10 * p) n + c (3754 + 10 * p + (n : Int)) = m_S c' (34 + 10 * p) n + c' (34 + 10 * p + (n : Int))
        have e1 : (34 : Int) + 10 * p + (n : Int) = 34 + (10 * p + (n : Int)) := by omega
        have e3 : (3754 : Int) + 10 * p + (n : Int) = 3754 + (10 * p + (n : Int)) := by omega
        rw [ih (by omega), e1, hand _ (by omega) (by omega), e3]
    exact sh 10 (Nat.le_refl 10)
  · rw [e9]; exact z7
  · rw [n9', z8]; rfl
  · rw [n9', z1 _ (by omega) (by omega)]; rfl
  · rw [n6 k k0 kk]
    unfold m_I
    have m0 : m_A c' (-1) k 0 = 0 := rfl
    rw [n9', m0, e2, m_sum_e]
    have hz : ∀ p : Int, 0 ≤ p → p < 6 → c 3722 ≤ p → c (3754 + 10 * p + k) = 0 := fun p p0 p1 p2 => by
      have y := (h1 (10 * p + k) (by omega) (by omega)).2 (h3 (10 * p + k) (by omega) (by omega) (by omega))
      have e : (3754 : Int) + (10 * p + k) = 3754 + 10 * p + k := by omega
      rw [e] at y
      exact y
    have hp : ∀ p : Int, 0 ≤ p → p < 6 → c' (34 + 10 * p + k) = c (3754 + 10 * p + k) := fun p p0 p1 => by
      have e1 : (34 : Int) + 10 * p + k = 34 + (10 * p + k) := by omega
      have e3 : (3754 : Int) + 10 * p + k = 3754 + (10 * p + k) := by omega
      rw [e1, hand _ (by omega) (by omega), e3]
    have q0 := hp 0 (by decide) (by decide)
    have q1 := hp 1 (by decide) (by decide)
    have q2 := hp 2 (by decide) (by decide)
    have q3 := hp 3 (by decide) (by decide)
    have q4 := hp 4 (by decide) (by decide)
    have q5 := hp 5 (by decide) (by decide)
    have y0 := hz 0 (by decide) (by decide)
    have y1 := hz 1 (by decide) (by decide)
    have y2 := hz 2 (by decide) (by decide)
    have y3 := hz 3 (by decide) (by decide)
    have y4 := hz 4 (by decide) (by decide)
    have y5 := hz 5 (by decide) (by decide)
    have P0 : m_P c' k 0 = 0 := rfl
    have P1 : m_P c' k 1 = m_P c' k 0 + c' (34 + 10 * 0 + k) := rfl
    have P2 : m_P c' k 2 = m_P c' k 1 + c' (34 + 10 * 1 + k) := rfl
    have P3 : m_P c' k 3 = m_P c' k 2 + c' (34 + 10 * 2 + k) := rfl
    have P4 : m_P c' k 4 = m_P c' k 3 + c' (34 + 10 * 3 + k) := rfl
    have P5 : m_P c' k 5 = m_P c' k 4 + c' (34 + 10 * 4 + k) := rfl
    have P6 : m_P c' k 6 = m_P c' k 5 + c' (34 + 10 * 5 + k) := rfl
    clear hp hz hand d hc hw h1 h3 x5 x42 x54 xs x14 xk n6 n7 n8 n9 z1 z2 nm h2
    rcases (by omega : c 3722 = 0 ∨ c 3722 = 1 ∨ c 3722 = 2 ∨ c 3722 = 3 ∨ c 3722 = 4 ∨ c 3722 = 5 ∨ c 3722 = 6) with e | e | e | e | e | e | e
    · rw [e] at y0 y1 y2 y3 y4 y5 ⊢
      show _ = 0 + m_P c' k 0
      omega
    · rw [e] at y0 y1 y2 y3 y4 y5 ⊢
      show _ = 0 + m_P c' k 1
      omega
    · rw [e] at y0 y1 y2 y3 y4 y5 ⊢
      show _ = 0 + m_P c' k 2
      omega
    · rw [e] at y0 y1 y2 y3 y4 y5 ⊢
      show _ = 0 + m_P c' k 3
      omega
    · rw [e] at y0 y1 y2 y3 y4 y5 ⊢
      show _ = 0 + m_P c' k 4
      omega
    · rw [e] at y0 y1 y2 y3 y4 y5 ⊢
      show _ = 0 + m_P c' k 5
      omega
    · rw [e] at y0 y1 y2 y3 y4 y5 ⊢
      show _ = 0 + m_P c' k 6
      omega
  · rw [e2]
    intro p p0 p1
    obtain ⟨a1, a2, a3⟩ := nm p p0 p1
    refine ⟨a1, a2, ?_⟩
    rw [hw _ (by omega) (by omega), Int.zero_add]
    exact a3
  · rw [d 654 (by decide) (by decide) (by decide) (by decide)]; exact z9.trans (x14 _ (by decide) (by decide)).symm
  · rw [d 654 (by decide) (by decide) (by decide) (by decide)]; exact Or.inl (x14 _ (by decide) (by decide))
  · rw [d 655 (by decide) (by decide) (by decide) (by decide)]; exact z10.trans (x14 _ (by decide) (by decide)).symm
  · rw [z11]; omega
  · rw [d 655 (by decide) (by decide) (by decide) (by decide), z11]
    exact ⟨(x14 _ (by decide) (by decide)).symm, rfl⟩
section GQ
variable {X : XW} {lb : Nat → Nat} {C a : Nat} {σ τ : ST} {n m : Int} {B : Int → Int}
theorem al_table (K : al_C X lb C a) (h9 : q_ln X (q_rf X a 7) = 900) (A : al_R X C a σ τ) (M : m_M (m_c X τ a) (τ.1 a 24).toInt n) (h5 : (σ.1 C 5).toInt = m) (h8 : (τ.1 a 8).toInt = m) (hm : 0 ≤ m ∧ m ≤ 900) (hB : ∀ p : Int, 0 ≤ p → p < m → (σ.1 (q_rf X C 4) p.toNat).toInt = B p ∧ -128 ≤ B p ∧ B p ≤ 127) (hB2 : ∀ p : Int, 0 ≤ p → p < m → (τ.1 (q_rf X a 7) p.toNat).toInt = B p) (v : Int32) :
    ∃ (z : Int32) (σ' : ST) (z' : Int32) (τ' : ST), F_X11_table X σ C v = (z, σ') ∧ F_X12_table X τ a v = (z', τ') ∧ z.toInt = z'.toInt ∧ (σ'.1 C 0).toInt = (τ'.1 a 0).toInt ∧ tb_Out X C a σ τ v m z σ' τ' ∧ (m_G (m_c X τ' a) → σ'.1 C 11 = σ.1 C 11 → τ'.1 a 24 = τ.1 a 24 → al_R X C a σ' τ') := by
  obtain ⟨kC, ka, S, lC, G8, G9, GM⟩ := id K
  obtain ⟨z, σ', z', τ', x1, x2, x3, x4, out, fr⟩ := tb_tableF (y_Cls S kC ka lC h9) h5 h8 hm hB hB2 v
  refine ⟨z, σ', z', τ', x1, x2, x3, x4, out, fun hG' e11 e24 => ?_⟩
  obtain ⟨A1, A2, A3, A4⟩ := A
  -- marks stand
  have mk : (∀ j : Int, 930 ≤ j → j < 3720 → m_c X τ' a j = m_c X τ a j) → (∀ j : Int, 6 ≤ j → j < 24 → m_wd X τ' a j = m_wd X τ a j) → ∀ b : Nat, 1 ≤ b → (b : Int) ≤ (σ'.1 C 11).toInt → rb (y_v X (q_rf X (q_rf X C 10) (b - 1)) σ') (fun j => m_c X τ' a (930 * (b : Int) + j)) (fun j => m_wd X τ' a (6 * (b : Int) + j)) := by
    intro hc hw b b1 b2
    rw [e11] at b2
    have gv : y_v X (q_rf X (q_rf X C 10) (b - 1)) σ' = y_v X (q_rf X (q_rf X C 10) (b - 1)) σ := y_v.k S (GM (b - 1) (by omega)) (fun x hx f => fr x (by omega) f)
    refine (A4 b b1 b2).x (M.2 (b : Int) (by omega) (by rw [A2] at b2; exact b2)).1 (fun id i _ => by rw [gv]) (fun j j0 j1 => ?_) (fun j j0 j1 => ?_)
    · exact hc _ (by omega) (by omega)
    · exact hw _ (by omega) (by omega)
  refine ⟨?_, by rw [e11, e24]; exact A2, by rw [e11]; exact A3, ?_⟩
  · rcases out with ⟨-, t1, t2⟩ | ⟨-, -, -, -, -, ⟨-, o1, o2, o3⟩ | ⟨-, V, r, c, w, t, Rr, o1, o2, o3, o4, o5, o6⟩⟩
    · have gv : y_v X (q_rf X C 8) σ' = y_v X (q_rf X C 8) σ := y_v.k S G8 (fun x hx f => t1.1 x f (fun z => by
        rw [z.1] at hx
        omega))
      have k20 := (tb_k S.1 ka).1
      have gc : m_c X τ' a = m_c X τ a := by
        funext j
        exact congrArg Int32.toInt (t2.1 _ _ (fun z => m_ne k20 ka (by decide) z.1))
      have gw : m_wd X τ' a = m_wd X τ a := by
        funext j
        exact congrArg Int64.toInt (t2.2.1 _ _ (fun z => z))
      rw [gv, gc, gw]
      exact A1
    · rw [o1]
      exact A1.x M.1.1 (fun _ _ _ => rfl) (fun j j0 j1 => o2 j j0 (by omega)) (fun j j0 j1 => o3 j j0 (by omega))
    · have N := rb.new (c' := m_c X τ' a) (w' := m_wd X τ' a) Rr (fun j j0 j1 => by rw [o5 j j0, if_pos j1]) (fun j j0 j1 => by rw [o6 j j0, if_pos j1])
      exact N.x hG' (fun id i hi => o4 id i hi) (fun _ _ _ => rfl) (fun _ _ _ => rfl)
  · rcases out with ⟨-, t1, t2⟩ | ⟨-, -, -, -, -, ⟨-, o1, o2, o3⟩ | ⟨-, V, r, c, w, t, Rr, o1, o2, o3, o4, o5, o6⟩⟩
    · have k20 := (tb_k S.1 ka).1
      exact mk (fun j _ _ => congrArg Int32.toInt (t2.1 _ _ (fun z => m_ne k20 ka (by decide) z.1))) (fun j _ _ => congrArg Int64.toInt (t2.2.1 _ _ (fun z => z)))
    · exact mk (fun j j0 j1 => o2 j (by omega) j1) (fun j j0 j1 => o3 j (by omega) j1)
    · refine mk (fun j j0 j1 => ?_) (fun j j0 j1 => ?_)
      · rw [o5 j (by omega), if_neg (by omega), ← o1 j (by omega) j1]
        unfold m_fin
        rw [m_up_ne (by omega), m_up_ne (by omega)]
      · rw [o6 j (by omega), if_neg (by omega)]
        exact o2 j (by omega) j1
end GQ
