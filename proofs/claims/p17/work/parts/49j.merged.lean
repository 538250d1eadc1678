/-! FROM 49j.doubts.lean.txt -/
/-! A DOUBT: the reference, both -/
section GJ
variable {X : XW} {lb : Nat → Nat} {g o a : Nat} {σ τ σ0 τ0 : ST} {V V0 : Nat → Int → Int} {c c0 : Int → Int}
theorem gdr_tail (hG : m_G c) (h7 : c 7 = 0) (hc : m_c X τ a = c) {x y : Int32} {t tn : Int} (hx : x.toInt = t) (ht : 0 ≤ t ∧ t < c 2) (hy : y.toInt = tn) (htn : 0 ≤ tn ∧ tn < c 2) : ∃ ct : Int → Int, m_c X (q_si (q_si (F_X12_takes X τ a x) (q_rf X a 20) (5 : Int32).toNatClampNeg (F_X12_nextKind X (F_X12_takes X τ a x) a 0)) (q_rf X a 20) (6 : Int32).toNatClampNeg y) a = m_up (m_up (m_up ct 9 0) 5 (gd_nk c (c 5))) 6 tn ∧ tkl (fun b _ => b = q_rf X a 20) (fun _ _ => False) τ (q_si (q_si (F_X12_takes X τ a x) (q_rf X a 20) (5 : Int32).toNatClampNeg (F_X12_nextKind X (F_X12_takes X τ a x) a 0)) (q_rf X a 20) (6 : Int32).toNatClampNeg y) ∧ gt_c c ct t (c 9) 0 ∧ m_G (m_up (m_up (m_up ct 9 0) 5 (gd_nk c (c 5))) 6 tn) := by
  obtain ⟨b0, b2, b4, b5, b6, b7, b9, b79⟩ := hG.1
  obtain ⟨ct, i1, i2, i3, i4⟩ := gm_takes (X := X) (τ := τ) (a := a) hG h7 hc ⟨ht.1, by omega⟩ hx
  obtain ⟨τ1, e1⟩ : ∃ s, s = F_X12_takes X τ a x := ⟨_, rfl⟩
  rw [← e1] at i1 i2 ⊢
  have d : ∀ j : Int, 0 ≤ j → j < 9 → m_up ct 9 0 j = c j := fun j j0 j1 => by rw [m_up_ne (by omega)]; exact i3.1 j j0 (by omega)
  have nk := gm_nextKind0 i1 (by rw [d 0 (by decide) (by decide)]; exact b0) (by rw [d 5 (by decide) (by decide), d 0 (by decide) (by decide)]; exact b5)
  have ek : gd_nk (m_up ct 9 0) (m_up ct 9 0 5) = gd_nk c (c 5) := by
    unfold gd_nk
    rw [d 3 (by decide) (by decide), d 5 (by decide) (by decide), d 0 (by decide) (by decide)]
  rw [ek] at nk
  have kb : 0 ≤ gd_nk c (c 5) ∧ gd_nk c (c 5) < c 0 := by
    unfold gd_nk
    split
    · exact ⟨Int.emod_nonneg _ (by omega), Int.emod_lt_of_pos _ (by omega)⟩
    · exact ⟨Int.emod_nonneg _ (by omega), Int.emod_lt_of_pos _ (by omega)⟩
  have c2 : m_c X (q_si τ1 (q_rf X a 20) (5 : Int32).toNatClampNeg (F_X12_nextKind X τ1 a 0)) a = m_up (m_up ct 9 0) 5 (gd_nk c (c 5)) := by
    rw [m_c_up 5 (by decide) rfl, i1, nk]
  have t2 : tkl (fun b _ => b = q_rf X a 20) (fun _ _ => False) τ (q_si τ1 (q_rf X a 20) (5 : Int32).toNatClampNeg (F_X12_nextKind X τ1 a 0)) := i2.si _ rfl
  have g2 : m_G (m_up (m_up ct 9 0) 5 (gd_nk c (c 5))) := i4.wr m_up_e (by rw [d 0 (by decide) (by decide)]; omega)
  have g3 : m_G (m_up (m_up (m_up ct 9 0) 5 (gd_nk c (c 5))) 6 tn) := g2.wr m_up_e (by
    have q2 : m_up (m_up ct 9 0) 5 (gd_nk c (c 5)) 2 = c 2 := (m_up_ne (by decide)).trans (d 2 (by decide) (by decide))
    have q7 : m_up (m_up ct 9 0) 5 (gd_nk c (c 5)) 7 = c 7 := (m_up_ne (by decide)).trans (d 7 (by decide) (by decide))
    rw [q2, q7]
    omega)
  refine ⟨ct, ?_, t2.si _ rfl, i3, g3⟩
  rw [m_c_up 6 (by decide) rfl, c2, hy]
theorem gm_doubts (hc : m_c X τ a = c) (hG : m_G c) (h7 : c 7 = 1) (hW : ∀ q : Int, 0 ≤ q → q < 6 → (0 ≤ c (22 + q) ∧ c (22 + q) ≤ 1000000) ∧ 0 ≤ c (28 + q) ∧ c (28 + q) ≤ 1000000) {v1 : Int32} {q : Int} (hv : v1.toInt = q) (hq : 0 ≤ q ∧ q < c 2) {s : Int} (hs : (F_X12_sortOf X τ a (τ.1 (q_rf X a 20) (9 : Int32).toNatClampNeg - 1)).toInt = s) :
    ∃ (z : Int32) (τ' : ST) (c' : Int → Int), F_X12_doubts X τ a v1 = (z, τ') ∧ z.toInt = (if s = 0 then q else c 6) ∧ m_c X τ' a = c' ∧ tkl (fun b _ => b = q_rf X a 20) (fun _ _ => False) τ τ' ∧ gd_C c c' (if s = 0 then q else c 6) (c 6) (gd_nk c (c 5)) (if s = 0 then c 6 else q) (if s = 0 then (if m_S c (34 + 10 * c 6) 10 = 0 then c 6 else c 8) else c 8) (if s = 0 then 0 else 1) ∧ m_G c' := by
  obtain ⟨b0, b2, b4, b5, b6, b7, b9, b79⟩ := hG.1
  have pr : 0 ≤ c 6 ∧ c 6 < c 2 := by omega
  obtain ⟨P, hP⟩ : ∃ P, P = c 6 := ⟨_, rfl⟩
  rw [← hP] at pr ⊢
  have hw := hW P pr.1 (by omega)
  have z0 : (0 : Int32).toInt = 0 := rfl
  have one : (1 : Int32).toInt = 1 := rfl
  have e22 : (22 : Int32).toInt = 22 := rfl
  have e28 : (28 : Int32).toInt = 28 := rfl
  unfold F_X12_doubts
  rw [q_letE (τ.1 (q_rf X a 20) (6 : Int32).toNatClampNeg), q_letE (τ.1 (q_rf X a 20) (9 : Int32).toNatClampNeg), q_letE (τ.1 (q_rf X a 20) (9 : Int32).toNatClampNeg - 1), q_letE (F_X12_sortOf X τ a (τ.1 (q_rf X a 20) (9 : Int32).toNatClampNeg - 1)), hs]
  have f1 : (τ.1 (q_rf X a 20) (6 : Int32).toNatClampNeg).toInt = P := (gm_cell (A := 6) hc rfl).trans hP.symm
  obtain ⟨f, hf⟩ : ∃ f, f = τ.1 (q_rf X a 20) (6 : Int32).toNatClampNeg := ⟨_, rfl⟩
  rw [← hf] at f1 ⊢
  have c1 : m_c X (q_si τ (q_rf X a 20) (7 : Int32).toNatClampNeg 0) a = m_up c 7 0 := by rw [m_c_up 7 (by decide) rfl, hc, z0]
  have t1 : tkl (fun b _ => b = q_rf X a 20) (fun _ _ => False) τ (q_si τ (q_rf X a 20) (7 : Int32).toNatClampNeg 0) := tkl.rf.si _ rfl
  obtain ⟨τ1, e1⟩ : ∃ s, s = q_si τ (q_rf X a 20) (7 : Int32).toNatClampNeg 0 := ⟨_, rfl⟩
  have i22 : ((22 : Int32) + f).toInt = 22 + P := by rw [ar_add, e22, f1, ar_wr (by omega) (by omega)]
  have i28 : ((28 : Int32) + f).toInt = 28 + P := by rw [ar_add, e28, f1, ar_wr (by omega) (by omega)]
  rw [← e1] at c1 t1
  have r22 : (τ1.1 (q_rf X a 20) ((22 : Int32) + f).toNatClampNeg).toInt = c (22 + P) := (gm_cell c1 i22).trans (m_up_ne (by omega))
  obtain ⟨u, hu⟩ : ∃ u, u = τ1.1 (q_rf X a 20) ((22 : Int32) + f).toNatClampNeg + 1 := ⟨_, rfl⟩
  have uv : u.toInt = c (22 + P) + 1 := by rw [hu, ar_add, r22, one, ar_wr (by omega) (by omega)]
  have c2 : m_c X (q_si τ1 (q_rf X a 20) ((22 : Int32) + f).toNatClampNeg u) a = m_up (m_up c 7 0) (22 + P) (c (22 + P) + 1) := by rw [m_c_up _ (by omega) i22, c1, uv]
  have t2 : tkl (fun b _ => b = q_rf X a 20) (fun _ _ => False) τ (q_si τ1 (q_rf X a 20) ((22 : Int32) + f).toNatClampNeg u) := t1.si _ rfl
  obtain ⟨τ2, e2⟩ : ∃ s, s = q_si τ1 (q_rf X a 20) ((22 : Int32) + f).toNatClampNeg u := ⟨_, rfl⟩
  rw [← e2] at c2 t2
  have r28 : (τ2.1 (q_rf X a 20) ((28 : Int32) + f).toNatClampNeg).toInt = c (28 + P) := (gm_cell c2 i28).trans ((m_up_ne (by omega)).trans (m_up_ne (by omega)))
  have g1 : m_G (m_up c 7 0) := hG.wr m_up_e (by omega)
  have g2 : m_G (m_up (m_up c 7 0) (22 + P) (c (22 + P) + 1)) := g1.wr m_up_e (by omega)
  -- the head: for both answers the same
  have hd : ∀ x : Int32, F_X12_doubts_J29_1 X τ a f v1 x = (if x.toInt = 0 then q_let (τ2.1 (q_rf X a 20) ((28 : Int32) + f).toNatClampNeg + (1 : Int32) : Int32) (fun z_16 => q_let (q_si τ2 (q_rf X a 20) ((28 : Int32) + f).toNatClampNeg z_16 : ST) (fun σ_17 => if x.toInt = 0 then F_X12_doubts_J92_2 X x a f v1 σ_17 else q_let (F_X12_cardsOf X σ_17 a f : Int32) (fun r_45 => if r_45.toInt = 0 then q_let (q_si σ_17 (q_rf X a 20) (8 : Int32).toNatClampNeg f : ST) (fun σ_48 => F_X12_doubts_J92_2 X x a f v1 σ_48) else F_X12_doubts_J92_2 X x a f v1 σ_17))) else q_let (τ2.1 (q_rf X a 20) ((28 : Int32) + f).toNatClampNeg + (0 : Int32) : Int32) (fun z_49 => q_let (q_si τ2 (q_rf X a 20) ((28 : Int32) + f).toNatClampNeg z_49 : ST) (fun σ_50 => if x.toInt = 0 then F_X12_doubts_J92_5 X x a f v1 σ_50 else q_let (F_X12_cardsOf X σ_50 a f : Int32) (fun r_78 => if r_78.toInt = 0 then q_let (q_si σ_50 (q_rf X a 20) (8 : Int32).toNatClampNeg f : ST) (fun σ_81 => F_X12_doubts_J92_5 X x a f v1 σ_81) else F_X12_doubts_J92_5 X x a f v1 σ_50)))) := by
    intro x
    unfold F_X12_doubts_J29_1
    rw [q_letE (q_si τ (q_rf X a 20) (7 : Int32).toNatClampNeg 0), ← e1, q_letE ((22 : Int32) + f), q_letE (τ1.1 (q_rf X a 20) ((22 : Int32) + f).toNatClampNeg), q_letE (τ1.1 (q_rf X a 20) ((22 : Int32) + f).toNatClampNeg + 1), ← hu, q_letE (q_si τ1 (q_rf X a 20) ((22 : Int32) + f).toNatClampNeg u), ← e2, q_letE ((28 : Int32) + f), q_letE (τ2.1 (q_rf X a 20) ((28 : Int32) + f).toNatClampNeg)]
  by_cases hs0 : s = 0
  · rw [if_pos hs0, if_pos hs0, if_pos hs0, if_pos hs0, if_pos hs0, hd 1, if_neg (by decide : ¬ (1 : Int32).toInt = 0)]
    obtain ⟨u3, hu3⟩ : ∃ u, u = τ2.1 (q_rf X a 20) ((28 : Int32) + f).toNatClampNeg + 0 := ⟨_, rfl⟩
    have uv3 : u3.toInt = c (28 + P) + 0 := by rw [hu3, ar_add, r28, z0, ar_wr (by omega) (by omega)]
    rw [← hu3, q_letE u3, q_letE (q_si τ2 (q_rf X a 20) ((28 : Int32) + f).toNatClampNeg u3)]
    have c3 : m_c X (q_si τ2 (q_rf X a 20) ((28 : Int32) + f).toNatClampNeg u3) a = m_up (m_up (m_up c 7 0) (22 + P) (c (22 + P) + 1)) (28 + P) (c (28 + P) + 0) := by rw [m_c_up _ (by omega) i28, c2, uv3]
    have t3 : tkl (fun b _ => b = q_rf X a 20) (fun _ _ => False) τ (q_si τ2 (q_rf X a 20) ((28 : Int32) + f).toNatClampNeg u3) := t2.si _ rfl
    obtain ⟨τ3, e3⟩ : ∃ s, s = q_si τ2 (q_rf X a 20) ((28 : Int32) + f).toNatClampNeg u3 := ⟨_, rfl⟩
    rw [← e3] at c3 t3 ⊢
    have g3 : m_G (m_up (m_up (m_up c 7 0) (22 + P) (c (22 + P) + 1)) (28 + P) (c (28 + P) + 0)) := g2.wr m_up_e (by omega)
    obtain ⟨C3, hC3⟩ : ∃ C, C = m_up (m_up (m_up c 7 0) (22 + P) (c (22 + P) + 1)) (28 + P) (c (28 + P) + 0) := ⟨_, rfl⟩
    rw [← hC3] at c3 g3
    have d3 : ∀ j : Int, j ≠ 7 → j ≠ 22 + P → j ≠ 28 + P → C3 j = c j := fun j a1 a2 a3 => by rw [hC3, m_up_ne a3, m_up_ne a2, m_up_ne a1]
    have cd : (F_X12_cardsOf X τ3 a f).toInt = m_S c (34 + 10 * P) 10 := by
      rw [gm_cardsOf c3 g3 f1 ⟨pr.1, by omega⟩]
      exact m_S_ext (fun j a1 a2 => d3 j (by omega) (by omega) (by omega))
    rw [if_neg (by decide : ¬ (1 : Int32).toInt = 0), q_letE (F_X12_cardsOf X τ3 a f), cd]
    obtain ⟨W, hWn⟩ : ∃ W : Int, W = (if m_S c (34 + 10 * P) 10 = 0 then P else c 8) := ⟨_, rfl⟩
    rw [← hWn]
    have fin : ∀ (τ4 : ST) (C4 : Int → Int), m_c X τ4 a = C4 → m_G C4 → tkl (fun b _ => b = q_rf X a 20) (fun _ _ => False) τ τ4 → C4 8 = W → (∀ j : Int, j ≠ 8 → C4 j = C3 j) → ∃ (z : Int32) (τ' : ST) (c' : Int → Int), F_X12_doubts_J92_5 X 1 a f v1 τ4 = (z, τ') ∧ z.toInt = q ∧ m_c X τ' a = c' ∧ tkl (fun b _ => b = q_rf X a 20) (fun _ _ => False) τ τ' ∧ gd_C c c' q P (gd_nk c (c 5)) P W 0 ∧ m_G c' := by
      intro τ4 C4 c4 g4 t4 w4 o4
      have d4 : ∀ j : Int, j ≠ 7 → j ≠ 8 → j ≠ 22 + P → j ≠ 28 + P → C4 j = c j := fun j a1 a2 a3 a4 => by rw [o4 j a2, d3 j a1 a3 a4]
      obtain ⟨ct, y1, y2, y3, y4⟩ := gdr_tail (X := X) (τ := τ4) (a := a) g4 (by rw [o4 7 (by decide), hC3, m_up_ne (by omega), m_up_ne (by omega), m_up_eq]) c4 (x := v1) (y := f) hv (by rw [d4 2 (by decide) (by decide) (by omega) (by omega)]; exact hq) f1 (by rw [d4 2 (by decide) (by decide) (by omega) (by omega)]; exact pr)
      have ek : gd_nk C4 (C4 5) = gd_nk c (c 5) := by
        unfold gd_nk
        rw [d4 3 (by decide) (by decide) (by omega) (by omega), d4 5 (by decide) (by decide) (by omega) (by omega), d4 0 (by decide) (by decide) (by omega) (by omega)]
      rw [ek] at y1 y4
      unfold F_X12_doubts_J92_5
      rw [if_neg (by decide : ¬ (1 : Int32).toInt = 0), q_letE (F_X12_takes X τ4 a v1)]
      unfold F_X12_doubts_J105_7
      rw [q_letE (F_X12_nextKind X (F_X12_takes X τ4 a v1) a 0), q_letE (q_si (F_X12_takes X τ4 a v1) (q_rf X a 20) (5 : Int32).toNatClampNeg (F_X12_nextKind X (F_X12_takes X τ4 a v1) a 0)), if_neg (by decide : ¬ (1 : Int32).toInt = 0), q_letE, if_neg (by decide : ¬ (1 : Int32).toInt = 0)]
      have e9 : C4 9 = c 9 := d4 9 (by decide) (by decide) (by omega) (by omega)
      rw [e9] at y3
      have Ax : ∀ d : Int, m_A C4 (-1) d (c 9).toNat = m_A c (-1) d (c 9).toNat := fun d => (gm_Lx (c := c) (c' := C4) (n := (c 9).toNat) (fun i i0 i1 => ((hG.2.2.1 i i0 (by omega)).1).2) (fun j j0 j1 => d4 j (by omega) (by omega) (by omega) (by omega))).2 (-1) d
      refine ⟨v1, _, _, rfl, hv, y1, t4.tr y2, ⟨fun j j0 j5 j6 j7 j8 j9 j22 j28 jh => ?_, ⟨?_, ?_, ?_, ?_, ?_⟩, ?_, ?_, fun d d0 d1 => ?_⟩, y4⟩
      · rw [m_up_ne j6, m_up_ne j5, m_up_ne j9, y3.1 j j0 jh, d4 j j7 j8 j22 j28]
      · rw [m_up_ne (by decide), m_up_eq]
      · rw [m_up_eq]
      · rw [m_up_ne (by decide), m_up_ne (by decide), m_up_ne (by decide), y3.1 7 (by decide) (by omega), o4 7 (by decide), hC3, m_up_ne (by omega), m_up_ne (by omega), m_up_eq]
      · rw [m_up_ne (by decide), m_up_ne (by decide), m_up_ne (by decide), y3.1 8 (by decide) (by omega), w4]
      · rw [m_up_ne (by decide), m_up_ne (by decide), m_up_eq]
      · rw [m_up_ne (by omega), m_up_ne (by omega), m_up_ne (by omega), y3.1 _ (by omega) (by omega), o4 _ (by omega), hC3, m_up_ne (by omega), m_up_eq]
      · rw [m_up_ne (by omega), m_up_ne (by omega), m_up_ne (by omega), y3.1 _ (by omega) (by omega), o4 _ (by omega), hC3, m_up_eq]
      · have k0 : m_K C4 (94 + 7 * c 9) d (0 : Int).toNat = 0 := rfl
        rw [m_up_ne (by omega), m_up_ne (by omega), m_up_ne (by omega), y3.2 d d0 d1, Ax d, k0, d4 _ (by omega) (by omega) (by omega) (by omega)]
        omega
    by_cases q0 : m_S c (34 + 10 * P) 10 = 0
    · rw [if_pos q0] at hWn
      rw [if_pos q0, q_letE (q_si τ3 (q_rf X a 20) (8 : Int32).toNatClampNeg f)]
      refine fin _ (m_up C3 8 W) (by rw [m_c_up 8 (by decide) rfl, c3, f1, hWn]) (g3.wr m_up_e (by omega)) (t3.si _ rfl) (m_up_eq _ _ _) (fun j h => m_up_ne h)
    · rw [if_neg q0] at hWn
      rw [if_neg q0]
      refine fin τ3 C3 c3 g3 t3 (by rw [hWn]; exact d3 8 (by decide) (by omega) (by omega)) (fun j _ => rfl)
  · rw [if_neg hs0, if_neg hs0, if_neg hs0, if_neg hs0, if_neg hs0, hd 0, if_pos (by decide : (0 : Int32).toInt = 0)]
    obtain ⟨u3, hu3⟩ : ∃ u, u = τ2.1 (q_rf X a 20) ((28 : Int32) + f).toNatClampNeg + 1 := ⟨_, rfl⟩
    have uv3 : u3.toInt = c (28 + P) + 1 := by rw [hu3, ar_add, r28, one, ar_wr (by omega) (by omega)]
    rw [← hu3, q_letE u3, q_letE (q_si τ2 (q_rf X a 20) ((28 : Int32) + f).toNatClampNeg u3)]
    have c3 : m_c X (q_si τ2 (q_rf X a 20) ((28 : Int32) + f).toNatClampNeg u3) a = m_up (m_up (m_up c 7 0) (22 + P) (c (22 + P) + 1)) (28 + P) (c (28 + P) + 1) := by rw [m_c_up _ (by omega) i28, c2, uv3]
    have t3 : tkl (fun b _ => b = q_rf X a 20) (fun _ _ => False) τ (q_si τ2 (q_rf X a 20) ((28 : Int32) + f).toNatClampNeg u3) := t2.si _ rfl
    obtain ⟨τ4, e4⟩ : ∃ s, s = q_si τ2 (q_rf X a 20) ((28 : Int32) + f).toNatClampNeg u3 := ⟨_, rfl⟩
    rw [← e4] at c3 t3 ⊢
    have g4 : m_G (m_up (m_up (m_up c 7 0) (22 + P) (c (22 + P) + 1)) (28 + P) (c (28 + P) + 1)) := g2.wr m_up_e (by omega)
    obtain ⟨C4, hC4⟩ : ∃ C, C = m_up (m_up (m_up c 7 0) (22 + P) (c (22 + P) + 1)) (28 + P) (c (28 + P) + 1) := ⟨_, rfl⟩
    rw [← hC4] at c3 g4
    have d4 : ∀ j : Int, j ≠ 7 → j ≠ 22 + P → j ≠ 28 + P → C4 j = c j := fun j a1 a2 a3 => by rw [hC4, m_up_ne a3, m_up_ne a2, m_up_ne a1]
    rw [if_pos (by decide : (0 : Int32).toInt = 0)]
    obtain ⟨ct, y1, y2, y3, y4⟩ := gdr_tail (X := X) (τ := τ4) (a := a) g4 (by rw [hC4, m_up_ne (by omega), m_up_ne (by omega), m_up_eq]) c3 (x := f) (y := v1) f1 (by rw [d4 2 (by decide) (by omega) (by omega)]; exact pr) hv (by rw [d4 2 (by decide) (by omega) (by omega)]; exact hq)
    have ek : gd_nk C4 (C4 5) = gd_nk c (c 5) := by
      unfold gd_nk
      rw [d4 3 (by decide) (by omega) (by omega), d4 5 (by decide) (by omega) (by omega), d4 0 (by decide) (by omega) (by omega)]
    rw [ek] at y1 y4
    unfold F_X12_doubts_J92_2
    rw [if_pos (by decide : (0 : Int32).toInt = 0), q_letE (F_X12_takes X τ4 a f)]
    unfold F_X12_doubts_J105_3
    rw [q_letE (F_X12_nextKind X (F_X12_takes X τ4 a f) a 0), q_letE (q_si (F_X12_takes X τ4 a f) (q_rf X a 20) (5 : Int32).toNatClampNeg (F_X12_nextKind X (F_X12_takes X τ4 a f) a 0)), if_pos (by decide : (0 : Int32).toInt = 0), q_letE, if_pos (by decide : (0 : Int32).toInt = 0)]
    have e9 : C4 9 = c 9 := d4 9 (by decide) (by omega) (by omega)
    rw [e9] at y3
    have Ax : ∀ d : Int, m_A C4 (-1) d (c 9).toNat = m_A c (-1) d (c 9).toNat := fun d => (gm_Lx (c := c) (c' := C4) (n := (c 9).toNat) (fun i i0 i1 => ((hG.2.2.1 i i0 (by omega)).1).2) (fun j j0 j1 => d4 j (by omega) (by omega) (by omega))).2 (-1) d
    refine ⟨f, _, _, rfl, f1, y1, t3.tr y2, ⟨fun j j0 j5 j6 j7 j8 j9 j22 j28 jh => ?_, ⟨?_, ?_, ?_, ?_, ?_⟩, ?_, ?_, fun d d0 d1 => ?_⟩, y4⟩
    · rw [m_up_ne j6, m_up_ne j5, m_up_ne j9, y3.1 j j0 jh, d4 j j7 j22 j28]
    · rw [m_up_ne (by decide), m_up_eq]
    · rw [m_up_eq]
    · rw [m_up_ne (by decide), m_up_ne (by decide), m_up_ne (by decide), y3.1 7 (by decide) (by omega), hC4, m_up_ne (by omega), m_up_ne (by omega), m_up_eq]
    · rw [m_up_ne (by decide), m_up_ne (by decide), m_up_ne (by decide), y3.1 8 (by decide) (by omega), d4 8 (by decide) (by omega) (by omega)]
    · rw [m_up_ne (by decide), m_up_ne (by decide), m_up_eq]
    · rw [m_up_ne (by omega), m_up_ne (by omega), m_up_ne (by omega), y3.1 _ (by omega) (by omega), hC4, m_up_ne (by omega), m_up_eq]
    · rw [m_up_ne (by omega), m_up_ne (by omega), m_up_ne (by omega), y3.1 _ (by omega) (by omega), hC4, m_up_eq]
    · have k0 : m_K C4 (94 + 7 * c 9) d (0 : Int).toNat = 0 := rfl
      rw [m_up_ne (by omega), m_up_ne (by omega), m_up_ne (by omega), y3.2 d d0 d1, Ax d, k0, d4 _ (by omega) (by omega) (by omega)]
      omega
/-- both games behind a doubt -/
theorem gm_doubt2 (Y : y_S X lb) (G : y_G X lb g o) (w : y_W X lb g o σ0 σ V) (R : rg V c) (hc : m_c X τ a = c) (hG : m_G c) (h7 : c 7 = 1) (hW : ∀ q : Int, 0 ≤ q → q < 6 → (0 ≤ c (22 + q) ∧ c (22 + q) ≤ 1000000) ∧ 0 ≤ c (28 + q) ∧ c (28 + q) ≤ 1000000) {v v' : Int32} {q : Int} (hv : v.toInt = q) (hv' : v'.toInt = q) (hq : 0 ≤ q ∧ q < c 2) :
    ∃ (z z' : Int32) (σ' τ' : ST) (V' : Nat → Int → Int) (c' : Int → Int) (t P kd tn W u : Int), F_X0_challenge X σ g v = (z, σ') ∧ F_X12_doubts X τ a v' = (z', τ') ∧ z.toInt = t ∧ z'.toInt = t ∧ (t = q ∨ t = c 6) ∧ y_W X lb g o σ0 σ' V' ∧ m_c X τ' a = c' ∧ tkl (fun b _ => b = q_rf X a 20) (fun _ _ => False) τ τ' ∧ rg V' c' ∧ m_G c' ∧ gd_V V V' t P kd tn W u ∧ gd_C c c' t P kd tn W u ∧ P = c 6 ∧ (t = P ↔ ¬ (F_X2_topTruth X σ (q_rf X g 2)).toInt = 0 ∨ q = P) ∧ (u = 0 ∨ u = 1) := by
  obtain ⟨b0, b2, b4, b5, b6, b7, b9, b79⟩ := hG.1
  have one : (1 : Int32).toInt = 1 := rfl
  have r9 : (τ.1 (q_rf X a 20) (9 : Int32).toNatClampNeg).toInt = c 9 := gm_cell (A := 9) hc rfl
  have f20 : (σ.1 (q_rf X g 2) 0).toInt = c 9 := (w.rd (id := 2) (by decide) 0 rfl).trans R.2.2.2.2.1.1
  have so := rg.sort Y G w R hG hc (v1 := σ.1 (q_rf X g 2) 0 - 1) (v1' := τ.1 (q_rf X a 20) (9 : Int32).toNatClampNeg - 1) (k := c 9 - 1) (by rw [ar_sub, f20, one, ar_wr (by omega) (by omega)]) (by rw [ar_sub, r9, one, ar_wr (by omega) (by omega)]) ⟨by omega, by omega⟩
  obtain ⟨s, hs⟩ : ∃ s, s = (F_X12_sortOf X τ a (τ.1 (q_rf X a 20) (9 : Int32).toNatClampNeg - 1)).toInt := ⟨_, rfl⟩
  have tt : (F_X2_topTruth X σ (q_rf X g 2)).toInt = s := by
    unfold F_X2_topTruth
    rw [q_letE, q_letE, q_letE]
    exact so.1.trans hs.symm
  obtain ⟨z, σ', V', x1, x2, x3, x4⟩ := gm_challenge Y G w R hG h7 hW hv hq tt
  obtain ⟨z', τ', c', y1, y2, y3, y4, y5, y6⟩ := gm_doubts hc hG h7 hW hv' hq hs.symm
  have rr := rg.doubt R hG (P := c 6) ⟨by omega, by omega⟩ (by split <;> omega) (by have w8 := R.2.1.2.2.1.2; split <;> (try split) <;> omega) x4 y5
  refine ⟨z, z', σ', τ', V', c', _, _, _, _, _, _, x1, y1, x2, y2, ?_, x3, y3, y4, rr, y6, x4, y5, rfl, ?_, ?_⟩
  · split
    · exact Or.inl rfl
    · exact Or.inr rfl
  · rw [tt]
    by_cases e : s = 0
    · rw [if_pos e]
      constructor
      · intro h; exact Or.inr h
      · rintro (h | h)
        · exact absurd e h
        · exact h
    · rw [if_neg e]
      exact ⟨fun _ => Or.inl e, fun _ => rfl⟩
  · split
    · exact Or.inl rfl
    · exact Or.inr rfl
end GJ
