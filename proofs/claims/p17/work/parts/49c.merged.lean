/-! FROM 49c.letlie.lean.txt -/
/-! A LAYING LEFT: class and reference -/
section GC
variable {X : XW} {lb : Nat → Nat} {g o a : Nat} {σ τ σ0 τ0 : ST} {V : Nat → Int → Int} {c : Int → Int}
theorem gm_winIfRid (Y : y_S X lb) (G : y_G X lb g o) (w : y_W X lb g o σ0 σ V) {p : Int} (h5 : V 0 5 = p) (hp : 0 ≤ p ∧ p < 6) : y_W X lb g o σ0 (F_X0_winIfRid X σ g) (y_up V 0 6 (if V 9 p = 0 then p else V 0 6)) := by
  have e5 : (σ.1 g 5).toInt = p := (w.rd (id := 0) (by decide) 5 rfl).trans h5
  have gn9 : ((y_gn 9 : Nat) : Int) = 6 := rfl
  have e9 : (F_X5_get X σ (q_rf X (q_rf X g 1) 2) (σ.1 g 5)).toInt = V 9 p := y_getI Y G w (id := 9) ⟨by decide, by decide⟩ rfl e5 hp.1 (by rw [gn9]; exact hp.2)
  unfold F_X0_winIfRid
  rw [q_letE (σ.1 g 5), q_letE (F_X5_get X σ (q_rf X (q_rf X g 1) 2) (σ.1 g 5)), e9]
  by_cases q : V 9 p = 0
  · rw [if_pos q, if_pos q, q_letE, q_letE]
    have w2 := w.si Y G (id := 0) (by decide) 6 (σ.1 g 5)
    rw [e5] at w2
    exact w2
  · rw [if_neg q, if_neg q, y_up_id]
    exact w
theorem gm_letLie (Y : y_S X lb) (G : y_G X lb g o) (ha : q_kd X a = 12) (w : y_W X lb g o σ0 σ V) (R : rg V c) (hG : m_G c) (hc : m_c X τ a = c) (h7 : c 7 = 1) :
    ∃ (V' : Nat → Int → Int) (c' : Int → Int), y_W X lb g o σ0 (F_X0_letLie X σ g) V' ∧ m_c X (F_X12_leaves X τ a) a = c' ∧ tkl (fun b _ => b = q_rf X a 20) (fun _ _ => False) τ (F_X12_leaves X τ a) ∧ rg V' c' ∧ (∀ id i, id ≠ 0 → V' id i = V id i) ∧ (∀ j : Int, j ≠ 5 → j ≠ 6 → j ≠ 7 → j ≠ 8 → c' j = c j) ∧ m_G c' := by
  have hH := hG.1
  obtain ⟨b0, b2, b4, b5, b6, b7, b9, b79⟩ := hG.1
  obtain ⟨P, hP⟩ : ∃ P, P = c 6 := ⟨_, rfl⟩
  have pr : 0 ≤ P ∧ P < c 2 := by omega
  have rs := R.2.1
  have rt := R.1
  have n2 : ¬ c 2 = 0 := by omega
  have v5 : V 0 5 = P := by
    have z := rs.2.1
    rw [if_neg n2] at z
    exact z.trans hP.symm
  have z0 : (0 : Int32).toInt = 0 := rfl
  obtain ⟨W, hW⟩ : ∃ W : Int, W = (if m_S c (34 + 10 * P) 10 = 0 then P else c 8) := ⟨_, rfl⟩
  obtain ⟨Kd, hKd⟩ : ∃ K, K = gm_nk c (c 5) := ⟨_, rfl⟩
  obtain ⟨Tn, hTn⟩ : ∃ T, T = (P + 1) % c 2 := ⟨_, rfl⟩
  -- the class
  have cls : y_W X lb g o σ0 (F_X0_letLie X σ g) (y_up (y_up (y_up (y_up V 0 7 0) 0 6 W) 0 4 Kd) 0 5 Tn) := by
    have w1 : y_W X lb g o σ0 (q_si σ g 7 0) (y_up V 0 7 0) := w.si Y G (id := 0) (by decide) 7 0
    unfold F_X0_letLie
    rw [q_letE (q_si σ g 7 0)]
    obtain ⟨σ1, e1⟩ : ∃ s, s = q_si σ g 7 0 := ⟨_, rfl⟩
    rw [← e1] at w1 ⊢
    have w2 := gm_winIfRid Y G w1 (p := P) ((y_up_ne (Or.inr (by decide))).trans v5) ⟨pr.1, by omega⟩
    have r9 : y_up V 0 7 0 9 P = m_S c (34 + 10 * P) 10 := (y_up_ne (Or.inl (by decide))).trans (R.2.2.2.1.2 P pr.1 (by omega))
    have r6 : y_up V 0 7 0 0 6 = c 8 := (y_up_ne (Or.inr (by decide))).trans rs.2.2.1.1
    rw [r9, r6, ← hW] at w2
    rw [q_letE (F_X0_winIfRid X σ1 g)]
    obtain ⟨σ2, e2⟩ : ∃ s, s = F_X0_winIfRid X σ1 g := ⟨_, rfl⟩
    rw [← e2] at w2 ⊢
    have k4 : (σ2.1 g 4).toInt = c 5 := by
      refine (w2.rd (id := 0) (by decide) 4 rfl).trans ?_
      rw [y_up_ne (Or.inr (by decide)), y_up_ne (Or.inr (by decide))]
      exact rs.1
    have t2 : rg_t (y_up (y_up V 0 7 0) 0 6 W) c := by
      obtain ⟨t1, t2, t3, t4, t5, t6⟩ := rt
      refine ⟨?_, ?_, ?_, ?_, ?_, t6⟩
      · rw [y_up_ne (Or.inl (by decide)), y_up_ne (Or.inl (by decide))]; exact t1
      · rw [y_up_ne (Or.inl (by decide)), y_up_ne (Or.inl (by decide))]; exact t2
      · rw [y_up_ne (Or.inl (by decide)), y_up_ne (Or.inl (by decide))]; exact t3
      · rw [y_up_ne (Or.inl (by decide)), y_up_ne (Or.inl (by decide))]; exact t4
      · rw [y_up_ne (Or.inl (by decide)), y_up_ne (Or.inl (by decide))]; exact t5
    have ka := gm_kindAfter w2 t2 hH k4 b5
    rw [← hKd] at ka
    rw [q_letE (σ2.1 g 4), q_letE (F_X6_kindAfter X σ2 (q_rf X g 0) (σ2.1 g 4) 1)]
    have w3 : y_W X lb g o σ0 (q_si σ2 g 4 (F_X6_kindAfter X σ2 (q_rf X g 0) (σ2.1 g 4) 1)) _ := w2.si Y G (id := 0) (by decide) 4 (F_X6_kindAfter X σ2 (q_rf X g 0) (σ2.1 g 4) 1)
    rw [ka] at w3
    rw [q_letE (q_si σ2 g 4 (F_X6_kindAfter X σ2 (q_rf X g 0) (σ2.1 g 4) 1))]
    obtain ⟨σ3, e3⟩ : ∃ s, s = q_si σ2 g 4 (F_X6_kindAfter X σ2 (q_rf X g 0) (σ2.1 g 4) 1) := ⟨_, rfl⟩
    rw [← e3] at w3 ⊢
    have w3' : y_W X lb g o σ0 σ3 (y_up (y_up (y_up V 0 7 0) 0 6 W) 0 4 Kd) := w3
    have k5 : (σ3.1 g 5).toInt = P := by
      refine (w3'.rd (id := 0) (by decide) 5 rfl).trans ?_
      rw [y_up_ne (Or.inr (by decide)), y_up_ne (Or.inr (by decide)), y_up_ne (Or.inr (by decide))]
      exact v5
    have t3 : rg_t (y_up (y_up (y_up V 0 7 0) 0 6 W) 0 4 Kd) c := by
      obtain ⟨s1, s2, s3, s4, s5, s6⟩ := t2
      refine ⟨?_, ?_, ?_, ?_, ?_, s6⟩
      · rw [y_up_ne (Or.inl (by decide))]; exact s1
      · rw [y_up_ne (Or.inl (by decide))]; exact s2
      · rw [y_up_ne (Or.inl (by decide))]; exact s3
      · rw [y_up_ne (Or.inl (by decide))]; exact s4
      · rw [y_up_ne (Or.inl (by decide))]; exact s5
    have pa := gm_playerAfter w3' t3 hH k5 pr
    rw [← hTn] at pa
    rw [q_letE (σ3.1 g 5), q_letE (F_X6_playerAfter X σ3 (q_rf X g 0) (σ3.1 g 5) 1), q_letE]
    have w4 : y_W X lb g o σ0 (q_si σ3 g 5 (F_X6_playerAfter X σ3 (q_rf X g 0) (σ3.1 g 5) 1)) _ := w3'.si Y G (id := 0) (by decide) 5 (F_X6_playerAfter X σ3 (q_rf X g 0) (σ3.1 g 5) 1)
    rw [pa] at w4
    exact w4
  -- the reference
  have mdl : m_c X (F_X12_leaves X τ a) a = m_up (m_up (m_up (m_up c 7 0) 8 W) 5 Kd) 6 Tn ∧ tkl (fun b _ => b = q_rf X a 20) (fun _ _ => False) τ (F_X12_leaves X τ a) := by
    have r6 : (τ.1 (q_rf X a 20) (6 : Int32).toNatClampNeg).toInt = P := (gm_cell hc rfl).trans hP.symm
    unfold F_X12_leaves
    rw [q_letE (τ.1 (q_rf X a 20) (6 : Int32).toNatClampNeg)]
    obtain ⟨f, hf⟩ : ∃ f, f = τ.1 (q_rf X a 20) (6 : Int32).toNatClampNeg := ⟨_, rfl⟩
    rw [← hf] at r6 ⊢
    have c1 : m_c X (q_si τ (q_rf X a 20) (7 : Int32).toNatClampNeg 0) a = m_up c 7 0 := by
      rw [m_c_up 7 (by decide) rfl, hc, z0]
    have k1 : tkl (fun b _ => b = q_rf X a 20) (fun _ _ => False) τ (q_si τ (q_rf X a 20) (7 : Int32).toNatClampNeg 0) := tkl.rf.si _ rfl
    rw [q_letE (q_si τ (q_rf X a 20) (7 : Int32).toNatClampNeg 0)]
    obtain ⟨τ1, e1⟩ : ∃ s, s = q_si τ (q_rf X a 20) (7 : Int32).toNatClampNeg 0 := ⟨_, rfl⟩
    rw [← e1] at c1 k1 ⊢
    have cd : (F_X12_cardsOf X τ1 a f).toInt = m_S c (34 + 10 * P) 10 := by
      have z := gm_cardsL c1 (fun p k a1 a2 a3 a4 => by rw [m_up_ne (by omega)]; exact hG.h80 a1 a2 a3 a4) r6 ⟨pr.1, by omega⟩ ((2147483647 - (0 : Int32).toInt).toNat + 1) 0 0 (by decide) (by decide) (by decide) (by rw [z0]; rfl) (by decide) (by decide)
      unfold F_X12_cardsOf
      rw [z]
      exact m_S_ext (fun j a1 a2 => m_up_ne (by omega))
    rw [q_letE (F_X12_cardsOf X τ1 a f), cd]
    -- kind and turn behind the winner
    have fin : ∀ τ2 : ST, m_c X τ2 a = m_up (m_up c 7 0) 8 W → tkl (fun b _ => b = q_rf X a 20) (fun _ _ => False) τ τ2 →
        m_c X (q_let (F_X12_nextKind X τ2 a (1 : Int32) : Int32) (fun r_8 => q_let (q_si τ2 (q_rf X a 20) (5 : Int32).toNatClampNeg r_8 : ST) (fun σ_10 => q_let (F_X12_behindOf X σ_10 a f : Int32) (fun r_11 => q_let (q_si σ_10 (q_rf X a 20) (6 : Int32).toNatClampNeg r_11 : ST) (fun σ_13 => σ_13))))) a = m_up (m_up (m_up (m_up c 7 0) 8 W) 5 Kd) 6 Tn ∧
        tkl (fun b _ => b = q_rf X a 20) (fun _ _ => False) τ (q_let (F_X12_nextKind X τ2 a (1 : Int32) : Int32) (fun r_8 => q_let (q_si τ2 (q_rf X a 20) (5 : Int32).toNatClampNeg r_8 : ST) (fun σ_10 => q_let (F_X12_behindOf X σ_10 a f : Int32) (fun r_11 => q_let (q_si σ_10 (q_rf X a 20) (6 : Int32).toNatClampNeg r_11 : ST) (fun σ_13 => σ_13))))) := by
      intro τ2 c2 k2
      have d : ∀ j : Int, j ≠ 7 → j ≠ 8 → m_up (m_up c 7 0) 8 W j = c j := fun j a1 a2 => by rw [m_up_ne a2, m_up_ne a1]
      have nk := gm_nextKind c2 (by rw [d 0 (by decide) (by decide)]; exact b0) (by rw [d 5 (by decide) (by decide), d 0 (by decide) (by decide)]; exact b5) (by rw [d 3 (by decide) (by decide)]; exact rt.2.2.2.2.2)
      have ek : gm_nk (m_up (m_up c 7 0) 8 W) (m_up (m_up c 7 0) 8 W 5) = Kd := by
        unfold gm_nk at hKd ⊢
        rw [d 3 (by decide) (by decide), d 5 (by decide) (by decide), d 0 (by decide) (by decide)]
        exact hKd.symm
      rw [ek] at nk
      rw [q_letE (F_X12_nextKind X τ2 a 1)]
      have c3 : m_c X (q_si τ2 (q_rf X a 20) (5 : Int32).toNatClampNeg (F_X12_nextKind X τ2 a 1)) a = m_up (m_up (m_up c 7 0) 8 W) 5 Kd := by
        rw [m_c_up 5 (by decide) rfl, c2, nk]
      have k3 : tkl (fun b _ => b = q_rf X a 20) (fun _ _ => False) τ (q_si τ2 (q_rf X a 20) (5 : Int32).toNatClampNeg (F_X12_nextKind X τ2 a 1)) := k2.si _ rfl
      rw [q_letE (q_si τ2 (q_rf X a 20) (5 : Int32).toNatClampNeg (F_X12_nextKind X τ2 a 1))]
      obtain ⟨τ3, e3⟩ : ∃ s, s = q_si τ2 (q_rf X a 20) (5 : Int32).toNatClampNeg (F_X12_nextKind X τ2 a 1) := ⟨_, rfl⟩
      rw [← e3] at c3 k3 ⊢
      have d2 : m_up (m_up (m_up c 7 0) 8 W) 5 Kd 2 = c 2 := by rw [m_up_ne (by decide)]; exact d 2 (by decide) (by decide)
      have bh := gm_behindOf c3 (by rw [d2]; exact b2) r6 (by rw [d2]; exact pr)
      rw [d2, ← hTn] at bh
      rw [q_letE (F_X12_behindOf X τ3 a f), q_letE]
      refine ⟨?_, k3.si _ rfl⟩
      rw [m_c_up 6 (by decide) rfl, c3, bh]
    by_cases q : m_S c (34 + 10 * P) 10 = 0
    · rw [if_pos q] at hW
      rw [if_pos q, q_letE (q_si τ1 (q_rf X a 20) (8 : Int32).toNatClampNeg f)]
      exact fin _ (by rw [m_c_up 8 (by decide) rfl, c1, r6, hW]) (k1.si _ rfl)
    · rw [if_neg q] at hW
      rw [if_neg q]
      refine fin τ1 ?_ k1
      rw [c1, hW]
      have e8 : m_up c 7 0 8 = c 8 := m_up_ne (by decide)
      have z := m_up_id (m_up c 7 0) 8
      rw [e8] at z
      exact z.symm
  have hV' : ∀ id i, id ≠ 0 → y_up (y_up (y_up (y_up V 0 7 0) 0 6 W) 0 4 Kd) 0 5 Tn id i = V id i := fun id i h => by
    rw [y_up_ne (Or.inl h), y_up_ne (Or.inl h), y_up_ne (Or.inl h), y_up_ne (Or.inl h)]
  have hc' : ∀ j : Int, j ≠ 5 → j ≠ 6 → j ≠ 7 → j ≠ 8 → m_up (m_up (m_up (m_up c 7 0) 8 W) 5 Kd) 6 Tn j = c j := fun j a1 a2 a3 a4 => by
    rw [m_up_ne a2, m_up_ne a1, m_up_ne a4, m_up_ne a3]
  have kb : 0 ≤ Kd ∧ Kd < c 0 := by
    rw [hKd]
    unfold gm_nk
    have n0 : c 0 ≠ 0 := by omega
    have m1 := Int.emod_nonneg (c 5 + 1) n0
    have m2 := Int.emod_lt_of_pos (c 5 + 1) (by omega : 0 < c 0)
    have m3 := Int.emod_nonneg (c 5 - 1) n0
    have m4 := Int.emod_lt_of_pos (c 5 - 1) (by omega : 0 < c 0)
    split
    · exact b5
    · split
      · exact ⟨m1, m2⟩
      · exact ⟨m3, m4⟩
  have tb : 0 ≤ Tn ∧ Tn < c 2 := by
    rw [hTn]
    exact ⟨Int.emod_nonneg _ (by omega), Int.emod_lt_of_pos _ (by omega)⟩
  have g1 : m_G (m_up c 7 0) := hG.wr m_up_e (Or.inl ⟨rfl, rfl⟩)
  have g2 : m_G (m_up (m_up c 7 0) 8 W) := g1.wr m_up_e (Or.inr (Or.inl rfl))
  have e20 : m_up (m_up c 7 0) 8 W 0 = c 0 := by rw [m_up_ne (by decide), m_up_ne (by decide)]
  have g3 : m_G (m_up (m_up (m_up c 7 0) 8 W) 5 Kd) := g2.wr m_up_e (Or.inr (Or.inr (Or.inr (Or.inl ⟨rfl, kb.1, by rw [e20]; exact kb.2⟩))))
  have e32 : m_up (m_up (m_up c 7 0) 8 W) 5 Kd 2 = c 2 := by rw [m_up_ne (by decide), m_up_ne (by decide), m_up_ne (by decide)]
  have e37 : m_up (m_up (m_up c 7 0) 8 W) 5 Kd 7 = 0 := by rw [m_up_ne (by decide), m_up_ne (by decide), m_up_eq]
  have g4 : m_G (m_up (m_up (m_up (m_up c 7 0) 8 W) 5 Kd) 6 Tn) := g3.wr m_up_e (Or.inr (Or.inr (Or.inr (Or.inr (Or.inl ⟨rfl, tb.1, by rw [e32]; exact tb.2, e37⟩)))))
  refine ⟨_, _, cls, mdl.1, mdl.2, R.st hV' hc' ⟨?_, ?_, ⟨?_, ?_⟩, ?_⟩, hV', hc', g4⟩
  · rw [y_up_ne (Or.inr (by decide)), y_up_eq, m_up_ne (by decide), m_up_eq]
  · rw [y_up_eq, hc' 2 (by decide) (by decide) (by decide) (by decide), if_neg n2, m_up_eq]
  · rw [y_up_ne (Or.inr (by decide)), y_up_ne (Or.inr (by decide)), y_up_eq, m_up_ne (by decide), m_up_ne (by decide), m_up_eq]
  · rw [m_up_ne (by decide), m_up_ne (by decide), m_up_eq, hW]
    have w8 := rs.2.2.1.2
    split <;> omega
  · rw [y_up_ne (Or.inr (by decide)), y_up_ne (Or.inr (by decide)), y_up_ne (Or.inr (by decide)), y_up_eq, m_up_ne (by decide), m_up_ne (by decide), m_up_ne (by decide), m_up_eq]
end GC
