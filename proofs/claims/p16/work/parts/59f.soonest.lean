/-! OBSERVERS: who is soonest rid of all -/
section QF
variable {X : XW} {lb : Nat → Nat} {C a : Nat} {σ τ : ST} {n : Int}
theorem ob_soonestL (K : al_C X lb C a) (A : al_R X C a σ τ) (M : m_M (m_c X τ a) (τ.1 a 24).toInt n) (fu : Nat) : ∀ (x y y' z : Int32) (σ1 τ1 : ST), (2147483647 - z.toInt).toNat < fu → 0 ≤ z.toInt → -1 ≤ x.toInt → (y.toInt = y'.toInt ∨ 60 < y.toInt ∧ 60 < y'.toInt) → tkl (fs_C X C) (fun _ _ => False) σ σ1 → tkl (fo_S X a) (fun _ _ => False) (q_si (q_si τ a 1 0) a 0 0) τ1 → ob_O X C a (F_X11_soonest_L7_1 X C fu x y z σ1) (F_X12_soonest_L17_1 X a fu x y' z τ1) := by
  obtain ⟨kC, ka, S, lC, G8, G9, GM⟩ := id K
  obtain ⟨m2, s2, t2⟩ := mv_beg S.1 ka (rfl : m_c X τ a = m_c X τ a)
  have b2 := M.1.1.1.2.1
  induction fu with
  | zero => intro x y y' z σ1 τ1 h; exact absurd h (Nat.not_lt_zero _)
  | succ fu ih =>
    intro x y y' z σ1 τ1 hf z0 x0 hy h1 h2
    have B : al_R X C a σ1 τ := A.fs K M h1
    have mc1 : m_c X τ1 a = m_c X τ a := (fo_Sc S.1 ka h2).trans m2
    have w : y_W X lb (q_rf X C 8) 1 σ1 σ1 (y_v X (q_rf X C 8) σ1) := y_W.rf
    have f4 : (σ1.1 (q_rf X (q_rf X C 8) 0) 4).toInt = m_c X τ a 2 := (w.rd (id := 1) (by decide) 4 rfl).trans B.1.1.1.2.2.2.2.1
    have g2 : (τ1.1 (q_rf X a 20) (2 : Int32).toNatClampNeg).toInt = m_c X τ a 2 := gm_cell (A := 2) mc1 rfl
    rw [F_X11_soonest_L7_1_s, F_X12_soonest_L17_1_s]
    unfold F_X11_soonest_B7_1 F_X12_soonest_B17_1
    rw [q_letE (σ1.1 (q_rf X (q_rf X C 8) 0) 4), f4, q_letE (τ1.1 (q_rf X a 20) (2 : Int32).toNatClampNeg), g2]
    by_cases q : z.toInt < m_c X τ a 2
    · have e1 : (z + 1).toInt = z.toInt + 1 := y_inc (by omega)
      obtain ⟨V2, w2, c11, c12, c13, c14, -⟩ := fo_class S G8 (rfl : y_v X (q_rf X C 8) σ1 = _) B.1.1 M.1.1 (v1 := z) (v2 := 60) (t := 60) rfl ⟨z0, q⟩ rfl (by decide)
      obtain ⟨u, τ2, e2, e3, T2, -⟩ := fo_rid S ka M.1.1 A.1.1.1.2.2.2.2.2 mc1 (v1 := z) rfl ⟨z0, q⟩
      obtain ⟨σ2, es⟩ : ∃ s, s = F_X0_foresee X σ1 (q_rf X C 8) z 60 := ⟨_, rfl⟩
      have h1' : tkl (fs_C X C) (fun _ _ => False) σ σ2 := by rw [es]; exact h1.tr (fs_Cs z 60)
      have h2' := h2.tr T2
      rw [← es] at w2
      have f12 : (σ2.1 (q_rf X C 8) 12).toInt = fo_r (m_c X τ a) z.toInt 60 := (w2.rd (id := 0) (by decide) 12 rfl).trans c12
      have rb := fo_r_b (c := m_c X τ a) (p := z.toInt) 60
      have rs := (fo_r_s (c := m_c X τ a) (p := z.toInt) 60).2
      rw [if_pos q, if_pos q, ← es, q_letE σ2, q_letE (σ2.1 (q_rf X C 8) 12), f12, e2, q_biP u τ2, e3]
      by_cases q1 : fo_r (m_c X τ a) z.toInt 60 = -1
      · rw [if_pos q1, if_pos (by omega), q_letE (z + 1), q_letE (z + 1)]
        exact ih x y y' (z + 1) σ2 τ2 (by omega) (by omega) x0 hy h1' h2'
      · have r2 := rs q1
        have r60 : fo_r (m_c X τ a) z.toInt 60 ≤ 60 := r2.2.1
        rw [if_neg q1, if_neg (by omega), q_letE (σ2.1 (q_rf X C 8) 12), f12]
        by_cases q2 : fo_r (m_c X τ a) z.toInt 60 < y.toInt
        · rw [if_pos q2, if_pos (by omega), q_letE (σ2.1 (q_rf X C 8) 12), q_letE (z + 1), q_letE (z + 1)]
          exact ih z (σ2.1 (q_rf X C 8) 12) u (z + 1) σ2 τ2 (by omega) (by omega) (by omega) (Or.inl (f12.trans e3.symm)) h1' h2'
        · rw [if_neg q2, if_neg (by omega), q_letE (z + 1), q_letE (z + 1)]
          exact ih x y y' (z + 1) σ2 τ2 (by omega) (by omega) x0 hy h1' h2'
    · rw [if_neg q, if_neg q]
      unfold F_X11_soonest_E69_2 F_X12_soonest_E59_2
      exact fo_gn K A M h1 h2 rfl x0
theorem ob_soonest (K : al_C X lb C a) (A : al_R X C a σ τ) (M : m_M (m_c X τ a) (τ.1 a 24).toInt n) : ob_O X C a (F_X11_soonest X σ C) (F_X12_soonest X τ a) := by
  unfold F_X11_soonest F_X12_soonest
  rw [q_letE (q_si τ a 1 0), q_letE (q_si (q_si τ a 1 0) a 0 0)]
  exact ob_soonestL K A M _ (-1) 61 99 0 σ _ (Nat.lt_succ_self _) (by decide) (by decide) (Or.inr ⟨by decide, by decide⟩) tkl.rf tkl.rf
end QF
