/-! THE WORLD IS A FOREST: labels -/
def y_root (X : XW) (c : Nat) : Prop := ∀ a f, q_rk (q_kd X a) f ≠ 0 → q_rf X a f ≠ c
def y_Fo (X : XW) : Prop := (∀ a f, q_rk (q_kd X a) f ≠ 0 → a < q_rf X a f) ∧ (∀ a f b g, q_rk (q_kd X a) f ≠ 0 → q_rk (q_kd X b) g ≠ 0 → q_rf X a f = q_rf X b g → a = b ∧ f = g) ∧ ∀ a f, q_rk (q_kd X a) f = 5 → q_ln X (q_rf X (q_rf X a f) 0) = y_rl (q_kd X a) f
noncomputable def y_par (X : XW) (b : Nat) : Option (Nat × Nat) := @dite _ (∃ p : Nat × Nat, q_rk (q_kd X p.1) p.2 ≠ 0 ∧ q_rf X p.1 p.2 = b) (Classical.propDecidable _) (fun h => some (Classical.choose h)) (fun _ => none)
noncomputable def y_lbn (X : XW) (C : Nat) : Nat → Nat → Nat
  | 0, _ => 0
  | n + 1, b => match y_par X b with | none => (if b = C then 1 else 0) | some p => y_lc (y_lbn X C n p.1) p.2
theorem y_par_s {X : XW} {b : Nat} {p : Nat × Nat} (h : y_par X b = some p) : q_rk (q_kd X p.1) p.2 ≠ 0 ∧ q_rf X p.1 p.2 = b := by
  unfold y_par at h
  by_cases q : ∃ p : Nat × Nat, q_rk (q_kd X p.1) p.2 ≠ 0 ∧ q_rf X p.1 p.2 = b
  · rw [dif_pos q] at h
    have z := Classical.choose_spec q
    rw [Option.some.inj h] at z
    exact z
  · rw [dif_neg q] at h
    cases h
theorem y_par_n {X : XW} {b : Nat} (h : y_root X b) : y_par X b = none := by
  unfold y_par
  refine dif_neg ?_
  rintro ⟨p, h1, h2⟩
  exact h p.1 p.2 h1 h2
theorem y_lbn_st {X : XW} {C : Nat} (F : y_Fo X) : ∀ n m b, b < n → b < m → y_lbn X C n b = y_lbn X C m b := by
  intro n
  induction n with
  | zero => intro m b h; exact absurd h (Nat.not_lt_zero _)
  | succ n ih =>
    intro m b h1 h2
    obtain ⟨m', rfl⟩ : ∃ m', m = m' + 1 := ⟨m - 1, by omega⟩
    show (match y_par X b with | none => (if b = C then 1 else 0) | some p => y_lc (y_lbn X C n p.1) p.2) = (match y_par X b with | none => (if b = C then 1 else 0) | some p => y_lc (y_lbn X C m' p.1) p.2)
    cases e : y_par X b with
    | none => rfl
    | some p =>
      obtain ⟨z1, z2⟩ := y_par_s e
      have z3 := F.1 p.1 p.2 z1
      rw [z2] at z3
      show y_lc (y_lbn X C n p.1) p.2 = y_lc (y_lbn X C m' p.1) p.2
      rw [ih m' p.1 (by omega) (by omega)]
theorem y_Fo.lb {X : XW} (F : y_Fo X) (T : q_T X) {C : Nat} (hC : y_root X C) : ∃ lb : Nat → Nat, y_S X lb ∧ lb C = 1 := by
  refine ⟨fun b => y_lbn X C (b + 1) b, ⟨T, fun a f h => ?_, F.2.2⟩, ?_⟩
  · obtain ⟨b, hb⟩ : ∃ b, b = q_rf X a f := ⟨_, rfl⟩
    have lt := F.1 a f h
    rw [← hb] at lt
    show y_lbn X C (q_rf X a f + 1) (q_rf X a f) = y_lc (y_lbn X C (a + 1) a) f
    rw [← hb]
    show (match y_par X b with | none => (if b = C then 1 else 0) | some p => y_lc (y_lbn X C b p.1) p.2) = _
    cases e : y_par X b with
    | none =>
      exfalso
      unfold y_par at e
      rw [dif_pos ⟨(a, f), h, hb.symm⟩] at e
      cases e
    | some p =>
      obtain ⟨z1, z2⟩ := y_par_s e
      obtain ⟨e1, e2⟩ := F.2.1 p.1 p.2 a f z1 h (z2.trans hb)
      show y_lc (y_lbn X C b p.1) p.2 = _
      rw [e1, e2, y_lbn_st F b (a + 1) a lt (by omega)]
  · show (match y_par X C with | none => (if C = C then 1 else 0) | some p => y_lc (y_lbn X C C p.1) p.2) = 1
    rw [y_par_n hC]
    show (if C = C then 1 else 0) = 1
    rw [if_pos rfl]
/-- the class's root: where its reader, games and tape lie -/
theorem y_Cls {X : XW} {lb : Nat → Nat} {C a : Nat} (S : y_S X lb) (hC : q_kd X C = 11) (ha : q_kd X a = 12) (h1 : lb C = 1) (h9 : q_ln X (q_rf X a 7) = 900) : tb_Cls X lb C a := by
  obtain ⟨T, L, N⟩ := id S
  have kD : q_kd X (q_rf X C 12) = 9 := (T.1 C 12 (by rw [hC]; decide)).trans (by rw [hC]; rfl)
  have lD : lb (q_rf X C 12) = 28 := (L C 12 (by rw [hC]; decide)).trans (by rw [h1]; decide)
  have kG : q_kd X (q_rf X (q_rf X C 12) 8) = 1 := (T.1 (q_rf X C 12) 8 (by rw [kD]; decide)).trans (by rw [kD]; rfl)
  have lG : lb (q_rf X (q_rf X C 12) 8) = 8192 * 6 + 1 := (L (q_rf X C 12) 8 (by rw [kD]; decide)).trans (by rw [lD]; decide)
  have kR : q_kd X (q_rf X (q_rf X C 12) 11) = 5 := (T.1 (q_rf X C 12) 11 (by rw [kD]; decide)).trans (by rw [kD]; rfl)
  have lR : lb (q_rf X (q_rf X C 12) 11) = 459 := (L (q_rf X C 12) 11 (by rw [kD]; decide)).trans (by rw [lD]; decide)
  have kA : q_kd X (tb_T X (q_rf X C 12)) = 20 := (T.1 (q_rf X (q_rf X C 12) 11) 0 (by rw [kR]; decide)).trans (by rw [kR]; rfl)
  have lA : lb (tb_T X (q_rf X C 12)) = 7344 := (L (q_rf X (q_rf X C 12) 11) 0 (by rw [kR]; decide)).trans (by rw [lR]; decide)
  have nA : q_ln X (tb_T X (q_rf X C 12)) = 6 := (N (q_rf X C 12) 11 (by rw [kD]; rfl)).trans (by rw [kD]; rfl)
  have kT : q_kd X (q_rf X C 4) = 22 := (T.1 C 4 (by rw [hC]; decide)).trans (by rw [hC]; rfl)
  have lT : lb (q_rf X C 4) = 20 := (L C 4 (by rw [hC]; decide)).trans (by rw [h1]; decide)
  have k8 : q_kd X (q_rf X C 8) = 1 := (T.1 C 8 (by rw [hC]; decide)).trans (by rw [hC]; rfl)
  have l8 : lb (q_rf X C 8) = 8192 * 1 + 1 := (L C 8 (by rw [hC]; decide)).trans (by rw [h1]; decide)
  refine ⟨hC, ha, S, ⟨kD, rfl, ⟨kG, lG, by decide⟩, by omega, by omega, by omega, kA, nA, kT⟩, ⟨k8, l8, by decide⟩, T.2.2.2 C hC, h9, by omega⟩
