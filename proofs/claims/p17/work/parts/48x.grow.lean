/-! THE FOREST GROWS (q_xg's parts, by name: kinds, references, lengths) -/
def y_rt (X X' : XW) : Prop := ∀ c, q_kd X c ≠ 0 → y_root X c → y_root X' c
theorem y_rt.rf {X : XW} : y_rt X X := fun _ _ h => h
theorem y_rt.tr {X X1 X2 : XW} (h : y_rt X X1) (k : y_rt X1 X2) (hk : ∀ c, q_kd X c ≠ 0 → q_kd X1 c ≠ 0) : y_rt X X2 := fun c hc hr => k c (hk c hc) (h c hc hr)
/-- X' is X with an object h of kind k, references rf, length n -/
def y_ad1 (X X' : XW) (h k n : Nat) (rf : Nat → Nat) : Prop := (∀ a, q_kd X' a = if a = h then k else q_kd X a) ∧ (∀ a f, q_rf X' a f = if a = h then rf f else q_rf X a f) ∧ ∀ a, q_ln X' a = if a = h then n else q_ln X a
section YG
variable {X X' : XW} {h k n : Nat} {rf : Nat → Nat}
theorem y_Fo.add (F : y_Fo X) (T : q_T X) (A : y_ad1 X X' h k n rf) (h0 : q_kd X h = 0) (hrk : ∀ f, q_rk k f ≠ 0 → q_kd X (rf f) = q_rk k f) (hup : ∀ f, q_rk k f ≠ 0 → h < rf f) (hinj : ∀ f g, q_rk k f ≠ 0 → q_rk k g ≠ 0 → rf f = rf g → f = g) (hroot : ∀ f, q_rk k f ≠ 0 → y_root X (rf f)) (hrow : ∀ f, q_rk k f = 5 → q_ln X (q_rf X (rf f) 0) = y_rl k f) : y_Fo X' := by
  obtain ⟨A1, A2, A3⟩ := A
  obtain ⟨F1, F2, F3⟩ := F
  have ne : ∀ a, q_kd X a ≠ 0 → a ≠ h := fun a ha e => ha (by rw [e]; exact h0)
  refine ⟨fun a f hf => ?_, fun a f b g hf hg e => ?_, fun a f hf => ?_⟩
  · rw [A1] at hf
    rw [A2]
    by_cases q : a = h
    · rw [if_pos q] at hf ⊢
      rw [q]
      exact hup f hf
    · rw [if_neg q] at hf ⊢
      exact F1 a f hf
  · rw [A1] at hf hg
    rw [A2, A2] at e
    by_cases q : a = h
    · rw [if_pos q] at hf e
      by_cases q2 : b = h
      · rw [if_pos q2] at hg e
        exact ⟨q.trans q2.symm, hinj f g hf hg e⟩
      · rw [if_neg q2] at hg e
        exact absurd e.symm (hroot f hf b g hg)
    · rw [if_neg q] at hf e
      by_cases q2 : b = h
      · rw [if_pos q2] at hg e
        exact absurd e (hroot g hg a f hf)
      · rw [if_neg q2] at hg e
        exact F2 a f b g hf hg e
  · rw [A1] at hf ⊢
    rw [A2 a f]
    by_cases q : a = h
    · rw [if_pos q] at hf ⊢
      rw [if_pos q]
      have k5 : q_kd X (rf f) = 5 := (hrk f (by rw [hf]; decide)).trans hf
      have n1 : rf f ≠ h := ne _ (by rw [k5]; decide)
      have k20 : q_kd X (q_rf X (rf f) 0) = 20 := (T.1 (rf f) 0 (by rw [k5]; decide)).trans (by rw [k5]; rfl)
      have n2 : q_rf X (rf f) 0 ≠ h := ne _ (by rw [k20]; decide)
      rw [A2, if_neg n1, A3, if_neg n2]
      exact hrow f hf
    · rw [if_neg q] at hf ⊢
      rw [if_neg q]
      have k5 : q_kd X (q_rf X a f) = 5 := (T.1 a f (by rw [hf]; decide)).trans hf
      have n1 : q_rf X a f ≠ h := ne _ (by rw [k5]; decide)
      have k20 : q_kd X (q_rf X (q_rf X a f) 0) = 20 := (T.1 (q_rf X a f) 0 (by rw [k5]; decide)).trans (by rw [k5]; rfl)
      have n2 : q_rf X (q_rf X a f) 0 ≠ h := ne _ (by rw [k20]; decide)
      rw [A2, if_neg n1, A3, if_neg n2]
      exact F3 a f hf
theorem y_root.add {c : Nat} (R : y_root X c) (A : y_ad1 X X' h k n rf) (hne : ∀ f, q_rk k f ≠ 0 → rf f ≠ c) : y_root X' c := by
  obtain ⟨A1, A2, A3⟩ := A
  intro a f hf
  rw [A1] at hf
  rw [A2]
  by_cases q : a = h
  · rw [if_pos q] at hf ⊢
    exact hne f hf
  · rw [if_neg q] at hf ⊢
    exact R a f hf
/-- what is not in the world is no one's -/
theorem y_root.out {c : Nat} (T : q_T X) (h0 : q_kd X c = 0) : y_root X c := fun a f hf e => hf (by rw [← T.1 a f hf, e]; exact h0)
theorem y_rt.add {X0 : XW} (R : y_rt X0 X) (A : y_ad1 X X' h k n rf) (hne : ∀ f, q_rk k f ≠ 0 → q_kd X0 (rf f) = 0) : y_rt X0 X' := fun c hc hr => (R c hc hr).add A (fun f hf e => hc (by rw [← e]; exact hne f hf))
end YG
