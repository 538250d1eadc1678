/-! WHICH FIELDS REFER, AND THAT RISING REFERENCES ARE APART -/
theorem y_rk40 {k f : Nat} (h : 40 ≤ f) : q_rk k f = 0 := by
  unfold q_rk
  split <;> first | rfl | (split <;> first | rfl | omega)
theorem y_fs1 {f : Nat} (h : q_rk 1 f ≠ 0) : f = 0 ∨ f = 1 ∨ f = 2 ∨ f = 3 ∨ f = 8 ∨ f = 10 := by
  by_cases q : f < 40
  · exact (by decide : ∀ f, f < 40 → q_rk 1 f ≠ 0 → (f = 0 ∨ f = 1 ∨ f = 2 ∨ f = 3 ∨ f = 8 ∨ f = 10)) f q h
  · exact absurd (y_rk40 (by omega)) h
theorem y_in1 {rf : Nat → Nat} (a0 : rf 0 < rf 1) (a1 : rf 1 < rf 2) (a2 : rf 2 < rf 3) (a3 : rf 3 < rf 8) (a4 : rf 8 < rf 10) : ∀ f g, q_rk 1 f ≠ 0 → q_rk 1 g ≠ 0 → rf f = rf g → f = g := by
  intro f g hf hg e
  rcases y_fs1 hf with rfl | rfl | rfl | rfl | rfl | rfl <;> rcases y_fs1 hg with rfl | rfl | rfl | rfl | rfl | rfl <;> first | rfl | (exfalso; omega)
theorem y_fs2 {f : Nat} (h : q_rk 2 f ≠ 0) : f = 0 ∨ f = 1 ∨ f = 2 ∨ f = 3 ∨ f = 4 ∨ f = 5 ∨ f = 6 := by
  by_cases q : f < 40
  · exact (by decide : ∀ f, f < 40 → q_rk 2 f ≠ 0 → (f = 0 ∨ f = 1 ∨ f = 2 ∨ f = 3 ∨ f = 4 ∨ f = 5 ∨ f = 6)) f q h
  · exact absurd (y_rk40 (by omega)) h
theorem y_in2 {rf : Nat → Nat} (a0 : rf 0 < rf 1) (a1 : rf 1 < rf 2) (a2 : rf 2 < rf 3) (a3 : rf 3 < rf 4) (a4 : rf 4 < rf 5) (a5 : rf 5 < rf 6) : ∀ f g, q_rk 2 f ≠ 0 → q_rk 2 g ≠ 0 → rf f = rf g → f = g := by
  intro f g hf hg e
  rcases y_fs2 hf with rfl | rfl | rfl | rfl | rfl | rfl | rfl <;> rcases y_fs2 hg with rfl | rfl | rfl | rfl | rfl | rfl | rfl <;> first | rfl | (exfalso; omega)
theorem y_fs3 {f : Nat} (h : q_rk 3 f ≠ 0) : f = 2 ∨ f = 3 ∨ f = 4 ∨ f = 5 := by
  by_cases q : f < 40
  · exact (by decide : ∀ f, f < 40 → q_rk 3 f ≠ 0 → (f = 2 ∨ f = 3 ∨ f = 4 ∨ f = 5)) f q h
  · exact absurd (y_rk40 (by omega)) h
theorem y_in3 {rf : Nat → Nat} (a0 : rf 2 < rf 3) (a1 : rf 3 < rf 4) (a2 : rf 4 < rf 5) : ∀ f g, q_rk 3 f ≠ 0 → q_rk 3 g ≠ 0 → rf f = rf g → f = g := by
  intro f g hf hg e
  rcases y_fs3 hf with rfl | rfl | rfl | rfl <;> rcases y_fs3 hg with rfl | rfl | rfl | rfl <;> first | rfl | (exfalso; omega)
theorem y_fs4 {f : Nat} (h : q_rk 4 f ≠ 0) : f = 8 ∨ f = 9 := by
  by_cases q : f < 40
  · exact (by decide : ∀ f, f < 40 → q_rk 4 f ≠ 0 → (f = 8 ∨ f = 9)) f q h
  · exact absurd (y_rk40 (by omega)) h
theorem y_in4 {rf : Nat → Nat} (a0 : rf 8 < rf 9) : ∀ f g, q_rk 4 f ≠ 0 → q_rk 4 g ≠ 0 → rf f = rf g → f = g := by
  intro f g hf hg e
  rcases y_fs4 hf with rfl | rfl <;> rcases y_fs4 hg with rfl | rfl <;> first | rfl | (exfalso; omega)
theorem y_fs5 {f : Nat} (h : q_rk 5 f ≠ 0) : f = 0 := by
  by_cases q : f < 40
  · exact (by decide : ∀ f, f < 40 → q_rk 5 f ≠ 0 → (f = 0)) f q h
  · exact absurd (y_rk40 (by omega)) h
theorem y_in5 {rf : Nat → Nat} : ∀ f g, q_rk 5 f ≠ 0 → q_rk 5 g ≠ 0 → rf f = rf g → f = g := by
  intro f g hf hg e
  rw [y_fs5 hf, y_fs5 hg]
theorem y_fs6 {f : Nat} (h : q_rk 6 f ≠ 0) : f = 5 ∨ f = 6 ∨ f = 7 := by
  by_cases q : f < 40
  · exact (by decide : ∀ f, f < 40 → q_rk 6 f ≠ 0 → (f = 5 ∨ f = 6 ∨ f = 7)) f q h
  · exact absurd (y_rk40 (by omega)) h
theorem y_in6 {rf : Nat → Nat} (a0 : rf 5 < rf 6) (a1 : rf 6 < rf 7) : ∀ f g, q_rk 6 f ≠ 0 → q_rk 6 g ≠ 0 → rf f = rf g → f = g := by
  intro f g hf hg e
  rcases y_fs6 hf with rfl | rfl | rfl <;> rcases y_fs6 hg with rfl | rfl | rfl <;> first | rfl | (exfalso; omega)
theorem y_fs7 {f : Nat} (h : q_rk 7 f ≠ 0) : f = 7 := by
  by_cases q : f < 40
  · exact (by decide : ∀ f, f < 40 → q_rk 7 f ≠ 0 → (f = 7)) f q h
  · exact absurd (y_rk40 (by omega)) h
theorem y_in7 {rf : Nat → Nat} : ∀ f g, q_rk 7 f ≠ 0 → q_rk 7 g ≠ 0 → rf f = rf g → f = g := by
  intro f g hf hg e
  rw [y_fs7 hf, y_fs7 hg]
theorem y_fs8 {f : Nat} (h : q_rk 8 f ≠ 0) : f = 3 ∨ f = 4 ∨ f = 5 ∨ f = 6 ∨ f = 7 := by
  by_cases q : f < 40
  · exact (by decide : ∀ f, f < 40 → q_rk 8 f ≠ 0 → (f = 3 ∨ f = 4 ∨ f = 5 ∨ f = 6 ∨ f = 7)) f q h
  · exact absurd (y_rk40 (by omega)) h
theorem y_in8 {rf : Nat → Nat} (a0 : rf 3 < rf 4) (a1 : rf 4 < rf 5) (a2 : rf 5 < rf 6) (a3 : rf 6 < rf 7) : ∀ f g, q_rk 8 f ≠ 0 → q_rk 8 g ≠ 0 → rf f = rf g → f = g := by
  intro f g hf hg e
  rcases y_fs8 hf with rfl | rfl | rfl | rfl | rfl <;> rcases y_fs8 hg with rfl | rfl | rfl | rfl | rfl <;> first | rfl | (exfalso; omega)
theorem y_fs9 {f : Nat} (h : q_rk 9 f ≠ 0) : f = 8 ∨ f = 11 := by
  by_cases q : f < 40
  · exact (by decide : ∀ f, f < 40 → q_rk 9 f ≠ 0 → (f = 8 ∨ f = 11)) f q h
  · exact absurd (y_rk40 (by omega)) h
theorem y_in9 {rf : Nat → Nat} (a0 : rf 8 < rf 11) : ∀ f g, q_rk 9 f ≠ 0 → q_rk 9 g ≠ 0 → rf f = rf g → f = g := by
  intro f g hf hg e
  rcases y_fs9 hf with rfl | rfl <;> rcases y_fs9 hg with rfl | rfl <;> first | rfl | (exfalso; omega)
theorem y_fs10 {f : Nat} (h : q_rk 10 f ≠ 0) : f = 2 := by
  by_cases q : f < 40
  · exact (by decide : ∀ f, f < 40 → q_rk 10 f ≠ 0 → (f = 2)) f q h
  · exact absurd (y_rk40 (by omega)) h
theorem y_in10 {rf : Nat → Nat} : ∀ f g, q_rk 10 f ≠ 0 → q_rk 10 g ≠ 0 → rf f = rf g → f = g := by
  intro f g hf hg e
  rw [y_fs10 hf, y_fs10 hg]
theorem y_fs11 {f : Nat} (h : q_rk 11 f ≠ 0) : f = 3 ∨ f = 4 ∨ f = 8 ∨ f = 9 ∨ f = 10 ∨ f = 12 ∨ f = 13 ∨ f = 14 ∨ f = 15 := by
  by_cases q : f < 40
  · exact (by decide : ∀ f, f < 40 → q_rk 11 f ≠ 0 → (f = 3 ∨ f = 4 ∨ f = 8 ∨ f = 9 ∨ f = 10 ∨ f = 12 ∨ f = 13 ∨ f = 14 ∨ f = 15)) f q h
  · exact absurd (y_rk40 (by omega)) h
theorem y_in11 {rf : Nat → Nat} (a0 : rf 3 < rf 4) (a1 : rf 4 < rf 8) (a2 : rf 8 < rf 9) (a3 : rf 9 < rf 10) (a4 : rf 10 < rf 12) (a5 : rf 12 < rf 13) (a6 : rf 13 < rf 14) (a7 : rf 14 < rf 15) : ∀ f g, q_rk 11 f ≠ 0 → q_rk 11 g ≠ 0 → rf f = rf g → f = g := by
  intro f g hf hg e
  rcases y_fs11 hf with rfl | rfl | rfl | rfl | rfl | rfl | rfl | rfl | rfl <;> rcases y_fs11 hg with rfl | rfl | rfl | rfl | rfl | rfl | rfl | rfl | rfl <;> first | rfl | (exfalso; omega)
theorem y_fs12 {f : Nat} (h : q_rk 12 f ≠ 0) : f = 4 ∨ f = 5 ∨ f = 6 ∨ f = 7 ∨ f = 20 ∨ f = 21 ∨ f = 22 ∨ f = 23 ∨ f = 28 ∨ f = 29 ∨ f = 32 ∨ f = 36 := by
  by_cases q : f < 40
  · exact (by decide : ∀ f, f < 40 → q_rk 12 f ≠ 0 → (f = 4 ∨ f = 5 ∨ f = 6 ∨ f = 7 ∨ f = 20 ∨ f = 21 ∨ f = 22 ∨ f = 23 ∨ f = 28 ∨ f = 29 ∨ f = 32 ∨ f = 36)) f q h
  · exact absurd (y_rk40 (by omega)) h
theorem y_in12 {rf : Nat → Nat} (a0 : rf 4 < rf 5) (a1 : rf 5 < rf 6) (a2 : rf 6 < rf 7) (a3 : rf 7 < rf 20) (a4 : rf 20 < rf 21) (a5 : rf 21 < rf 22) (a6 : rf 22 < rf 23) (a7 : rf 23 < rf 28) (a8 : rf 28 < rf 29) (a9 : rf 29 < rf 32) (a10 : rf 32 < rf 36) : ∀ f g, q_rk 12 f ≠ 0 → q_rk 12 g ≠ 0 → rf f = rf g → f = g := by
  intro f g hf hg e
  rcases y_fs12 hf with rfl | rfl | rfl | rfl | rfl | rfl | rfl | rfl | rfl | rfl | rfl | rfl <;> rcases y_fs12 hg with rfl | rfl | rfl | rfl | rfl | rfl | rfl | rfl | rfl | rfl | rfl | rfl <;> first | rfl | (exfalso; omega)
theorem y_fs23 {f : Nat} (h : q_rk 23 f ≠ 0) : f = 0 ∨ f = 1 ∨ f = 2 ∨ f = 3 := by
  by_cases q : f < 40
  · exact (by decide : ∀ f, f < 40 → q_rk 23 f ≠ 0 → (f = 0 ∨ f = 1 ∨ f = 2 ∨ f = 3)) f q h
  · exact absurd (y_rk40 (by omega)) h
theorem y_in23 {rf : Nat → Nat} (a0 : rf 0 < rf 1) (a1 : rf 1 < rf 2) (a2 : rf 2 < rf 3) : ∀ f g, q_rk 23 f ≠ 0 → q_rk 23 g ≠ 0 → rf f = rf g → f = g := by
  intro f g hf hg e
  rcases y_fs23 hf with rfl | rfl | rfl | rfl <;> rcases y_fs23 hg with rfl | rfl | rfl | rfl <;> first | rfl | (exfalso; omega)
theorem y_fs24 {f : Nat} (h : q_rk 24 f ≠ 0) : f = 0 ∨ f = 1 ∨ f = 2 := by
  by_cases q : f < 40
  · exact (by decide : ∀ f, f < 40 → q_rk 24 f ≠ 0 → (f = 0 ∨ f = 1 ∨ f = 2)) f q h
  · exact absurd (y_rk40 (by omega)) h
theorem y_in24 {rf : Nat → Nat} (a0 : rf 0 < rf 1) (a1 : rf 1 < rf 2) : ∀ f g, q_rk 24 f ≠ 0 → q_rk 24 g ≠ 0 → rf f = rf g → f = g := by
  intro f g hf hg e
  rcases y_fs24 hf with rfl | rfl | rfl <;> rcases y_fs24 hg with rfl | rfl | rfl <;> first | rfl | (exfalso; omega)
